/-! bits of an int -/
section L2Bits
def tb (v : Int32) (i : Nat) : Bool := v.toBitVec.getLsbD i
def bI (b : Bool) : Int32 := if b = true then 1 else 0
theorem bI_0 {b : Bool} : bI b = 0 ↔ b = false := by cases b <;> decide
theorem bI_nar (b : Bool) : vp_nar .boolean (bI b) = bI b := by cases b <;> decide
theorem bI_jnb (b : Bool) : jnb (bI b) = false := by cases b <;> decide
theorem tb_ext {v w : Int32} (h : ∀ i, i < 32 → tb v i = tb w i) : v = w := by
  apply Int32.toBitVec_inj.mp
  apply BitVec.eq_of_getLsbD_eq
  intro i hi
  exact h i hi
theorem tb_or (v w : Int32) (i : Nat) : tb (v ||| w) i = (tb v i || tb w i) := by simp [tb]
theorem tb_and (v w : Int32) (i : Nat) : tb (v &&& w) i = (tb v i && tb w i) := by simp [tb]
theorem tb_not (v : Int32) (i : Nat) (h : i < 32) : tb (~~~v) i = !tb v i := by simp [tb, h]
theorem tb_0 (i : Nat) : tb 0 i = false := by simp [tb]
theorem tb_ge (v : Int32) (i : Nat) (h : 32 ≤ i) : tb v i = false := by unfold tb; exact BitVec.getLsbD_of_ge _ _ h
theorem bit_two {r : Nat} (h : r < 10) : ((1 : Int32) <<< (nI r &&& 31)).toBitVec = BitVec.twoPow 32 r := by
  have hr' : r = 0 ∨ r = 1 ∨ r = 2 ∨ r = 3 ∨ r = 4 ∨ r = 5 ∨ r = 6 ∨ r = 7 ∨ r = 8 ∨ r = 9 := by omega
  rcases hr' with rfl | rfl | rfl | rfl | rfl | rfl | rfl | rfl | rfl | rfl <;> decide
theorem tb_bit {r : Nat} (h : r < 10) (i : Nat) : tb ((1 : Int32) <<< (nI r &&& 31)) i = decide (i = r) := by
  unfold tb
  rw [bit_two h, BitVec.getLsbD_twoPow]
  by_cases e : i = r
  · subst e; simp; omega
  · simp [e]; omega
theorem shr_r {r : Nat} (h : r < 10) : (nI r &&& 31).toBitVec.smod 32 = BitVec.ofNat 32 r := by
  have hr' : r = 0 ∨ r = 1 ∨ r = 2 ∨ r = 3 ∨ r = 4 ∨ r = 5 ∨ r = 6 ∨ r = 7 ∨ r = 8 ∨ r = 9 := by omega
  rcases hr' with rfl | rfl | rfl | rfl | rfl | rfl | rfl | rfl | rfl | rfl <;> decide
theorem tb_shr {r : Nat} (h : r < 10) (v : Int32) : ((v >>> (nI r &&& 31)) &&& 1) = 1 ↔ tb v r = true := by
  have h0 : tb (v >>> (nI r &&& 31)) 0 = tb v r := by
    unfold tb
    rw [Int32.toBitVec_shiftRight, shr_r h]
    simp [BitVec.sshiftRight_eq', BitVec.getLsbD_sshiftRight]
    have : r % 4294967296 = r := Nat.mod_eq_of_lt (by omega)
    rw [this, ← BitVec.getLsbD_eq_getElem (show 0 < 32 by omega), BitVec.getLsbD_sshiftRight]
    simp
    omega
  constructor
  · intro e
    have := congrArg (fun z => tb z 0) e
    simp only [tb_and] at this
    rw [h0, show tb 1 0 = true from by decide] at this
    simpa using this
  · intro e
    apply tb_ext
    intro i hi
    rw [tb_and]
    by_cases hi0 : i = 0
    · subst hi0; rw [h0, e]; rfl
    · have : tb 1 i = false := by
        have h1 : tb ((1 : Int32) <<< (nI 0 &&& 31)) i = decide (i = 0) := tb_bit (by omega) i
        rw [show ((1 : Int32) <<< (nI 0 &&& 31)) = 1 from by decide] at h1
        rw [h1]; simp [hi0]
      rw [this]; simp
theorem tb_and0 (v w : Int32) : (v &&& w) = 0 ↔ ∀ i, i < 32 → ¬ (tb v i = true ∧ tb w i = true) := by
  constructor
  · intro e i _ hh
    have := congrArg (fun z => tb z i) e
    simp only [tb_and, tb_0] at this
    rw [hh.1, hh.2] at this
    cases this
  · intro hh
    apply tb_ext
    intro i hi
    rw [tb_and, tb_0]
    have := hh i hi
    cases h1 : tb v i <;> cases h2 : tb w i <;> simp_all
theorem tb_andbit {r : Nat} (h : r < 10) (v : Int32) : (v &&& (1 : Int32) <<< (nI r &&& 31)) = 0 ↔ tb v r = false := by
  rw [tb_and0]
  constructor
  · intro hh
    have := hh r (by omega)
    rw [tb_bit h] at this
    simpa using this
  · intro hh i _ h2
    rw [tb_bit h] at h2
    have h3 : i = r := by simpa using h2.2
    rw [h3, hh] at h2
    cases h2.1
end L2Bits
