/-! replace -/
section L2P
theorem pb (a : Int64) (s : UInt64) (t : Int64) (n : Nat) (hn : n ≤ 56) (hs : s.toBitVec = BitVec.ofNat 64 n) (ht : t.toBitVec = BitVec.ofNat 64 n) : ((a.toUInt64 >>> s).toInt64).toInt32 &&& 255 = ((a >>> t) &&& (255 : Int64)).toInt32 := by
  apply Int32.toBitVec.inj
  have h1 : ((a >>> t) &&& (255 : Int64)).toInt32.toBitVec = ((a >>> t) &&& (255 : Int64)).toBitVec.signExtend 32 := rfl
  have h2 : (((a.toUInt64 >>> s).toInt64).toInt32 &&& 255).toBitVec = ((a.toUInt64 >>> s).toBitVec.signExtend 32) &&& 255#32 := rfl
  rw [h1, h2]
  have h3 : (a.toUInt64 >>> s).toBitVec = a.toBitVec >>> n := by
    rw [UInt64.toBitVec_shiftRight, hs]
    apply BitVec.eq_of_toNat_eq
    simp
    have : n % 64 = n := by omega
    rw [this]
  have h4 : ((a >>> t) &&& (255 : Int64)).toBitVec = a.toBitVec.sshiftRight n &&& 255#64 := by
    rw [Int64.toBitVec_and, Int64.toBitVec_shiftRight, ht]
    have : (BitVec.ofNat 64 n).smod 64 = BitVec.ofNat 64 n := by
      have h : ∀ n, n < 57 → (BitVec.ofNat 64 n).smod 64 = BitVec.ofNat 64 n := by decide
      exact h n (by omega)
    rw [this]
    show a.toBitVec.sshiftRight (BitVec.ofNat 64 n).toNat &&& _ = _
    rw [BitVec.toNat_ofNat, Nat.mod_eq_of_lt (by omega)]
    rfl
  rw [h3, h4]
  apply BitVec.eq_of_getLsbD_eq
  intro i hi
  rw [BitVec.getLsbD_and, BitVec.getLsbD_signExtend, BitVec.getLsbD_signExtend, BitVec.getLsbD_and]
  have e32 : i < 32 := hi
  have e64 : i < 64 := by omega
  simp only [e32, e64, decide_true, Bool.true_and, if_true, BitVec.getLsbD_ushiftRight, BitVec.getLsbD_sshiftRight]
  by_cases h8 : i < 8
  · have : n + i < 64 := by omega
    have : ¬ 64 ≤ i := by omega
    have h : ∀ i, i < 8 → (255#32).getLsbD i = (255#64).getLsbD i := by decide
    rw [h i h8]
    simp [*]
  · have h : ∀ i, i < 32 → 8 ≤ i → (255#32).getLsbD i = false ∧ (255#64).getLsbD i = false := by decide
    rw [(h i e32 (by omega)).1, (h i e32 (by omega)).2]
    simp
def byt (a : Int64) (k : Nat) : Int32 := (((a >>> (((56 - (8 * nI k))).toInt64 &&& 63)) &&& (255 : Int64))).toInt32
theorem byteOf_eq (a : Int64) (k : Nat) : f_X6_byteOf a (nI k) = some (byt a k) := rfl
theorem packed_eq {a : Int64} {k : Nat} (h : k < 8) : f_X5_packedByte a (nI k) = some (byt a k) := by
  have h8 : k = 0 ∨ k = 1 ∨ k = 2 ∨ k = 3 ∨ k = 4 ∨ k = 5 ∨ k = 6 ∨ k = 7 := by omega
  unfold f_X5_packedByte byt
  congr 1
  rcases h8 with rfl | rfl | rfl | rfl | rfl | rfl | rfl | rfl
  · exact pb a _ _ 56 (by decide) (by decide) (by decide)
  · exact pb a _ _ 48 (by decide) (by decide) (by decide)
  · exact pb a _ _ 40 (by decide) (by decide) (by decide)
  · exact pb a _ _ 32 (by decide) (by decide) (by decide)
  · exact pb a _ _ 24 (by decide) (by decide) (by decide)
  · exact pb a _ _ 16 (by decide) (by decide) (by decide)
  · exact pb a _ _ 8 (by decide) (by decide) (by decide)
  · exact pb a _ _ 0 (by decide) (by decide) (by decide)
def nz (a : Int64) (j : Nat) : Nat := if byt a j = 0 then 0 else 1
def cb (a : Int64) (k : Nat) : Nat := cnt (nz a) k
theorem cb_le (a : Int64) (k : Nat) : cb a k ≤ k := cnt_le _ (fun i => by unfold nz; split <;> omega) k
theorem cb_s (a : Int64) (k : Nat) : cb a (k + 1) = cb a k + nz a k := rfl
theorem cb_mono (a : Int64) (k : Nat) : ∀ d, cb a k ≤ cb a (k + d) := by
  intro d
  induction d with
  | zero => exact Nat.le_refl _
  | succ d ih => rw [← Nat.add_assoc, cb_s]; omega
theorem cb_le8 (a : Int64) {k : Nat} (h : k ≤ 8) : cb a k ≤ cb a 8 := by
  have := cb_mono a k (8 - k)
  rwa [show k + (8 - k) = 8 from by omega] at this
def okB (a : Int64) (j : Nat) : Prop := byt a j = 0 ∨ f_X5_isByte (byt a j) = some 1
theorem okB_no {a : Int64} {j : Nat} (h : ¬ okB a j) : byt a j ≠ 0 ∧ f_X5_isByte (byt a j) = some 0 := by
  refine ⟨fun e => h (Or.inl e), ?_⟩
  rcases isByte_is (byt a j) with h1 | h1
  · exact h1
  · exact absurd (Or.inr h1) h
theorem areB_yes {a : Int64} {K : Int64 → Int32 → Option Int32} : ∀ (d k N : Nat), k + d = 8 → d < N → (∀ j, k ≤ j → j < 8 → okB a j) → f_X5_areBytes_2 K N a (nI k) = K a (nI 8) := by
  intro d
  induction d with
  | zero =>
    intro k N hk hN _
    obtain ⟨N, rfl⟩ : ∃ z, N = z + 1 := ⟨N - 1, by omega⟩
    have : k = 8 := by omega
    subst this
    rw [f_X5_areBytes_2, if_pos (show nI 8 ≥ 8 from by decide)]
  | succ d ih =>
    intro k N hk hN hb
    obtain ⟨N, rfl⟩ : ∃ z, N = z + 1 := ⟨N - 1, by omega⟩
    rw [f_X5_areBytes_2, if_neg (show ¬ nI k ≥ 8 from nI_ge (b := 8) (by omega) (by omega)), packed_eq (by omega)]
    have ih' := ih (k + 1) N (by omega) (by omega) (fun j h1 h2 => hb j (by omega) h2)
    simp only [Option.bind_some, jl]
    by_cases h0 : byt a k = 0
    · rw [if_pos h0, nI_1]; exact ih'
    · have h1 : f_X5_isByte (byt a k) = some 1 := (hb k (Nat.le_refl _) (by omega)).resolve_left h0
      rw [if_neg h0, h1]
      simp only [Option.bind_some]
      rw [if_neg (by decide), nI_1]; exact ih'
theorem areB_no {a : Int64} {K : Int64 → Int32 → Option Int32} : ∀ (d k N : Nat), k + d = 8 → d < N → (∃ j, k ≤ j ∧ j < 8 ∧ ¬ okB a j) → f_X5_areBytes_2 K N a (nI k) = some 0 := by
  intro d
  induction d with
  | zero =>
    intro k N hk hN ⟨j, h1, h2, _⟩
    omega
  | succ d ih =>
    intro k N hk hN ⟨j, h1, h2, h3⟩
    obtain ⟨N, rfl⟩ : ∃ z, N = z + 1 := ⟨N - 1, by omega⟩
    rw [f_X5_areBytes_2, if_neg (show ¬ nI k ≥ 8 from nI_ge (b := 8) (by omega) (by omega)), packed_eq (by omega)]
    simp only [Option.bind_some, jl]
    by_cases hk2 : okB a k
    · have hne : j ≠ k := fun e => h3 (e ▸ hk2)
      have ih' := ih (k + 1) N (by omega) (by omega) ⟨j, by omega, h2, h3⟩
      by_cases h0 : byt a k = 0
      · rw [if_pos h0, nI_1]; exact ih'
      · have h1 : f_X5_isByte (byt a k) = some 1 := hk2.resolve_left h0
        rw [if_neg h0, h1]
        simp only [Option.bind_some]
        rw [if_neg (by decide), nI_1]; exact ih'
    · rw [if_neg (okB_no hk2).1, (okB_no hk2).2]
      simp only [Option.bind_some]
      rw [if_pos trivial]
theorem areBytes_yes {a : Int64} (h : ∀ j, j < 8 → okB a j) : f_X5_areBytes a = some 1 := areB_yes (K := fun _ _ => some 1) 8 0 jFuel rfl (jFuel_gt (by omega)) (fun j _ h2 => h j h2)
theorem areBytes_no {a : Int64} (h : ¬ ∀ j, j < 8 → okB a j) : f_X5_areBytes a = some 0 := by
  refine areB_no (K := fun _ _ => some 1) 8 0 jFuel rfl (jFuel_gt (by omega)) ?_
  refine Classical.byContradiction fun hn => h fun j hj => Classical.byContradiction fun h2 => hn ⟨j, by omega, hj, h2⟩
theorem countB {a : Int64} {K : Int64 → Int32 → Int32 → Option Int32} : ∀ (d k N : Nat), k + d = 8 → d < N → f_X5_countBytes_4 K N a (nI (cb a k)) (nI k) = K a (nI (cb a 8)) (nI 8) := by
  intro d
  induction d with
  | zero =>
    intro k N hk hN
    obtain ⟨N, rfl⟩ : ∃ z, N = z + 1 := ⟨N - 1, by omega⟩
    have : k = 8 := by omega
    subst this
    rw [f_X5_countBytes_4, if_pos (show nI 8 ≥ 8 from by decide)]
  | succ d ih =>
    intro k N hk hN
    obtain ⟨N, rfl⟩ : ∃ z, N = z + 1 := ⟨N - 1, by omega⟩
    rw [f_X5_countBytes_4, if_neg (show ¬ nI k ≥ 8 from nI_ge (b := 8) (by omega) (by omega)), packed_eq (by omega)]
    have ih' := ih (k + 1) N (by omega) (by omega)
    rw [cb_s] at ih'
    simp only [Option.bind_some, jl]
    by_cases h0 : byt a k = 0
    · rw [show nz a k = 0 from if_pos h0] at ih'
      rw [if_pos h0, nI_1]; exact ih'
    · rw [show nz a k = 1 from if_neg h0] at ih'
      rw [if_neg h0, nI_1, nI_1]; exact ih'
theorem countBytes_eq (a : Int64) : f_X5_countBytes a = some (nI (cb a 8)) := countB (K := fun _ y _ => some y) 8 0 jFuel rfl (jFuel_gt (by omega))
theorem m39_yes {a : Int64} {st : jS} {v1 v2 : Int32} {K : jS → Int32 → Int32 → Int64 → Int32 → Int32 → Option (Int32 × jS)} : ∀ (d k N : Nat), k + d = 8 → d < N → (∀ j, k ≤ j → j < 8 → okB a j) → f_X6_replace_39 K N st v1 v2 a (nI (cb a k)) (nI k) = K st v1 v2 a (nI (cb a 8)) (nI 8) := by
  intro d
  induction d with
  | zero =>
    intro k N hk hN _
    obtain ⟨N, rfl⟩ : ∃ z, N = z + 1 := ⟨N - 1, by omega⟩
    have : k = 8 := by omega
    subst this
    rw [f_X6_replace_39, if_pos (show nI 8 ≥ 8 from by decide)]
  | succ d ih =>
    intro k N hk hN hb
    obtain ⟨N, rfl⟩ : ∃ z, N = z + 1 := ⟨N - 1, by omega⟩
    rw [f_X6_replace_39, if_neg (show ¬ nI k ≥ 8 from nI_ge (b := 8) (by omega) (by omega)), byteOf_eq]
    have ih' := ih (k + 1) N (by omega) (by omega) (fun j h1 h2 => hb j (by omega) h2)
    rw [cb_s] at ih'
    simp only [Option.bind_some, jl]
    by_cases h0 : byt a k = 0
    · rw [show nz a k = 0 from if_pos h0] at ih'
      rw [if_pos h0, if_pos h0, nI_1, Int32.add_zero]; exact ih'
    · have h1 : f_X6_isByte (byt a k) = some 1 := (hb k (Nat.le_refl _) (by omega)).resolve_left h0
      rw [show nz a k = 1 from if_neg h0] at ih'
      rw [if_neg h0, h1]
      simp only [Option.bind_some]
      rw [if_neg (by decide), if_neg h0, nI_1, nI_1]; exact ih'
theorem m39_no {a : Int64} {st : jS} {v1 v2 : Int32} {K : jS → Int32 → Int32 → Int64 → Int32 → Int32 → Option (Int32 × jS)} : ∀ (d k N : Nat), k + d = 8 → d < N → (∃ j, k ≤ j ∧ j < 8 ∧ ¬ okB a j) → f_X6_replace_39 K N st v1 v2 a (nI (cb a k)) (nI k) = some (0, jis st 0 2) := by
  intro d
  induction d with
  | zero =>
    intro k N hk hN ⟨j, h1, h2, _⟩
    omega
  | succ d ih =>
    intro k N hk hN ⟨j, h1, h2, h3⟩
    obtain ⟨N, rfl⟩ : ∃ z, N = z + 1 := ⟨N - 1, by omega⟩
    rw [f_X6_replace_39, if_neg (show ¬ nI k ≥ 8 from nI_ge (b := 8) (by omega) (by omega)), byteOf_eq]
    simp only [Option.bind_some, jl]
    by_cases hk2 : okB a k
    · have hne : j ≠ k := fun e => h3 (e ▸ hk2)
      have ih' := ih (k + 1) N (by omega) (by omega) ⟨j, by omega, h2, h3⟩
      rw [cb_s] at ih'
      by_cases h0 : byt a k = 0
      · rw [show nz a k = 0 from if_pos h0] at ih'
        rw [if_pos h0, if_pos h0, nI_1, Int32.add_zero]; exact ih'
      · have h1 : f_X6_isByte (byt a k) = some 1 := hk2.resolve_left h0
        rw [show nz a k = 1 from if_neg h0] at ih'
        rw [if_neg h0, h1]
        simp only [Option.bind_some]
        rw [if_neg (by decide), if_neg h0, nI_1, nI_1]; exact ih'
    · have h1 : f_X6_isByte (byt a k) = some 0 := (okB_no hk2).2
      rw [if_neg (okB_no hk2).1, h1]
      simp only [Option.bind_some]
      rw [if_pos trivial]
      rfl
/-- the new bytes, written from A on -/
def wr (a : Int64) (A : Nat) : Nat → (Nat → Int32) → Nat → Int32
  | 0, f => f
  | d + 1, f => wr a A d (if byt a (7 - d) = 0 then f else upd f (A + cb a (7 - d)) (byt a (7 - d)))
theorem wr_out {a : Int64} {A i : Nat} : ∀ (d k : Nat) (f : Nat → Int32), k + d = 8 → (i < A + cb a k ∨ A + cb a 8 ≤ i) → wr a A d f i = f i := by
  intro d
  induction d with
  | zero => intro k f _ _; rfl
  | succ d ih =>
    intro k f hk h
    have e : 7 - d = k := by omega
    rw [wr, e]
    have h8 := cb_le8 a (show k + 1 ≤ 8 by omega)
    have hs := cb_s a k
    rw [ih (k + 1) _ (by omega) (by omega)]
    by_cases h0 : byt a k = 0
    · rw [if_pos h0]
    · rw [show nz a k = 1 from if_neg h0] at hs
      rw [if_neg h0, upd_ne (by omega)]
theorem wr_in {a : Int64} {A i : Nat} : ∀ (d k : Nat) (f g : Nat → Int32), k + d = 8 → A + cb a k ≤ i → i < A + cb a 8 → wr a A d f i = wr a A d g i := by
  intro d
  induction d with
  | zero => intro k f g hk h1 h2; rw [show k = 8 by omega] at h1; omega
  | succ d ih =>
    intro k f g hk h1 h2
    have e : 7 - d = k := by omega
    rw [wr, wr, e]
    have hs := cb_s a k
    by_cases h0 : byt a k = 0
    · rw [show nz a k = 0 from if_pos h0] at hs
      rw [if_pos h0, if_pos h0]
      exact ih (k + 1) _ _ (by omega) (by omega) h2
    · rw [show nz a k = 1 from if_neg h0] at hs
      rw [if_neg h0, if_neg h0]
      by_cases hi : i = A + cb a k
      · rw [wr_out d (k + 1) _ (by omega) (Or.inl (by omega)), wr_out d (k + 1) _ (by omega) (Or.inl (by omega)), hi, upd_self, upd_self]
      · exact ih (k + 1) _ _ (by omega) (by omega) h2
theorem jaf_jaf (st : jS) (k : Nat) (f g : Nat → Int32) : jaf (jaf st k f) k g = jaf st k g := by
  show (va_up (va_up st.1 k f) k g, st.2) = (va_up st.1 k g, st.2)
  congr 1
  funext j
  unfold va_up
  split <;> rfl
theorem jaf_same (st : jS) (k : Nat) : jaf st k (st.1 k) = st := by
  show (va_up st.1 k (st.1 k), st.2) = st
  have : va_up st.1 k (st.1 k) = st.1 := by
    funext j
    unfold va_up
    split
    · rename_i h; rw [h]
    · rfl
  rw [this]
theorem jaf_self (st : jS) (k : Nat) (f : Nat → Int32) : (jaf st k f).1 k = f := va_up_self _ _ _
theorem splice_loop {a : Int64} {A : Nat} {v1 v2 v5 v6 : Int32} {K : jS → Int32 → Int32 → Int64 → Int32 → Int32 → Int32 → Int32 → Option jS} (hA : A + cb a 8 ≤ 40) : ∀ (d k N : Nat) (st : jS), k + d = 8 → d < N → f_X4_splice_41 K N st v1 v2 a v5 v6 (nI (A + cb a k)) (nI k) = K (jaf st 10 (wr a A d (st.1 10))) v1 v2 a v5 v6 (nI (A + cb a 8)) (nI 8) := by
  intro d
  induction d with
  | zero =>
    intro k N st hk hN
    obtain ⟨N, rfl⟩ : ∃ z, N = z + 1 := ⟨N - 1, by omega⟩
    have : k = 8 := by omega
    subst this
    rw [f_X4_splice_41, if_pos (show nI 8 ≥ 8 from by decide), wr, jaf_same]
  | succ d ih =>
    intro k N st hk hN
    obtain ⟨N, rfl⟩ : ∃ z, N = z + 1 := ⟨N - 1, by omega⟩
    have e : 7 - d = k := by omega
    have h8 := cb_le8 a (show k + 1 ≤ 8 by omega)
    have hs := cb_s a k
    rw [f_X4_splice_41, if_neg (show ¬ nI k ≥ 8 from nI_ge (b := 8) (by omega) (by omega)), packed_eq (by omega), wr, e]
    simp only [Option.bind_some, jl]
    by_cases h0 : byt a k = 0
    · rw [show nz a k = 0 from if_pos h0] at hs
      rw [if_pos h0, if_pos h0, nI_1]
      have := ih (k + 1) N st (by omega) (by omega)
      rw [hs] at this
      exact this
    · rw [show nz a k = 1 from if_neg h0] at hs
      rw [if_neg h0, if_neg h0, nI_1, nI_1, job_nI (by omega) (by omega), cond_false, jas_nI (by omega)]
      have := ih (k + 1) N (jaf st 10 (upd (st.1 10) (A + cb a k) (byt a k))) (by omega) (by omega)
      rw [hs, jaf_self, jaf_jaf] at this
      exact this
theorem m153_loop {a : Int64} {A : Nat} {v1 v2 v5 : Int32} {K : jS → Int32 → Int32 → Int64 → Int32 → Int32 → Int32 → Option (Int32 × jS)} (hA : A + cb a 8 ≤ 40) : ∀ (d k N : Nat) (st : jS), k + d = 8 → d < N → f_X6_replace_153 K N st v1 v2 a v5 (nI (A + cb a k)) (nI k) = K (jaf st 20 (wr a A d (st.1 20))) v1 v2 a v5 (nI (A + cb a 8)) (nI 8) := by
  intro d
  induction d with
  | zero =>
    intro k N st hk hN
    obtain ⟨N, rfl⟩ : ∃ z, N = z + 1 := ⟨N - 1, by omega⟩
    have : k = 8 := by omega
    subst this
    rw [f_X6_replace_153, if_pos (show nI 8 ≥ 8 from by decide), wr, jaf_same]
  | succ d ih =>
    intro k N st hk hN
    obtain ⟨N, rfl⟩ : ∃ z, N = z + 1 := ⟨N - 1, by omega⟩
    have e : 7 - d = k := by omega
    have h8 := cb_le8 a (show k + 1 ≤ 8 by omega)
    have hs := cb_s a k
    rw [f_X6_replace_153, if_neg (show ¬ nI k ≥ 8 from nI_ge (b := 8) (by omega) (by omega)), byteOf_eq, wr, e]
    simp only [Option.bind_some, jl]
    by_cases h0 : byt a k = 0
    · rw [show nz a k = 0 from if_pos h0] at hs
      rw [if_pos h0, if_pos h0, nI_1]
      have := ih (k + 1) N st (by omega) (by omega)
      rw [hs] at this
      exact this
    · rw [show nz a k = 1 from if_neg h0] at hs
      rw [if_neg h0, if_neg h0, nI_1, nI_1, job_nI (by omega) (by omega), cond_false, jas_nI (by omega)]
      have := ih (k + 1) N (jaf st 20 (upd (st.1 20) (A + cb a k) (byt a k))) (by omega) (by omega)
      rw [hs, jaf_self, jaf_jaf] at this
      exact this
theorem m123_loop {a : Int64} {A : Nat} {v2 v5 : Int32} {K : jS → Int32 → Int32 → Int64 → Int32 → Int32 → Option (Int32 × jS)} (hA : A ≤ 40) : ∀ (d k N : Nat) (st : jS), k + d = A → d < N → ∃ g, f_X6_replace_123 K N st (nI A) v2 a v5 (nI k) = K (jaf st 20 g) (nI A) v2 a v5 (nI A) ∧ (∀ i, k ≤ i → i < A → g i = st.1 5 i) ∧ ∀ i, i < k → g i = st.1 20 i := by
  intro d
  induction d with
  | zero =>
    intro k N st hk hN
    obtain ⟨N, rfl⟩ : ∃ z, N = z + 1 := ⟨N - 1, by omega⟩
    have : k = A := by omega
    subst this
    refine ⟨st.1 20, ?_, fun i h1 h2 => by omega, fun i _ => rfl⟩
    rw [f_X6_replace_123, if_pos (show nI k ≥ nI k from Int32.le_refl _), jaf_same]
  | succ d ih =>
    intro k N st hk hN
    obtain ⟨N, rfl⟩ : ∃ z, N = z + 1 := ⟨N - 1, by omega⟩
    obtain ⟨g, h1, h2, h3⟩ := ih (k + 1) N (jaf st 20 (upd (st.1 20) k (st.1 5 k))) (by omega) (by omega)
    rw [jaf_jaf] at h1
    refine ⟨g, ?_, fun i h4 h5 => ?_, fun i h4 => ?_⟩
    · rw [f_X6_replace_123, if_neg (show ¬ nI k ≥ nI A from nI_ge (by omega) (by omega)), job_nI (by omega) (by omega)]
      simp only [jl, cond_false]
      rw [jas_nI (by omega), jag_nI (by omega), nI_1]
      exact h1
    · by_cases hi : i = k
      · rw [h3 i (by omega), jaf_self, hi, upd_self]
      · exact h2 i (by omega) h5
    · rw [h3 i (by omega), jaf_self, upd_ne (by omega)]
theorem nI_sub {a b : Nat} (h : b ≤ a) : nI a - nI b = nI (a - b) := by
  have h1 : nI (a - b) + nI b = nI a := by rw [nI_add]; congr 1; omega
  rw [← h1]
  grind
/-- the tail: from B on, moved by added - many -/
theorem m197_loop {a : Int64} {A many added sz : Nat} {v1 v7 : Int32} {K : jS → Int32 → Int32 → Int64 → Int32 → Int32 → Int32 → Option (Int32 × jS)} (hs : sz ≤ 40) (hA : A + many ≤ sz) (h40 : sz + added ≤ 40 + many) : ∀ (d k N : Nat) (st : jS), k + d = sz → d < N → A + many ≤ k → st.2 2 = nI sz → ∃ g, f_X6_replace_197 K N st v1 (nI many) a (nI added) v7 (nI k) = K (jaf st 20 g) v1 (nI many) a (nI added) v7 (nI sz) ∧ (∀ i, k ≤ i → i < sz → g (i + added - many) = st.1 5 i) ∧ ∀ i, i + many < k + added → g i = st.1 20 i := by
  intro d
  induction d with
  | zero =>
    intro k N st hk hN hB hst
    obtain ⟨N, rfl⟩ : ∃ z, N = z + 1 := ⟨N - 1, by omega⟩
    have : k = sz := by omega
    subst this
    refine ⟨st.1 20, ?_, fun i h1 h2 => by omega, fun i _ => rfl⟩
    rw [f_X6_replace_197, if_pos (show nI k ≥ st.2 2 by rw [hst]; exact Int32.le_refl _), jaf_same]
  | succ d ih =>
    intro k N st hk hN hB hst
    obtain ⟨N, rfl⟩ : ∃ z, N = z + 1 := ⟨N - 1, by omega⟩
    obtain ⟨g, h1, h2, h3⟩ := ih (k + 1) N (jaf st 20 (upd (st.1 20) (k + added - many) (st.1 5 k))) (by omega) (by omega) (by omega) hst
    rw [jaf_jaf] at h1
    refine ⟨g, ?_, fun i h4 h5 => ?_, fun i h4 => ?_⟩
    · rw [f_X6_replace_197, if_neg (show ¬ nI k ≥ st.2 2 by rw [hst]; exact nI_ge (by omega) (by omega)), nI_add, nI_sub (by omega), job_nI (by omega) (by omega), job_nI (by omega) (by omega)]
      simp only [jl, cond_false]
      rw [jas_nI (by omega), jag_nI (by omega), nI_1]
      exact h1
    · by_cases hi : i = k
      · rw [h3 _ (by omega), jaf_self, hi, upd_self]
      · exact h2 i (by omega) h5
    · rw [h3 i (by omega), jaf_self, upd_ne (by omega)]
theorem jcb_ok {a b c : Nat} (h1 : a + c ≤ 40) (h2 : b + c ≤ 40) : jcb (nI a) (nI b) (nI c) 40 = false := by
  unfold jcb
  rw [nI_clamp (by omega), nI_clamp (by omega), nI_clamp (by omega)]
  have p1 := nI_pos (n := a) (by omega)
  have p2 := nI_pos (n := b) (by omega)
  have p3 := nI_pos (n := c) (by omega)
  have p4 : ¬ 40 < a + c := by omega
  have p5 : ¬ 40 < b + c := by omega
  simp only [p1, p2, p3, p4, p5, decide_false, Bool.or_self]
theorem splice_eq {a : Int64} {A many sz : Nat} {x : jS} (hs : x.2 1 = nI sz) (hsz : sz ≤ 40) (hA : A + many ≤ sz) (h40 : sz + cb a 8 ≤ 40 + many) : ∃ f, f_X4_splice x (nI A) (nI many) a = some (jis (jaf x 10 f) 1 (nI (sz + cb a 8 - many))) ∧ f = wr a A 8 (va_cpy (x.1 10) (x.1 10) (A + many) (A + cb a 8) (sz - (A + many))) := by
  refine ⟨_, ?_, rfl⟩
  rw [f_X4_splice, countBytes_eq, Option.bind_some, jl_eq, nI_add, hs, nI_add, nI_sub hA, jcb_ok (by omega) (by omega), cond_false, jl_eq, nI_clamp (by omega), nI_clamp (by omega), nI_clamp (by omega)]
  have h := splice_loop (a := a) (A := A) (v1 := nI A) (v2 := nI many) (v5 := nI (cb a 8)) (v6 := nI (A + many)) (K := fun s20 y13 y14 y15 y16 y17 y18 y19 =>
    jl (jis s20 1 ((s20.2 1) + (y16 - y14))) fun s21 =>
    some s21) (by omega) 8 0 jFuel (jaf x 10 (va_cpy (x.1 10) (x.1 10) (A + many) (A + cb a 8) (sz - (A + many)))) rfl (jFuel_gt (by omega))
  refine Eq.trans h ?_
  rw [jl_eq, jaf_self, jaf_jaf]
  have e : nI sz + (nI (cb a 8) - nI many) = nI (sz + cb a 8 - many) := by
    rw [← nI_sub (by omega), ← nI_add]
    grind
  show some (jis (jaf x 10 _) 1 (x.2 1 + _)) = _
  rw [hs, e]
/-- the class's memory: what is kept in front of the edit -/
def hld (x : jS) (c : Nat) : Prop := x.1 12 c ≠ -3
def emX (x : jS) (c : Nat) : Prop := x.1 12 c = -3 ∧ x.1 13 c = -1
def smX (x x' : jS) (c : Nat) : Prop := x'.1 12 c = x.1 12 c ∧ x'.1 13 c = x.1 13 c ∧ x'.1 14 c = x.1 14 c
def frX (x x' : jS) : Prop := x'.2 = x.2 ∧ ∀ j, j ≠ 12 → j ≠ 13 → j ≠ 14 → x'.1 j = x.1 j
theorem frX.refl (x : jS) : frX x x := ⟨rfl, fun _ _ _ _ => rfl⟩
theorem frX.trans {x y z : jS} (h : frX x y) (h2 : frX y z) : frX x z := ⟨h2.1.trans h.1, fun j a b c => (h2.2 j a b c).trans (h.2 j a b c)⟩
theorem smX.refl (x : jS) (c : Nat) : smX x x c := ⟨rfl, rfl, rfl⟩
theorem smX.trans {x y z : jS} {c : Nat} (h : smX x y c) (h2 : smX y z c) : smX x z c := ⟨h2.1.trans h.1, h2.2.1.trans h.2.1, h2.2.2.trans h.2.2⟩
/-- cells that are dropped -/
def gone (x : jS) (A c : Nat) : Prop := hld x c ∧ ¬ x.1 13 c ≤ nI A
noncomputable def gX (x : jS) (A c : Nat) : Nat := @ite _ (gone x A c) (Classical.propDecidable _) 1 0
theorem keepU_loop {A B : Nat} {x : jS} {K : jS → Int32 → Int32 → Int32 → Int32 → Option (Int32 × jS)} (hB : B ≤ 40) : ∀ (d k N : Nat) (st : jS), k + d = 10 * B → d < N → frX x st → (∀ c, k ≤ c → c < 410 → smX x st c) → (∀ c, c < k → (gone x A c → emX st c) ∧ (¬ gone x A c → smX x st c)) → ∃ st', f_X1_keepUnchanged_5 K N st (nI A) (nI B) (nI (cnt (gX x A) k)) (nI k) = K st' (nI A) (nI B) (nI (cnt (gX x A) (10 * B))) (nI (10 * B)) ∧ frX x st' ∧ (∀ c, 10 * B ≤ c → c < 410 → smX x st' c) ∧ (∀ c, c < 10 * B → (gone x A c → emX st' c) ∧ (¬ gone x A c → smX x st' c)) := by
  intro d
  induction d with
  | zero =>
    intro k N st hk hN h1 h2 h3
    obtain ⟨N, rfl⟩ : ∃ z, N = z + 1 := ⟨N - 1, by omega⟩
    have : k = 10 * B := by omega
    subst this
    refine ⟨st, ?_, h1, h2, h3⟩
    rw [f_X1_keepUnchanged_5, if_pos (show nI (10 * B) ≥ nI B * 10 by rw [show (10 : Int32) = nI 10 from rfl, nI_mul, Nat.mul_comm]; exact Int32.le_refl _)]
  | succ d ih =>
    intro k N st hk hN h1 h2 h3
    obtain ⟨N, rfl⟩ : ∃ z, N = z + 1 := ⟨N - 1, by omega⟩
    rw [f_X1_keepUnchanged_5, if_neg (show ¬ nI k ≥ nI B * 10 by rw [show (10 : Int32) = nI 10 from rfl, nI_mul, Nat.mul_comm]; exact nI_ge (by omega) (by omega)), holds_eq (by omega)]
    have hs : cnt (gX x A) (k + 1) = cnt (gX x A) k + gX x A k := rfl
    have hk2 := h2 k (Nat.le_refl _) (by omega)
    simp only [Option.bind_some]
    by_cases hh : hld x k
    · have hh2 : ¬ st.1 12 k = -3 := by rw [hk2.1]; exact hh
      rw [if_neg hh2, if_neg (by decide), job_nI (by omega) (by omega), cond_false, jag_nI (by omega), hk2.2.1]
      by_cases hr : x.1 13 k ≤ nI A
      · have hg : ¬ gone x A k := fun h => h.2 hr
        rw [if_pos hr, jl_eq, nI_1]
        rw [show gX x A k = 0 from if_neg hg] at hs
        obtain ⟨st', g1, g2⟩ := ih (k + 1) N st (by omega) (by omega) h1 (fun c h4 h5 => h2 c (by omega) h5) (fun c h4 => by
          by_cases hc : c = k
          · subst hc; exact ⟨fun h => absurd h hg, fun _ => hk2⟩
          · exact h3 c (by omega))
        rw [hs] at g1
        exact ⟨st', g1, g2⟩
      · have hg : gone x A k := ⟨hh, hr⟩
        rw [show gX x A k = 1 from if_pos hg] at hs
        obtain ⟨st1, e1, e2, e3, e4, e5, e6⟩ := drop_eq (x := st) (c := k) (by omega)
        rw [if_neg hr, e1, Option.bind_some, jl_eq, jl_eq, nI_1, nI_1]
        have hsm : ∀ c, c ≠ k → smX st st1 c := fun c hc => ⟨by rw [e4, upd_ne hc], by rw [e5, upd_ne hc], by rw [e6, upd_ne hc]⟩
        obtain ⟨st', g1, g2⟩ := ih (k + 1) N st1 (by omega) (by omega) (h1.trans ⟨e2, e3⟩) (fun c h4 h5 => (h2 c (by omega) h5).trans (hsm c (by omega))) (fun c h4 => by
          by_cases hc : c = k
          · subst hc; exact ⟨fun _ => ⟨by rw [e4, upd_self], by rw [e5, upd_self]⟩, fun h => absurd hg h⟩
          · have h6 := hsm c hc
            exact ⟨fun h => ⟨h6.1.trans ((h3 c (by omega)).1 h).1, h6.2.1.trans ((h3 c (by omega)).1 h).2⟩, fun h => ((h3 c (by omega)).2 h).trans h6⟩)
        rw [hs] at g1
        exact ⟨st', g1, g2⟩
    · have hh2 : st.1 12 k = -3 := by rw [hk2.1]; exact Classical.not_not.mp hh
      have hg : ¬ gone x A k := fun h => hh h.1
      rw [if_pos hh2, if_pos rfl, jl_eq, nI_1]
      rw [show gX x A k = 0 from if_neg hg] at hs
      obtain ⟨st', g1, g2⟩ := ih (k + 1) N st (by omega) (by omega) h1 (fun c h4 h5 => h2 c (by omega) h5) (fun c h4 => by
        by_cases hc : c = k
        · subst hc; exact ⟨fun h => absurd h hg, fun _ => hk2⟩
        · exact h3 c (by omega))
      rw [hs] at g1
      exact ⟨st', g1, g2⟩
theorem keepU_eq (x : jS) {A B : Nat} (hB : B ≤ 40) : ∃ st', f_X1_keepUnchanged x (nI A) (nI B) = some (nI (cnt (gX x A) (10 * B)), st') ∧ frX x st' ∧ (∀ c, 10 * B ≤ c → c < 410 → smX x st' c) ∧ (∀ c, c < 10 * B → (gone x A c → emX st' c) ∧ (¬ gone x A c → smX x st' c)) := by
  obtain ⟨st', h1, h2⟩ := keepU_loop (A := A) (x := x) (K := fun s15 y11 y12 y13 y14 => some (y13, s15)) hB (10 * B) 0 jFuel x (by omega) (jFuel_gt (by omega)) (frX.refl x) (fun c _ _ => smX.refl x c) (fun c h => by omega)
  refine ⟨st', ?_, h2⟩
  rw [f_X1_keepUnchanged]
  exact h1
/-- s, moved, lies at c -/
def shX (x x' : jS) (b : Int32) (s c : Nat) : Prop := (x.1 12 s = -1 → x'.1 12 c = -1) ∧ (x.1 12 s ≠ -1 → x'.1 12 c = x.1 12 s + b) ∧ x'.1 13 c = x.1 13 s + b ∧ x'.1 14 c = x.1 14 s
def ivX (x x' : jS) (many added : Nat) (S : Nat → Prop) : Prop := frX x x' ∧ ∀ c, c < 410 → (∀ s, s + 10 * added = c + 10 * many → S s → hld x s → shX x x' (nI added - nI many) s c) ∧ ((∀ s, s + 10 * added = c + 10 * many → S s → ¬ hld x s) → (S c → emX x' c) ∧ (¬ S c → smX x x' c))
theorem ivX.congr {x x' : jS} {many added : Nat} {S T : Nat → Prop} (h : ivX x x' many added S) (hST : ∀ s, S s ↔ T s) : ivX x x' many added T := by
  have : S = T := funext fun s => propext (hST s)
  rw [← this]; exact h
theorem ivX.step {x x' : jS} {many added k : Nat} {S : Nat → Prop} (h : ivX x x' many added S) (hk : k < 410) (hS : ¬ S k) (hord : ∀ s, s + 10 * added = k + 10 * many → ¬ S s) (hne : added ≠ many) (ht : hld x k → ∃ t, t < 410 ∧ t + 10 * many = k + 10 * added) (hem : ¬ hld x k → x.1 13 k = -1) : ∃ x'', f_X1_move x' (nI k) (nI added - nI many) = some x'' ∧ ivX x x'' many added (fun s => S s ∨ s = k) := by
  have hkk : smX x x' k := ((h.2 k hk).2 (fun s h1 h2 => absurd h2 (hord s h1))).2 hS
  by_cases hh : hld x k
  · obtain ⟨t, ht1, ht2⟩ := ht hh
    have htk : t ≠ k := by omega
    have hh2 : ¬ x'.1 12 k = -3 := by rw [hkk.1]; exact hh
    have et : nI k + (nI added - nI many) * 10 = nI t := by
      have h1 : nI t + nI (10 * many) = nI k + nI (10 * added) := by rw [nI_add, nI_add, ht2]
      rw [← nI_mul, ← nI_mul, show nI 10 = 10 from rfl] at h1
      grind
    -- the written state
    have fin : ∀ v : Int32, (x.1 12 k = -1 → v = -1) → (x.1 12 k ≠ -1 → v = x.1 12 k + (nI added - nI many)) → ∃ x'', ((f_X1_put x' (nI t) v (x.1 13 k + (nI added - nI many)) (x.1 14 k)).bind fun r => (f_X1_drop r (nI k)).bind fun r2 => some r2) = some x'' ∧ ivX x x'' many added (fun s => S s ∨ s = k) := by
      intro v hv1 hv2
      obtain ⟨y, e1, e2, e3, e4, e5, e6⟩ := put_eq (x := x') (c := t) (a := v) (b := x.1 13 k + (nI added - nI many)) (d := x.1 14 k) ht1
      obtain ⟨z, g1, g2, g3, g4, g5, g6⟩ := drop_eq (x := y) (c := k) hk
      refine ⟨z, by rw [e1, Option.bind_some, g1, Option.bind_some], (h.1.trans ⟨e2, e3⟩).trans ⟨g2, g3⟩, fun c hc => ?_⟩
      have hoth : c ≠ t → c ≠ k → smX x' z c := fun h1 h2 => ⟨by rw [g4, upd_ne h2, e4, upd_ne h1], by rw [g5, upd_ne h2, e5, upd_ne h1], by rw [g6, upd_ne h2, e6, upd_ne h1]⟩
      refine ⟨fun s h1 h2 h3 => ?_, fun h1 => ?_⟩
      · rcases h2 with h2 | h2
        · have c1 : c ≠ k := fun e => hord s (e ▸ h1) h2
          have c2 : c ≠ t := fun e => by
            have : s = k := by omega
            exact hS (this ▸ h2)
          have h4 := (h.2 c hc).1 s h1 h2 h3
          have h5 := hoth c2 c1
          exact ⟨fun e => h5.1.trans (h4.1 e), fun e => h5.1.trans (h4.2.1 e), h5.2.1.trans h4.2.2.1, h5.2.2.trans h4.2.2.2⟩
        · have : c = t := by omega
          subst this
          subst h2
          exact ⟨fun e => by rw [g4, upd_ne htk, e4, upd_self]; exact hv1 e, fun e => by rw [g4, upd_ne htk, e4, upd_self]; exact hv2 e, by rw [g5, upd_ne htk, e5, upd_self], by rw [g6, upd_ne htk, e6, upd_self]⟩
      · have c2 : c ≠ t := fun e => h1 k (by omega) (Or.inr rfl) hh
        by_cases c1 : c = k
        · subst c1
          exact ⟨fun _ => ⟨by rw [g4, upd_self], by rw [g5, upd_self]⟩, fun h2 => absurd (Or.inr rfl) h2⟩
        · have h4 := (h.2 c hc).2 (fun s h5 h6 => h1 s h5 (Or.inl h6))
          have h5 := hoth c2 c1
          exact ⟨fun h2 => ⟨h5.1.trans (h4.1 (h2.resolve_right c1)).1, h5.2.1.trans (h4.1 (h2.resolve_right c1)).2⟩, fun h2 => (h4.2 (fun h6 => h2 (Or.inl h6))).trans h5⟩
    rw [f_X1_move, jl_eq, holds_eq hk, Option.bind_some, et]
    simp only [hh2, if_false]
    rw [if_neg (by decide), if_neg (nI_pos (by omega)), if_pos (show nI t < 410 from nI_lt (b := 410) ht1 (by omega))]
    rw [job_nI hk (by omega)]
    simp only [cond_false, jl]
    rw [jag_nI (by omega), jag_nI (by omega), jag_nI (by omega), hkk.1, hkk.2.1, hkk.2.2]
    by_cases hm1 : x.1 12 k = -1
    · rw [if_pos hm1]
      exact fin (-1) (fun _ => rfl) (fun e => absurd hm1 e)
    · rw [if_neg hm1]
      exact fin _ (fun e => absurd e hm1) (fun _ => rfl)
  · have hh2 : x'.1 12 k = -3 := by rw [hkk.1]; exact Classical.not_not.mp hh
    refine ⟨x', ?_, h.1, fun c hc => ⟨fun s h1 h2 h3 => ?_, fun h1 => ?_⟩⟩
    · rw [f_X1_move, jl_eq, holds_eq hk, Option.bind_some]
      simp only [hh2, if_true]
    · rcases h2 with h2 | h2
      · exact (h.2 c hc).1 s h1 h2 h3
      · exact absurd h3 (h2 ▸ hh)
    · have h4 := (h.2 c hc).2 (fun s h5 h6 => h1 s h5 (Or.inl h6))
      refine ⟨fun h2 => ?_, fun h2 => h4.2 (fun h6 => h2 (Or.inl h6))⟩
      rcases h2 with h2 | h2
      · exact h4.1 h2
      · subst h2
        exact ⟨hh2, hkk.2.1.trans (hem hh)⟩
theorem shiftU_loop {x : jS} {many added B : Nat} {v1 v3 : Int32} {K : jS → Int32 → Int32 → Int32 → Int32 → Option jS} (hlt : added < many) (hmB : many ≤ B) (hem : ∀ c, c < 410 → ¬ hld x c → x.1 13 c = -1) : ∀ (d k N : Nat) (st : jS), k + d = 410 → d < N → 10 * B ≤ k → ivX x st many added (fun s => 10 * B ≤ s ∧ s < k) → ∃ st', f_X1_shift_12 K N st v1 (nI added - nI many) v3 (nI k) = K st' v1 (nI added - nI many) v3 (nI 410) ∧ ivX x st' many added (fun s => 10 * B ≤ s ∧ s < 410) := by
  intro d
  induction d with
  | zero =>
    intro k N st hk hN hBk hi
    obtain ⟨N, rfl⟩ : ∃ z, N = z + 1 := ⟨N - 1, by omega⟩
    have : k = 410 := by omega
    subst this
    refine ⟨st, ?_, hi⟩
    rw [f_X1_shift_12, if_pos (show nI 410 ≥ 410 from by decide)]
  | succ d ih =>
    intro k N st hk hN hBk hi
    obtain ⟨N, rfl⟩ : ∃ z, N = z + 1 := ⟨N - 1, by omega⟩
    obtain ⟨st1, e1, e2⟩ := hi.step (k := k) (by omega) (fun h => by omega) (fun s h1 h2 => by omega) (by omega) (fun _ => ⟨k - 10 * (many - added), by omega, by omega⟩) (hem k (by omega))
    obtain ⟨st', g1, g2⟩ := ih (k + 1) N st1 (by omega) (by omega) (by omega) (e2.congr (fun s => by omega))
    refine ⟨st', ?_, g2⟩
    rw [f_X1_shift_12, if_neg (show ¬ nI k ≥ 410 from nI_ge (b := 410) (by omega) (by omega)), e1, Option.bind_some, jl_eq, nI_1]
    exact g1
theorem shiftD_loop {x : jS} {many added B : Nat} {v1 : Int32} {K : jS → Int32 → Int32 → Int32 → Int32 → Option jS} (hlt : many < added) (hB : B ≤ 40) (hmv : ∀ c, c < 410 → hld x c → c + 10 * added < 410 + 10 * many) (hem : ∀ c, c < 410 → ¬ hld x c → x.1 13 c = -1) : ∀ (d k N : Nat) (st : jS), k = 10 * B + d → k ≤ 410 → d < N → ivX x st many added (fun s => k ≤ s ∧ s < 410) → ∃ st', f_X1_shift_45 K N st v1 (nI added - nI many) (nI (10 * B)) (nI k - 1) = K st' v1 (nI added - nI many) (nI (10 * B)) (nI (10 * B) - 1) ∧ ivX x st' many added (fun s => 10 * B ≤ s ∧ s < 410) := by
  intro d
  induction d with
  | zero =>
    intro k N st hk hk2 hN hi
    obtain ⟨N, rfl⟩ : ∃ z, N = z + 1 := ⟨N - 1, by omega⟩
    have : k = 10 * B := by omega
    subst this
    refine ⟨st, ?_, hi⟩
    rw [f_X1_shift_45, if_pos]
    by_cases h0 : B = 0
    · subst h0; decide
    · obtain ⟨q, hq⟩ : ∃ q, 10 * B = q + 1 := ⟨10 * B - 1, by omega⟩
      rw [hq, nI_pred]
      exact nI_lt (by omega) (by omega)
  | succ d ih =>
    intro k N st hk hk2 hN hi
    obtain ⟨N, rfl⟩ : ∃ z, N = z + 1 := ⟨N - 1, by omega⟩
    obtain ⟨q, rfl⟩ : ∃ q, k = q + 1 := ⟨k - 1, by omega⟩
    obtain ⟨st1, e1, e2⟩ := hi.step (k := q) (by omega) (fun h => by omega) (fun s h1 h2 => by omega) (by omega) (fun h => ⟨q + 10 * (added - many), by have := hmv q (by omega) h; omega, by omega⟩) (hem q (by omega))
    obtain ⟨st', g1, g2⟩ := ih q N st1 (by omega) (by omega) (by omega) (e2.congr (fun s => by omega))
    refine ⟨st', ?_, g2⟩
    rw [f_X1_shift_45, nI_pred, if_neg (show ¬ nI q < nI (10 * B) from nI_nlt (by omega) (by omega)), e1, Option.bind_some, jl_eq, show nI q + (-1) = nI q - 1 by grind]
    exact g1
theorem shift_eq {x : jS} {many added B : Nat} (hB : B ≤ 40) (hmB : many ≤ B) (hadd : added ≤ 8) (hmv : ∀ c, c < 410 → hld x c → c + 10 * added < 410 + 10 * many) (hem : ∀ c, c < 410 → ¬ hld x c → x.1 13 c = -1) : ∃ x', f_X1_shift x (nI B) (nI added - nI many) = some x' ∧ ivX x x' many added (fun s => 10 * B ≤ s ∧ s < 410) := by
  have e10 : nI B * 10 = nI (10 * B) := by rw [show (10 : Int32) = nI 10 from rfl, nI_mul, Nat.mul_comm]
  rcases Nat.lt_trichotomy added many with h | h | h
  · have hneg : ¬ (nI added - nI many ≥ 0) := by
      intro h0
      have h1 : nI (many - added) = nI many - nI added := (nI_sub (by omega)).symm
      have h2 : nI added - nI many = - nI (many - added) := by rw [h1]; grind
      rw [h2] at h0
      have h3 := Int32.le_iff_toInt_le.mp h0
      rw [Int32.toInt_neg, nI_toInt (by omega)] at h3
      rw [show (0 : Int32).toInt = 0 from rfl] at h3
      rw [Int.bmod_eq_of_le (by omega) (by omega)] at h3
      omega
    obtain ⟨st', g1, g2⟩ := shiftU_loop (x := x) (K := fun s19 y15 y16 y17 y18 => some s19) (v1 := nI B) (v3 := nI (10 * B)) h hmB hem (410 - 10 * B) (10 * B) jFuel x (by omega) (jFuel_gt (by omega)) (Nat.le_refl _) ⟨frX.refl x, fun c hc => ⟨fun s h1 h2 => by omega, fun h1 => ⟨fun h2 => by omega, fun _ => smX.refl x c⟩⟩⟩
    refine ⟨st', ?_, g2⟩
    rw [f_X1_shift, jl_eq, if_neg hneg, e10]
    exact g1
  · subst h
    have e0 : nI added - nI added = 0 := by grind
    refine ⟨x, ?_, frX.refl x, fun c hc => ⟨fun s h1 h2 h3 => ?_, fun h1 => ⟨fun h2 => ?_, fun _ => smX.refl x c⟩⟩⟩
    · rw [f_X1_shift, jl_eq, e0, if_pos (by decide), if_pos (by decide)]
    · have : s = c := by omega
      subst this
      rw [e0]
      exact ⟨id, fun _ => by rw [Int32.add_zero], by rw [Int32.add_zero], rfl⟩
    · have h3 := h1 c rfl h2
      exact ⟨Classical.not_not.mp h3, hem c hc h3⟩
  · have hpos : (nI added - nI many) = nI (added - many) := nI_sub (by omega)
    obtain ⟨st', g1, g2⟩ := shiftD_loop (x := x) (K := fun s11 y7 y8 y9 y10 => some s11) (v1 := nI B) h hB hmv hem (410 - 10 * B) 410 jFuel x (by omega) (by omega) (jFuel_gt (by omega)) ⟨frX.refl x, fun c hc => ⟨fun s h1 h2 => by omega, fun h1 => ⟨fun h2 => by omega, fun _ => smX.refl x c⟩⟩⟩
    refine ⟨st', ?_, g2⟩
    rw [f_X1_shift, jl_eq, if_pos (by rw [hpos]; exact nI_pos' (by omega)), if_neg (by rw [hpos]; exact nI_nle (by omega) (by omega)), e10]
    exact g1
/-- the reference's memory -/
def knM (m : jS) (r p : Nat) : Prop := m.1 6 (41 * r + p) ≠ 0
def frM (m m' : jS) : Prop := m'.2 = m.2 ∧ ∀ j, j ≠ 20 → j ≠ 21 → j ≠ 22 → j ≠ 23 → m'.1 j = m.1 j
/-- at (r, p) of the new arrays lies v, w, y -/
def atM (m' : jS) (r p : Nat) (v w y : Int32) : Prop := m'.1 20 (41 * r + p) = 1 ∧ m'.1 21 (41 * r + p) = v ∧ m'.1 22 (41 * r + p) = w ∧ m'.1 23 (41 * r + p) = y
def shM (m m' : jS) (b : Int32) (r q p : Nat) : Prop := atM m' r p (if m.1 7 (41 * r + q) = -1 then -1 else m.1 7 (41 * r + q) + b) (m.1 8 (41 * r + q) + b) (m.1 9 (41 * r + q))
def kpM (m m' : jS) (r p : Nat) : Prop := atM m' r p (m.1 7 (41 * r + p)) (m.1 8 (41 * r + p)) (m.1 9 (41 * r + p))
def stay (m : jS) (A many r p : Nat) : Prop := p < A + many ∧ knM m r p ∧ m.1 8 (41 * r + p) ≤ nI A
def ivM (m m' : jS) (A many added : Nat) (S : Nat → Nat → Prop) : Prop := frM m m' ∧ ∀ r p, r < 10 → p ≤ 40 → (∀ q, q + added = p + many → A + many ≤ q → S r q → knM m r q → shM m m' (nI added - nI many) r q p) ∧ ((∀ q, q + added = p + many → A + many ≤ q → S r q → ¬ knM m r q) → (S r p → stay m A many r p → kpM m m' r p) ∧ (¬ (S r p ∧ stay m A many r p) → m'.1 20 (41 * r + p) = 0))
theorem ivM.congr {m m' : jS} {A many added : Nat} {S T : Nat → Nat → Prop} (h : ivM m m' A many added S) (hST : ∀ r s, r < 10 → (S r s ↔ T r s)) : ivM m m' A many added T := by
  refine ⟨h.1, fun r p hr hp => ⟨fun q h1 h2 h3 h4 => (h.2 r p hr hp).1 q h1 h2 ((hST r q hr).mpr h3) h4, fun h1 => ⟨fun h2 h3 => ?_, fun h2 => ?_⟩⟩⟩
  · exact ((h.2 r p hr hp).2 (fun q h4 h5 h6 => h1 q h4 h5 ((hST r q hr).mp h6))).1 ((hST r p hr).mpr h2) h3
  · exact ((h.2 r p hr hp).2 (fun q h4 h5 h6 => h1 q h4 h5 ((hST r q hr).mp h6))).2 (fun h3 => h2 ⟨(hST r p hr).mp h3.1, h3.2⟩)
def wrM (st : jS) (c : Nat) (v w y : Int32) : jS := jaf (jaf (jaf (jaf st 20 (upd (st.1 20) c 1)) 21 (upd (st.1 21) c v)) 22 (upd (st.1 22) c w)) 23 (upd (st.1 23) c y)
theorem wrM_20 (st : jS) (c : Nat) (v w y : Int32) : (wrM st c v w y).1 20 = upd (st.1 20) c 1 := rfl
theorem wrM_21 (st : jS) (c : Nat) (v w y : Int32) : (wrM st c v w y).1 21 = upd (st.1 21) c v := rfl
theorem wrM_22 (st : jS) (c : Nat) (v w y : Int32) : (wrM st c v w y).1 22 = upd (st.1 22) c w := rfl
theorem wrM_23 (st : jS) (c : Nat) (v w y : Int32) : (wrM st c v w y).1 23 = upd (st.1 23) c y := rfl
theorem wrM_fr (st : jS) (c : Nat) (v w y : Int32) : frM st (wrM st c v w y) := ⟨rfl, fun j h1 h2 h3 h4 => by
  show va_up (va_up (va_up (va_up st.1 20 _) 21 _) 22 _) 23 _ j = _
  rw [va_up_ne _ _ h4, va_up_ne _ _ h3, va_up_ne _ _ h2, va_up_ne _ _ h1]⟩
theorem frM.refl (x : jS) : frM x x := ⟨rfl, fun _ _ _ _ _ => rfl⟩
theorem frM.trans {x y z : jS} (h : frM x y) (h2 : frM y z) : frM x z := ⟨h2.1.trans h.1, fun j a b c d => (h2.2 j a b c d).trans (h.2 j a b c d)⟩
theorem atM.ne {st : jS} {r p c : Nat} {v w y v' w' y' : Int32} (h : atM st r p v w y) (hc : 41 * r + p ≠ c) : atM (wrM st c v' w' y') r p v w y := by
  unfold atM
  rw [wrM_20, wrM_21, wrM_22, wrM_23, upd_ne hc, upd_ne hc, upd_ne hc, upd_ne hc]
  exact h
theorem atM.at (st : jS) (r p : Nat) (v w y : Int32) : atM (wrM st (41 * r + p) v w y) r p v w y := by
  unfold atM
  rw [wrM_20, wrM_21, wrM_22, wrM_23, upd_self, upd_self, upd_self, upd_self]
  exact ⟨rfl, rfl, rfl, rfl⟩
/-- nothing is written for (r0, p0) -/
theorem ivM.skip {m st : jS} {A many added r0 p0 : Nat} {S : Nat → Nat → Prop} (h : ivM m st A many added S) (h0 : knM m r0 p0 → p0 < A + many ∧ ¬ stay m A many r0 p0) : ivM m st A many added (fun r p => S r p ∨ (r = r0 ∧ p = p0)) := by
  refine ⟨h.1, fun r p hr hp => ⟨fun q h1 h2 h3 h4 => ?_, fun h1 => ?_⟩⟩
  · rcases h3 with h3 | ⟨rfl, rfl⟩
    · exact (h.2 r p hr hp).1 q h1 h2 h3 h4
    · have := (h0 h4).1; omega
  · have h4 := (h.2 r p hr hp).2 (fun q h5 h6 h7 => h1 q h5 h6 (Or.inl h7))
    refine ⟨fun h2 h3 => ?_, fun h2 => h4.2 (fun h3 => h2 ⟨Or.inl h3.1, h3.2⟩)⟩
    rcases h2 with h2 | ⟨rfl, rfl⟩
    · exact h4.1 h2 h3
    · exact absurd h3 (h0 h3.2.1).2
/-- (r0, p0) is kept -/
theorem ivM.keep {m st : jS} {A many added r0 p0 : Nat} {S : Nat → Nat → Prop} (h : ivM m st A many added S) (hr0 : r0 < 10) (hp0 : p0 ≤ 40) (hs : stay m A many r0 p0) (hord : ∀ q, A + many ≤ q → ¬ S r0 q) : ivM m (wrM st (41 * r0 + p0) (m.1 7 (41 * r0 + p0)) (m.1 8 (41 * r0 + p0)) (m.1 9 (41 * r0 + p0))) A many added (fun r p => S r p ∨ (r = r0 ∧ p = p0)) := by
  refine ⟨h.1.trans (wrM_fr _ _ _ _ _), fun r p hr hp => ⟨fun q h1 h2 h3 h4 => ?_, fun h1 => ?_⟩⟩
  · rcases h3 with h3 | ⟨rfl, rfl⟩
    · have hne : 41 * r + p ≠ 41 * r0 + p0 := by
        intro e
        have : r = r0 := by omega
        subst this
        exact hord q h2 h3
      exact ((h.2 r p hr hp).1 q h1 h2 h3 h4).ne hne
    · have := hs.1; omega
  · have h4 := (h.2 r p hr hp).2 (fun q h5 h6 h7 => h1 q h5 h6 (Or.inl h7))
    by_cases e : r = r0 ∧ p = p0
    · obtain ⟨rfl, rfl⟩ := e
      exact ⟨fun _ _ => atM.at _ _ _ _ _ _, fun h2 => absurd ⟨Or.inr ⟨rfl, rfl⟩, hs⟩ h2⟩
    · have hne : 41 * r + p ≠ 41 * r0 + p0 := by omega
      refine ⟨fun h2 h3 => (h4.1 (h2.resolve_right e) h3).ne hne, fun h2 => ?_⟩
      rw [wrM_20, upd_ne hne]
      exact h4.2 (fun h3 => h2 ⟨Or.inl h3.1, h3.2⟩)
/-- (r0, q0) is moved to p0 -/
theorem ivM.move {m st : jS} {A many added r0 q0 p0 : Nat} {S : Nat → Nat → Prop} (h : ivM m st A many added S) (hr0 : r0 < 10) (hp0 : p0 ≤ 40) (hq : q0 + added = p0 + many) (hB : A + many ≤ q0) (hk : knM m r0 q0) (hS : ¬ S r0 q0) : ivM m (wrM st (41 * r0 + p0) (if m.1 7 (41 * r0 + q0) = -1 then -1 else m.1 7 (41 * r0 + q0) + (nI added - nI many)) (m.1 8 (41 * r0 + q0) + (nI added - nI many)) (m.1 9 (41 * r0 + q0))) A many added (fun r p => S r p ∨ (r = r0 ∧ p = q0)) := by
  refine ⟨h.1.trans (wrM_fr _ _ _ _ _), fun r p hr hp => ⟨fun q h1 h2 h3 h4 => ?_, fun h1 => ?_⟩⟩
  · rcases h3 with h3 | ⟨rfl, rfl⟩
    · have hne : 41 * r + p ≠ 41 * r0 + p0 := by
        intro e
        have : r = r0 := by omega
        subst this
        have : q = q0 := by omega
        exact hS (this ▸ h3)
      exact ((h.2 r p hr hp).1 q h1 h2 h3 h4).ne hne
    · have : p = p0 := by omega
      subst this
      exact atM.at _ _ _ _ _ _
  · have h4 := (h.2 r p hr hp).2 (fun q h5 h6 h7 => h1 q h5 h6 (Or.inl h7))
    have e : ¬ (r = r0 ∧ p = p0) := by
      rintro ⟨rfl, rfl⟩
      exact h1 q0 hq hB (Or.inr ⟨rfl, rfl⟩) hk
    have hne : 41 * r + p ≠ 41 * r0 + p0 := by omega
    refine ⟨fun h2 h3 => ?_, fun h2 => ?_⟩
    · rcases h2 with h2 | ⟨rfl, rfl⟩
      · exact (h4.1 h2 h3).ne hne
      · have := h3.1; omega
    · rw [wrM_20, upd_ne hne]
      exact h4.2 (fun h3 => h2 ⟨Or.inl h3.1, h3.2⟩)
def goneM (m : jS) (A many r p : Nat) : Prop := p < A + many ∧ knM m r p ∧ ¬ m.1 8 (41 * r + p) ≤ nI A
noncomputable def gM (m : jS) (A many c : Nat) : Nat := @ite _ (goneM m A many (c % 10) (c / 10)) (Classical.propDecidable _) 1 0
theorem gM_at (m : jS) (A many : Nat) {r p : Nat} (hr : r < 10) : (goneM m A many r p → gM m A many (10 * p + r) = 1) ∧ (¬ goneM m A many r p → gM m A many (10 * p + r) = 0) := by
  unfold gM
  rw [show (10 * p + r) % 10 = r by omega, show (10 * p + r) / 10 = p by omega]
  exact ⟨fun h => if_pos h, fun h => if_neg h⟩
theorem keep46 {m : jS} {A many added sz p : Nat} {K : jS → Int32 → Int32 → Int32 → Int32 → Int32 → Int32 → Option (Int32 × jS)} (hs : sz ≤ 40) (hA : A + many ≤ sz) (h40 : sz + added ≤ 40 + many) (hp : p ≤ sz) : ∀ (d k N : Nat) (st : jS), k + d = 10 → d < N → ivM m st A many added (fun r q => q < p ∨ (q = p ∧ r < k)) → ∃ st', f_X6_keep_46 K N st (nI A) (nI many) (nI added - nI many) (nI (cnt (gM m A many) (10 * p + k))) (nI p) (nI k) = K st' (nI A) (nI many) (nI added - nI many) (nI (cnt (gM m A many) (10 * p + 10))) (nI p) (nI 10) ∧ ivM m st' A many added (fun r q => q < p ∨ (q = p ∧ r < 10)) := by
  intro d
  induction d with
  | zero =>
    intro k N st hk hN hi
    obtain ⟨N, rfl⟩ : ∃ z, N = z + 1 := ⟨N - 1, by omega⟩
    have : k = 10 := by omega
    subst this
    refine ⟨st, ?_, hi⟩
    rw [f_X6_keep_46, if_pos (show nI 10 ≥ 10 from by decide)]
  | succ d ih =>
    intro k N st hk hN hi
    obtain ⟨N, rfl⟩ : ∃ z, N = z + 1 := ⟨N - 1, by omega⟩
    have hj : job (nI (41 * k + p)) 410 = false := job_nI (by omega) (by omega)
    have i6 : st.1 6 = m.1 6 := hi.1.2 6 (by decide) (by decide) (by decide) (by decide)
    have i7 : st.1 7 = m.1 7 := hi.1.2 7 (by decide) (by decide) (by decide) (by decide)
    have i8 : st.1 8 = m.1 8 := hi.1.2 8 (by decide) (by decide) (by decide) (by decide)
    have i9 : st.1 9 = m.1 9 := hi.1.2 9 (by decide) (by decide) (by decide) (by decide)
    have hs1 : cnt (gM m A many) (10 * p + k + 1) = cnt (gM m A many) (10 * p + k) + gM m A many (10 * p + k) := rfl
    have hg := gM_at m A many (r := k) (p := p) (by omega)
    have next : ∀ st1, ivM m st1 A many added (fun r q => (q < p ∨ (q = p ∧ r < k)) ∨ (r = k ∧ q = p)) → ∃ st', f_X6_keep_46 K N st1 (nI A) (nI many) (nI added - nI many) (nI (cnt (gM m A many) (10 * p + k) + gM m A many (10 * p + k))) (nI p) (nI (k + 1)) = K st' (nI A) (nI many) (nI added - nI many) (nI (cnt (gM m A many) (10 * p + 10))) (nI p) (nI 10) ∧ ivM m st' A many added (fun r q => q < p ∨ (q = p ∧ r < 10)) := by
      intro st1 h1
      rw [← hs1]
      exact ih (k + 1) N st1 (by omega) (by omega) (h1.congr (fun r s _ => by omega))
    rw [f_X6_keep_46, if_neg (show ¬ nI k ≥ 10 from nI_ge (b := 10) (by omega) (by omega)), jl_eq, cellM_eq, hj, cond_false, jag_nI (by omega), i6]
    by_cases hkn : knM m k p
    · rw [if_neg (show ¬ m.1 6 (41 * k + p) = 0 from hkn), nI_add]
      by_cases hlt : p < A + many
      · rw [if_pos (nI_lt hlt (by omega)), cond_false, jag_nI (by omega), i8]
        by_cases hr : m.1 8 (41 * k + p) ≤ nI A
        · rw [if_pos hr]
          obtain ⟨st', g1, g2⟩ := next _ (hi.keep (r0 := k) (p0 := p) (by omega) (by omega) ⟨hlt, hkn, hr⟩ (fun q h1 h2 => by omega))
          refine ⟨st', ?_, g2⟩
          rw [hg.2 (fun h => h.2.2 hr), Nat.add_zero] at g1
          simp only [cond_false, jl]
          rw [nI_1, nar1]
          simp only [jas, jag_nI (show 41 * k + p < 2 ^ 31 by omega), nI_clamp (show 41 * k + p < 2 ^ 31 by omega)]
          rw [← g1]
          show f_X6_keep_46 K N (wrM st (41 * k + p) (st.1 7 (41 * k + p)) (st.1 8 (41 * k + p)) (st.1 9 (41 * k + p))) _ _ _ _ _ _ = _
          rw [i7, i8, i9]
        · rw [if_neg hr, jl_eq, jl_eq, nI_1, nI_1]
          obtain ⟨st', g1, g2⟩ := next st (hi.skip (fun _ => ⟨hlt, fun h => hr h.2.2⟩))
          refine ⟨st', ?_, g2⟩
          rw [hg.1 ⟨hlt, hkn, hr⟩] at g1
          exact g1
      · rw [if_neg (nI_nlt (by omega) (by omega)), jl_eq]
        have et : nI (41 * k + p) + (nI added - nI many) = nI (41 * k + (p + added - many)) := by
          have h1 : nI (41 * k + (p + added - many)) + nI many = nI (41 * k + p) + nI added := by rw [nI_add, nI_add]; congr 1; omega
          grind
        obtain ⟨st', g1, g2⟩ := next _ (hi.move (r0 := k) (q0 := p) (p0 := p + added - many) (by omega) (by omega) (by omega) (by omega) hkn (fun h => by omega))
        refine ⟨st', ?_, g2⟩
        rw [hg.2 (fun h => hlt h.1), Nat.add_zero] at g1
        rw [et, job_nI (show 41 * k + (p + added - many) < 410 by omega) (by omega)]
        simp only [cond_false, jl]
        rw [nI_1, nar1]
        simp only [jas, jag_nI (show 41 * k + p < 2 ^ 31 by omega), nI_clamp (show 41 * k + (p + added - many) < 2 ^ 31 by omega)]
        rw [← g1]
        rw [show va_up st.1 20 (upd (st.1 20) (41 * k + (p + added - many)) 1) 7 (41 * k + p) = m.1 7 (41 * k + p) from congrFun i7 _]
        by_cases h7 : m.1 7 (41 * k + p) = -1
        · rw [if_pos h7, if_pos h7]
          show f_X6_keep_46 K N (wrM st (41 * k + (p + added - many)) (m.1 7 (41 * k + p)) (st.1 8 (41 * k + p) + (nI added - nI many)) (st.1 9 (41 * k + p))) _ _ _ _ _ _ = _
          rw [i8, i9, h7]
        · rw [if_neg h7, if_neg h7]
          show f_X6_keep_46 K N (wrM st (41 * k + (p + added - many)) (m.1 7 (41 * k + p) + (nI added - nI many)) (st.1 8 (41 * k + p) + (nI added - nI many)) (st.1 9 (41 * k + p))) _ _ _ _ _ _ = _
          rw [i8, i9]
    · rw [if_pos (show m.1 6 (41 * k + p) = 0 from Classical.not_not.mp hkn), jl_eq, nI_1]
      obtain ⟨st', g1, g2⟩ := next st (hi.skip (fun h => absurd h hkn))
      refine ⟨st', ?_, g2⟩
      rw [hg.2 (fun h => hkn h.2.1)] at g1
      exact g1
theorem keep34 {m : jS} {A many added sz : Nat} {K : jS → Int32 → Int32 → Int32 → Int32 → Int32 → Option (Int32 × jS)} (hs : sz ≤ 40) (hA : A + many ≤ sz) (h40 : sz + added ≤ 40 + many) (hsz : m.2 2 = nI sz) : ∀ (d p N : Nat) (st : jS), p + d = sz + 1 → d < N → ivM m st A many added (fun _ q => q < p) → ∃ st', f_X6_keep_34 K N st (nI A) (nI many) (nI added - nI many) (nI (cnt (gM m A many) (10 * p))) (nI p) = K st' (nI A) (nI many) (nI added - nI many) (nI (cnt (gM m A many) (10 * (sz + 1)))) (nI (sz + 1)) ∧ ivM m st' A many added (fun _ q => q < sz + 1) := by
  intro d
  induction d with
  | zero =>
    intro p N st hk hN hi
    obtain ⟨N, rfl⟩ : ∃ z, N = z + 1 := ⟨N - 1, by omega⟩
    have : p = sz + 1 := by omega
    subst this
    refine ⟨st, ?_, hi⟩
    rw [f_X6_keep_34, if_pos (show nI (sz + 1) > st.2 2 by rw [hi.1.1, hsz]; exact nI_lt (by omega) (by omega))]
  | succ d ih =>
    intro p N st hk hN hi
    obtain ⟨N, rfl⟩ : ∃ z, N = z + 1 := ⟨N - 1, by omega⟩
    rw [f_X6_keep_34, if_neg (show ¬ nI p > st.2 2 by rw [hi.1.1, hsz]; exact nI_nlt (by omega) (by omega))]
    obtain ⟨st1, e1, e2⟩ := keep46 (m := m) (p := p) (K := fun s68 y62 y63 y64 y65 y66 y67 =>
      jl (y66 + 1) fun x69 =>
      f_X6_keep_34 K N s68 y62 y63 y64 y65 x69) hs hA h40 (by omega) 10 0 jFuel st rfl (jFuel_gt (by omega)) (hi.congr (fun r q _ => by omega))
    obtain ⟨st', g1, g2⟩ := ih (p + 1) N st1 (by omega) (by omega) (e2.congr (fun r q _ => by omega))
    refine ⟨st', ?_, g2⟩
    refine Eq.trans e1 ?_
    rw [jl_eq, nI_1]
    exact g1
def frK (m m' : jS) : Prop := m'.2 = m.2 ∧ ∀ j, j ≠ 6 → j ≠ 7 → j ≠ 8 → j ≠ 9 → j ≠ 20 → j ≠ 21 → j ≠ 22 → j ≠ 23 → m'.1 j = m.1 j
theorem keep_eq {m : jS} {A many added sz : Nat} (hs : sz ≤ 40) (hA : A + many ≤ sz) (h40 : sz + added ≤ 40 + many) (hsz : m.2 2 = nI sz) : ∃ m1 m', f_X6_keep m (nI A) (nI many) (nI added - nI many) = some (nI (cnt (gM m A many) (10 * (sz + 1))), m') ∧ ivM m m1 A many added (fun _ q => q < sz + 1) ∧ frK m m' ∧ m'.1 6 = m1.1 20 ∧ m'.1 7 = m1.1 21 ∧ m'.1 8 = m1.1 22 ∧ m'.1 9 = m1.1 23 := by
  have h0 : ivM m (jaf (jaf (jaf (jaf m 20 (fun _ => 0)) 21 (fun _ => 0)) 22 (fun _ => 0)) 23 (fun _ => 0)) A many added (fun _ q => q < 0) := by
    refine ⟨⟨rfl, fun j h1 h2 h3 h4 => ?_⟩, fun r p hr hp => ⟨fun q h1 h2 h3 => by omega, fun h1 => ⟨fun h2 => by omega, fun _ => rfl⟩⟩⟩
    show va_up (va_up (va_up (va_up m.1 20 _) 21 _) 22 _) 23 _ j = _
    rw [va_up_ne _ _ h4, va_up_ne _ _ h3, va_up_ne _ _ h2, va_up_ne _ _ h1]
  obtain ⟨m1, e1, e2⟩ := keep34 (m := m) (K := fun s75 y70 y71 y72 y73 y74 =>
    jl (jaf s75 6 (s75.1 20)) fun s76 =>
    jl (jaf s76 7 (s76.1 21)) fun s77 =>
    jl (jaf s77 8 (s77.1 22)) fun s78 =>
    jl (jaf s78 9 (s78.1 23)) fun s79 =>
    some (y73, s79)) hs hA h40 hsz (sz + 1) 0 jFuel _ (by omega) (jFuel_gt (by omega)) h0
  refine ⟨m1, jaf (jaf (jaf (jaf m1 6 (m1.1 20)) 7 (m1.1 21)) 8 (m1.1 22)) 9 (m1.1 23), ?_, e2, ⟨e2.1.1, fun j h6 h7 h8 h9 h20 h21 h22 h23 => ?_⟩, rfl, rfl, rfl, rfl⟩
  · rw [f_X6_keep, jl_eq, jl_eq, jl_eq, jl_eq]
    refine Eq.trans e1 ?_
    rw [jl_eq, jl_eq, jl_eq, jl_eq]
    rfl
  · show va_up (va_up (va_up (va_up m1.1 6 _) 7 _) 8 _) 9 _ j = _
    rw [va_up_ne _ _ h9, va_up_ne _ _ h8, va_up_ne _ _ h7, va_up_ne _ _ h6]
    exact e2.1.2 j h20 h21 h22 h23
theorem lgle {A many sz : Nat} (h1 : A < 2 ^ 31) (h2 : many < 2 ^ 31) (h3 : sz < 2 ^ 31) : (lg_cmp ((nI A).toInt64 + (nI many).toInt64) (nI sz).toInt64) ≤ 0 ↔ A + many ≤ sz := by
  rw [lg_cmp_le, Int64.le_iff_toInt_le, Int64.toInt_add, Int32.toInt_toInt64, Int32.toInt_toInt64, Int32.toInt_toInt64, nI_toInt h1, nI_toInt h2, nI_toInt h3, Int.bmod_eq_of_le (by omega) (by omega)]
  omega
theorem RMe.kn {x m : jS} {sz r p : Nat} (h : RMe x m sz) (hsz : sz ≤ 40) (hr : r < 10) (hp : p ≤ 40) : (hld x (10 * p + r) ↔ knM m r p) ∧ (knM m r p → RK x m sz r p) ∧ (¬ knM m r p → RU x m r p) := by
  rcases h r p hr hp with h1 | h1
  · have e1 : ¬ hld x (10 * p + r) := fun h2 => h2 h1.2.1
    have e2 : ¬ knM m r p := fun h2 => h2 h1.1
    exact ⟨⟨fun h2 => absurd h2 e1, fun h2 => absurd h2 e2⟩, fun h2 => absurd h2 e2, fun _ => h1⟩
  · have e2 : knM m r p := by unfold knM; rw [h1.1]; decide
    have e1 : hld x (10 * p + r) := by
      unfold hld
      obtain ⟨h1, h2, h3, h4, h5, w, hw, h6, h7, h8⟩ := h1
      rw [h3]
      rcases h8 with h8 | ⟨q, h8, h9, h10, h11⟩
      · rw [h8]; decide
      · rw [h8]; exact nI_m3 (by omega)
    exact ⟨⟨fun _ => e2, fun _ => e1⟩, fun _ => h1, fun h2 => absurd e2 h2⟩
theorem gXM {x m : jS} {sz A many : Nat} (h : RMe x m sz) (hsz : sz ≤ 40) (hA : A + many ≤ sz) : cnt (gX x A) (10 * (A + many)) = cnt (gM m A many) (10 * (sz + 1)) := by
  have h0 : 10 * (sz + 1) = 10 * (A + many) + (10 * (sz + 1) - 10 * (A + many)) := by omega
  rw [h0, cnt_add]
  have hz : cnt (fun j => gM m A many (10 * (A + many) + j)) (10 * (sz + 1) - 10 * (A + many)) = 0 := by
    refine Eq.trans (cnt_congr (g := fun _ => 0) _ (fun i hi => ?_)) (cnt_zero _)
    exact if_neg (fun hg => by have := hg.1; omega)
  rw [hz, Nat.add_zero]
  refine cnt_congr _ (fun c hc => ?_)
  have hk := h.kn (r := c % 10) (p := c / 10) hsz (by omega) (by omega)
  rw [show 10 * (c / 10) + c % 10 = c by omega] at hk
  by_cases hkn : knM m (c % 10) (c / 10)
  · have e13 : x.1 13 c = m.1 8 (41 * (c % 10) + c / 10) := by
      have := (hk.2.1 hkn).2.2.2.1
      rwa [show 10 * (c / 10) + c % 10 = c by omega] at this
    by_cases hr : m.1 8 (41 * (c % 10) + c / 10) ≤ nI A
    · rw [show gX x A c = 0 from if_neg (fun hg => hg.2 (e13 ▸ hr)), show gM m A many c = 0 from if_neg (fun hg => hg.2.2 hr)]
    · rw [show gX x A c = 1 from if_pos ⟨hk.1.mpr hkn, e13 ▸ hr⟩, show gM m A many c = 1 from if_pos ⟨by omega, hkn, hr⟩]
  · rw [show gX x A c = 0 from if_neg (fun hg => hkn (hk.1.mp hg.1)), show gM m A many c = 0 from if_neg (fun hg => hkn hg.2.1)]
/-- the memories after an edit -/
theorem RMe.edit {x x1 x2 m m1 m' : jS} {sz A many added : Nat} (h : RMe x m sz) (hsz : sz ≤ 40) (hA : A + many ≤ sz) (h40 : sz + added ≤ 40 + many) (hk1 : ∀ c, 10 * (A + many) ≤ c → c < 410 → smX x x1 c) (hk2 : ∀ c, c < 10 * (A + many) → (gone x A c → emX x1 c) ∧ (¬ gone x A c → smX x x1 c)) (hx : ivX x1 x2 many added (fun s => 10 * (A + many) ≤ s ∧ s < 410)) (hm : ivM m m1 A many added (fun _ q => q < sz + 1)) (e6 : m'.1 6 = m1.1 20) (e7 : m'.1 7 = m1.1 21) (e8 : m'.1 8 = m1.1 22) (e9 : m'.1 9 = m1.1 23) : RMe x2 m' (sz + added - many) := by
  intro r p hr hp
  have hX := hx.2 (10 * p + r) (by omega)
  have hM := hm.2 r p hr hp
  unfold RU RK
  rw [e6, e7, e8, e9]
  by_cases hq : ∃ q, q + added = p + many ∧ A + many ≤ q ∧ q < sz + 1 ∧ knM m r q
  · obtain ⟨q, h1, h2, h3, h4⟩ := hq
    have hk := h.kn (r := r) (p := q) hsz hr (by omega)
    obtain ⟨g1, g2, g3, g4, g5, w, g6, g7, g8, g9⟩ := hk.2.1 h4
    obtain ⟨f1, f2, f3, f4⟩ := hM.1 q h1 h2 h3 h4
    have hsm := hk1 (10 * q + r) (by omega) (by omega)
    have hh : hld x1 (10 * q + r) := by unfold hld; rw [hsm.1]; exact hk.1.mpr h4
    obtain ⟨k1, k2, k3, k4⟩ := hX.1 (10 * q + r) (by omega) ⟨by omega, by omega⟩ hh
    rw [hsm.1, g3] at k1 k2
    rw [hsm.2.1, g4] at k3
    rw [hsm.2.2, g5] at k4
    have ew : nI w + (nI added - nI many) = nI (w + added - many) := by rw [← nI_sub (by omega), ← nI_add]; grind
    refine Or.inr ⟨f1, by omega, ?_, k3.trans f3.symm, k4.trans f4.symm, w + added - many, ?_, by omega, by omega, ?_⟩
    · rw [f2]
      by_cases h7 : m.1 7 (41 * r + q) = -1
      · rw [k1 h7, if_pos h7]
      · rw [k2 h7, if_neg h7]
    · rw [f3, g6, ew]
    · rw [f2]
      rcases g9 with g9 | ⟨v, g9, g10, g11, g12⟩
      · exact Or.inl (if_pos g9)
      · refine Or.inr ⟨v + added - many, ?_, by omega, by omega, by omega⟩
        rw [g9, if_neg (nI_m1 (by omega)), ← nI_sub (by omega), ← nI_add]
        grind
  · have hM2 := hM.2 (fun q h1 h2 h3 h4 => hq ⟨q, h1, h2, h3, h4⟩)
    have hX2 := hX.2 (fun s h1 h2 h3 => by
      have hs : s = 10 * (s / 10) + r := by omega
      have hsm := hk1 s h2.1 h2.2
      have h5 : hld x (10 * (s / 10) + r) := by rw [← hs]; unfold hld; rw [← hsm.1]; exact h3
      have hk := h.kn (r := r) (p := s / 10) hsz hr (by omega)
      have h6 := hk.1.mp h5
      have h7 := (hk.2.1 h6).2.1
      exact hq ⟨s / 10, by omega, by omega, by omega, h6⟩)
    have hk := h.kn (r := r) (p := p) hsz hr hp
    by_cases hst : stay m A many r p
    · obtain ⟨s1, s2, s3⟩ := hst
      obtain ⟨g1, g2, g3, g4, g5, w, g6, g7, g8, g9⟩ := hk.2.1 s2
      obtain ⟨f1, f2, f3, f4⟩ := hM2.1 (by omega) ⟨s1, s2, s3⟩
      have hsm := (hk2 (10 * p + r) (by omega)).2 (fun hg => hg.2 (g4 ▸ s3))
      have hsm2 := hX2.2 (fun h => by omega)
      have hw : w ≤ A := by rw [g6] at s3; exact (nI_leI (by omega) (by omega)).mp s3
      refine Or.inr ⟨f1, by omega, ?_, ?_, ?_, w, ?_, g7, by omega, ?_⟩
      · rw [hsm2.1, hsm.1, g3, f2]
      · rw [hsm2.2.1, hsm.2.1, g4, f3]
      · rw [hsm2.2.2, hsm.2.2, g5, f4]
      · rw [f3, g6]
      · rw [f2]
        rcases g9 with g9 | ⟨v, g9, g10, g11, g12⟩
        · exact Or.inl g9
        · exact Or.inr ⟨v, g9, g10, by omega, g12⟩
    · refine Or.inl ⟨hM2.2 (fun h => hst h.2), ?_⟩
      by_cases hp2 : p < A + many
      · have hsm2 := hX2.2 (fun h => by omega)
        have hem : emX x1 (10 * p + r) := by
          by_cases hkn : knM m r p
          · refine (hk2 (10 * p + r) (by omega)).1 ⟨hk.1.mpr hkn, fun hle => hst ⟨hp2, hkn, ?_⟩⟩
            rw [← (hk.2.1 hkn).2.2.2.1]; exact hle
          · have hru := hk.2.2 hkn
            have hsm := (hk2 (10 * p + r) (by omega)).2 (fun hg => hg.1 hru.2.1)
            exact ⟨hsm.1.trans hru.2.1, hsm.2.1.trans hru.2.2⟩
        exact ⟨hsm2.1.trans hem.1, hsm2.2.1.trans hem.2⟩
      · exact hX2.1 ⟨by omega, by omega⟩
theorem replace_ok {x m : jS} {n sz A many : Nat} {a : Int64} (hG : RG x m n) (hT : RT x m sz) (hM : RMe x m sz) (hP : RP x) (hC : RC x m) (hA : A + many ≤ sz) (hb : ∀ j, j < 8 → okB a j) (h40 : sz + cb a 8 ≤ 40 + many) : ∃ g x' m', f_X5_replace x (nI A) (nI many) a = some (0, g, x') ∧ f_X6_replace m (nI A) (nI many) a = some (g, m') ∧ m'.2 0 = 0 ∧ Rel x' m' := by
  have hsz := hT.1
  have hc8 := cb_le a 8
  obtain ⟨x1, e1, e2, e3, e4⟩ := keepU_eq x (A := A) (B := A + many) (by omega)
  have hcell : ∀ c, c < 410 → (¬ hld x c → x.1 13 c = -1) ∧ (hld x c → c / 10 ≤ sz) := by
    intro c hc
    have hk := hM.kn (r := c % 10) (p := c / 10) hsz (by omega) (by omega)
    unfold RU RK at hk
    rw [show 10 * (c / 10) + c % 10 = c by omega] at hk
    exact ⟨fun h => (hk.2.2 (fun h2 => h (hk.1.mpr h2))).2.2, fun h => (hk.2.1 (hk.1.mp h)).2.1⟩
  obtain ⟨x2, f1, f2⟩ := shift_eq (x := x1) (many := many) (added := cb a 8) (B := A + many) (by omega) (by omega) hc8
    (fun c hc hh => by
      have : hld x c := by
        by_cases h1 : 10 * (A + many) ≤ c
        · unfold hld; rw [← (e3 c h1 hc).1]; exact hh
        · by_cases h2 : gone x A c
          · exact h2.1
          · unfold hld; rw [← ((e4 c (by omega)).2 h2).1]; exact hh
      have := (hcell c hc).2 this
      omega)
    (fun c hc hh => by
      by_cases h1 : 10 * (A + many) ≤ c
      · have hs := e3 c h1 hc
        rw [hs.2.1]
        refine (hcell c hc).1 (fun h2 => hh ?_)
        unfold hld; rw [hs.1]; exact h2
      · by_cases h2 : gone x A c
        · exact ((e4 c (by omega)).1 h2).2
        · have hs := (e4 c (by omega)).2 h2
          rw [hs.2.1]
          refine (hcell c hc).1 (fun h2 => hh ?_)
          unfold hld; rw [hs.1]; exact h2)
  have f3 : frX x x2 := e2.trans f2.1
  obtain ⟨f, g1, g2⟩ := splice_eq (a := a) (A := A) (many := many) (sz := sz) (x := x2) (by rw [f3.1]; exact hT.2.1) hsz hA h40
  have h5 : f_X5_replace x (nI A) (nI many) a = some (0, nI (cnt (gX x A) (10 * (A + many))), jis (jaf x2 10 f) 1 (nI (sz + cb a 8 - many))) := by
    rw [f_X5_replace, if_neg (nI_pos (by omega)), if_neg (nI_pos (by omega)), hT.2.1, if_neg (show ¬ nI A > nI sz from nI_nlt (by omega) (by omega)), nI_sub (by omega), if_pos (nI_le (by omega) (by omega)), areBytes_yes hb, Option.bind_some, if_neg (by decide), countBytes_eq, Option.bind_some, nI_sub (by omega), nI_add, if_pos (show nI (sz - many + cb a 8) ≤ 40 from nI_le (b := 40) (by omega) (by omega)), nI_add, e1, Option.bind_some, f1, Option.bind_some, g1, Option.bind_some]
  -- the reference
  obtain ⟨q1, r1, r2, r3⟩ := m123_loop (a := a) (A := A) (v2 := nI many) (v5 := nI (cb a 8)) (K := fun s41 y36 y37 y38 y39 y40 =>
          f_X6_replace_153 (fun s57 y51 y52 y53 y54 y55 y56 =>
            jl (y51 + y52) fun x58 =>
            f_X6_replace_197 (fun s70 y64 y65 y66 y67 y68 y69 =>
              jl (jaf s70 5 (s70.1 20)) fun s71 =>
              (f_X6_keep s71 y64 y65 (y67 - y65)).bind fun r72 =>
              jl (jis r72.2 2 ((r72.2.2 2) + (y67 - y65))) fun s73 =>
              some (r72.1, s73)
              ) jFuel s57 y51 y52 y53 y54 y55 x58
            ) jFuel s41 y36 y37 y38 y39 y36 0) (by omega) A 0 jFuel (jaf (jis m 0 0) 20 (fun _ => 0)) (by omega) (jFuel_gt (by omega))
  rw [jaf_jaf] at r1
  have s1 := m153_loop (a := a) (A := A) (v1 := nI A) (v2 := nI many) (v5 := nI (cb a 8)) (K := fun s57 y51 y52 y53 y54 y55 y56 =>
            jl (y51 + y52) fun x58 =>
            f_X6_replace_197 (fun s70 y64 y65 y66 y67 y68 y69 =>
              jl (jaf s70 5 (s70.1 20)) fun s71 =>
              (f_X6_keep s71 y64 y65 (y67 - y65)).bind fun r72 =>
              jl (jis r72.2 2 ((r72.2.2 2) + (y67 - y65))) fun s73 =>
              some (r72.1, s73)
              ) jFuel s57 y51 y52 y53 y54 y55 x58) (by omega) 8 0 jFuel (jaf (jis m 0 0) 20 q1) rfl (jFuel_gt (by omega))
  rw [jaf_self, jaf_jaf] at s1
  obtain ⟨q2, t1, t2, t3⟩ := m197_loop (a := a) (A := A) (many := many) (added := cb a 8) (sz := sz) (v1 := nI A) (v7 := nI (A + cb a 8)) (K := fun s70 y64 y65 y66 y67 y68 y69 =>
              jl (jaf s70 5 (s70.1 20)) fun s71 =>
              (f_X6_keep s71 y64 y65 (y67 - y65)).bind fun r72 =>
              jl (jis r72.2 2 ((r72.2.2 2) + (y67 - y65))) fun s73 =>
              some (r72.1, s73)) hsz hA h40 (sz - (A + many)) (A + many) jFuel (jaf (jis m 0 0) 20 (wr a A 8 q1)) (by omega) (jFuel_gt (by omega)) (Nat.le_refl _) hT.2.2.1
  rw [jaf_jaf] at t1
  rw [jaf_self] at t3
  obtain ⟨m1, mk, k1, k2, k3, k6, k7, k8, k9⟩ := keep_eq (m := jaf (jaf (jis m 0 0) 20 q2) 5 q2) (A := A) (many := many) (added := cb a 8) (sz := sz) hsz hA h40 hT.2.2.1
  have h6 : f_X6_replace m (nI A) (nI many) a = some (nI (cnt (gM (jaf (jaf (jis m 0 0) 20 q2) 5 q2) A many) (10 * (sz + 1))), jis mk 2 (mk.2 2 + (nI (cb a 8) - nI many))) := by
    rw [f_X6_replace, jl_eq, if_neg (nI_pos (by omega)), if_neg (nI_pos (by omega)), if_pos (by
      show lg_cmp _ (m.2 2).toInt64 ≤ 0
      rw [hT.2.2.1]; exact (lgle (by omega) (by omega) (by omega)).mpr hA)]
    refine Eq.trans (m39_yes (a := a) 8 0 jFuel rfl (jFuel_gt (by omega)) (fun j _ h2 => hb j h2)) ?_
    rw [if_pos (by
      show (m.2 2 - nI many) + _ ≤ 40
      rw [hT.2.2.1, nI_sub (by omega), nI_add]; exact nI_le (b := 40) (by omega) (by omega)), jl_eq]
    refine Eq.trans r1 ?_
    refine Eq.trans s1 ?_
    rw [jl_eq, nI_add]
    refine Eq.trans t1 ?_
    rw [jl_eq, jaf_self, k1, Option.bind_some, jl_eq]
  have hmem : RMe x m sz → RMe x (jaf (jaf (jis m 0 0) 20 q2) 5 q2) sz := fun h => h
  have hcount : cnt (gX x A) (10 * (A + many)) = cnt (gM (jaf (jaf (jis m 0 0) 20 q2) 5 q2) A many) (10 * (sz + 1)) := gXM (hmem hM) hsz hA
  refine ⟨_, _, _, h5, hcount ▸ h6, ?_, ?_⟩
  · show va_up mk.2 2 (mk.2 2 + (nI (cb a 8) - nI many)) 0 = 0
    rw [va_up_ne _ _ (by decide), k3.1]
    rfl
  · have hme := (hmem hM).edit hsz hA h40 e3 e4 f2 k2 k6 k7 k8 k9
    have ex : ∀ j, j ≠ 12 → j ≠ 13 → j ≠ 14 → j ≠ 10 → (jis (jaf x2 10 f) 1 (nI (sz + cb a 8 - many))).1 j = x.1 j := fun j h1 h2 h3 h4 => (va_up_ne _ _ h4).trans (f3.2 j h1 h2 h3)
    have ex2 : ∀ j, j ≠ 1 → (jis (jaf x2 10 f) 1 (nI (sz + cb a 8 - many))).2 j = x.2 j := fun j h1 => (va_up_ne _ _ h1).trans (congrFun f3.1 j)
    have em : ∀ j, j ≠ 5 → j ≠ 6 → j ≠ 7 → j ≠ 8 → j ≠ 9 → j ≠ 20 → j ≠ 21 → j ≠ 22 → j ≠ 23 → (jis mk 2 (mk.2 2 + (nI (cb a 8) - nI many))).1 j = m.1 j := fun j h5 h6 h7 h8 h9 h20 h21 h22 h23 => (k3.2 j h6 h7 h8 h9 h20 h21 h22 h23).trans ((va_up_ne _ _ h5).trans (va_up_ne _ _ h20))
    have em2 : ∀ j, j ≠ 2 → j ≠ 0 → (jis mk 2 (mk.2 2 + (nI (cb a 8) - nI many))).2 j = m.2 j := fun j h1 h2 => (va_up_ne _ _ h1).trans ((congrFun k3.1 j).trans (va_up_ne _ _ h2))
    have em5 : (jis mk 2 (mk.2 2 + (nI (cb a 8) - nI many))).1 5 = q2 := (k3.2 5 (by decide) (by decide) (by decide) (by decide) (by decide) (by decide) (by decide) (by decide)).trans (jaf_self _ 5 q2)
    have ex10 : (jis (jaf x2 10 f) 1 (nI (sz + cb a 8 - many))).1 10 = f := jaf_self x2 10 f
    have ex21 : (jis (jaf x2 10 f) 1 (nI (sz + cb a 8 - many))).2 1 = nI (sz + cb a 8 - many) := va_up_self x2.2 1 _
    have em22 : (jis mk 2 (mk.2 2 + (nI (cb a 8) - nI many))).2 2 = nI (sz + cb a 8 - many) := by
      refine (va_up_self mk.2 2 _).trans ?_
      rw [congrFun k3.1 2]
      show m.2 2 + _ = _
      rw [hT.2.2.1, ← nI_sub (by omega), ← nI_add]
      grind
    refine ⟨n, sz + cb a 8 - many, ?_, ⟨by omega, ex21, em22, fun i hi => ?_⟩, hme, ?_, ?_⟩
    · unfold RG RE at hG ⊢
      rw [ex 2 (by decide) (by decide) (by decide) (by decide), ex 3 (by decide) (by decide) (by decide) (by decide), ex 4 (by decide) (by decide) (by decide) (by decide), ex 5 (by decide) (by decide) (by decide) (by decide), ex2 0 (by decide), em2 1 (by decide) (by decide), em 1 (by decide) (by decide) (by decide) (by decide) (by decide) (by decide) (by decide) (by decide) (by decide), em 2 (by decide) (by decide) (by decide) (by decide) (by decide) (by decide) (by decide) (by decide) (by decide), em 3 (by decide) (by decide) (by decide) (by decide) (by decide) (by decide) (by decide) (by decide) (by decide), em 4 (by decide) (by decide) (by decide) (by decide) (by decide) (by decide) (by decide) (by decide) (by decide)]
      exact hG
    · rw [ex10, em5, g2]
      have hx10 : x2.1 10 = x.1 10 := f3.2 10 (by decide) (by decide) (by decide)
      rw [hx10]
      rcases Nat.lt_or_ge i (A + cb a 8) with h1 | h1
      · rw [t3 i (by omega)]
        rcases Nat.lt_or_ge i A with h2 | h2
        · rw [wr_out 8 0 _ rfl (Or.inl (by show i < A + cnt (nz a) 0; exact h2)), wr_out 8 0 _ rfl (Or.inl (by show i < A + cnt (nz a) 0; exact h2)), r2 i (by omega) h2]
          unfold va_cpy
          rw [if_neg (by omega)]
          exact hT.2.2.2 i (by omega)
        · exact wr_in 8 0 _ _ rfl (by show A + cnt (nz a) 0 ≤ i; exact h2) h1
      · rw [wr_out 8 0 _ rfl (Or.inr h1)]
        unfold va_cpy
        rw [if_pos (by omega)]
        have := t2 (A + many + (i - (A + cb a 8))) (by omega) (by omega)
        rw [show A + many + (i - (A + cb a 8)) + cb a 8 - many = i by omega] at this
        rw [this]
        exact hT.2.2.2 _ (by omega)
    · unfold RP at hP ⊢
      rw [ex2 2 (by decide), ex 23 (by decide) (by decide) (by decide) (by decide), ex 24 (by decide) (by decide) (by decide) (by decide)]
      exact hP
    · unfold RC at hC ⊢
      rw [ex2 3 (by decide), ex2 4 (by decide), ex2 5 (by decide), ex2 6 (by decide), em2 6 (by decide) (by decide), em2 7 (by decide) (by decide), em2 8 (by decide) (by decide), em2 9 (by decide) (by decide)]
      exact hC
theorem lh_replace : LH_replace Rel := by
  intro x m out a1 a2 a3 h
  obtain ⟨n, sz, hG, hT, hM, hP, hC⟩ := id h
  have hsz := hT.1
  by_cases h1 : a1 < 0
  · have h5 : f_X5_replace x a1 a2 a3 = some (3, 0, x) := by rw [f_X5_replace, if_pos h1]
    have h6 : f_X6_replace m a1 a2 a3 = some (0, jis (jis m 0 0) 0 1) := by rw [f_X6_replace, jl_eq, if_pos h1]; rfl
    exact lhw_no (c := 1) (by simp [f_L_replace, h5]) h6 (by decide) h
  by_cases h2 : a2 < 0
  · have h5 : f_X5_replace x a1 a2 a3 = some (3, 0, x) := by rw [f_X5_replace, if_neg h1, if_pos h2]
    have h6 : f_X6_replace m a1 a2 a3 = some (0, jis (jis m 0 0) 0 1) := by rw [f_X6_replace, jl_eq, if_neg h1, if_pos h2]; rfl
    exact lhw_no (c := 1) (by simp [f_L_replace, h5]) h6 (by decide) h
  obtain ⟨A, hA, rfl⟩ := nI_of h1
  obtain ⟨many, hmy, rfl⟩ := nI_of h2
  have hlg : (lg_cmp ((nI A).toInt64 + (nI many).toInt64) ((jis m 0 0).2 2).toInt64) ≤ 0 ↔ A + many ≤ sz := by
    show (lg_cmp ((nI A).toInt64 + (nI many).toInt64) (m.2 2).toInt64) ≤ 0 ↔ _
    rw [hT.2.2.1]
    exact lgle hA hmy (by omega)
  by_cases h3 : A + many ≤ sz
  · by_cases hb : ∀ j, j < 8 → okB a3 j
    · by_cases h40 : sz + cb a3 8 ≤ 40 + many
      · obtain ⟨g, x', m', h5, h6, h7, h8⟩ := replace_ok hG hT hM hP hC h3 hb h40
        exact lhw_ok (v := g) (x' := x') (by simp [f_L_replace, h5]) h6 h7 h8
      · have hc8 := cb_le a3 8
        have h5 : f_X5_replace x (nI A) (nI many) a3 = some (2, 0, x) := by
          rw [f_X5_replace, if_neg (nI_pos (by omega)), if_neg (nI_pos (by omega)), hT.2.1, if_neg (show ¬ nI A > nI sz from nI_nlt (by omega) (by omega)), nI_sub (by omega), if_pos (nI_le (by omega) (by omega)), areBytes_yes hb, Option.bind_some, if_neg (by decide), countBytes_eq, Option.bind_some, nI_sub (by omega), nI_add, if_neg (show ¬ nI (sz - many + cb a3 8) ≤ 40 from nI_ge (a := 40) (by omega) (by omega))]
        have h6 : f_X6_replace m (nI A) (nI many) a3 = some (0, jis (jis m 0 0) 0 3) := by
          rw [f_X6_replace, jl_eq, if_neg (nI_pos (by omega)), if_neg (nI_pos (by omega)), if_pos (hlg.mpr h3)]
          refine Eq.trans (m39_yes (a := a3) 8 0 jFuel rfl (jFuel_gt (by omega)) (fun j _ h2 => hb j h2)) ?_
          rw [if_neg (by
            show ¬ (m.2 2 - nI many) + _ ≤ 40
            rw [hT.2.2.1, nI_sub (by omega), nI_add]; exact nI_ge (a := 40) (by omega) (by omega))]
          rfl
        exact lhw_no (c := 3) (by simp [f_L_replace, h5]) h6 (by decide) h
    · have h5 : f_X5_replace x (nI A) (nI many) a3 = some (1, 0, x) := by
        rw [f_X5_replace, if_neg (nI_pos (by omega)), if_neg (nI_pos (by omega)), hT.2.1, if_neg (show ¬ nI A > nI sz from nI_nlt (by omega) (by omega)), nI_sub (by omega), if_pos (nI_le (by omega) (by omega)), areBytes_no hb, Option.bind_some, if_pos rfl]
      have h6 : f_X6_replace m (nI A) (nI many) a3 = some (0, jis (jis m 0 0) 0 2) := by
        rw [f_X6_replace, jl_eq, if_neg (nI_pos (by omega)), if_neg (nI_pos (by omega)), if_pos (hlg.mpr h3)]
        exact m39_no (a := a3) 8 0 jFuel rfl (jFuel_gt (by omega)) (Classical.byContradiction fun hn => hb fun j hj => Classical.byContradiction fun h2 => hn ⟨j, by omega, hj, h2⟩)
      exact lhw_no (c := 2) (by simp [f_L_replace, h5]) h6 (by decide) h
  · have h5 : f_X5_replace x (nI A) (nI many) a3 = some (3, 0, x) := by
      rw [f_X5_replace, if_neg (nI_pos (by omega)), if_neg (nI_pos (by omega)), hT.2.1]
      by_cases h4 : A ≤ sz
      · rw [if_neg (show ¬ nI A > nI sz from nI_nlt (by omega) (by omega)), nI_sub (by omega), if_neg (nI_ge (by omega) (by omega))]
      · rw [if_pos (show nI A > nI sz from nI_lt (by omega) (by omega))]
    have h6 : f_X6_replace m (nI A) (nI many) a3 = some (0, jis (jis m 0 0) 0 1) := by
      rw [f_X6_replace, jl_eq, if_neg (nI_pos (by omega)), if_neg (nI_pos (by omega)), if_neg (fun h => h3 (hlg.mp h))]
      rfl
    exact lhw_no (c := 1) (by simp [f_L_replace, h5]) h6 (by decide) h
end L2P
