theorem jb01 {v : Int32} (h1 : v &&& 1 = v) : v = 0 ∨ v = 1 := by
  have h2 : v.toBitVec.toNat &&& 1 = v.toBitVec.toNat := by
    have h9 := congrArg (fun z : Int32 => z.toBitVec.toNat) h1
    simpa using h9
  rw [Nat.and_one_is_mod] at h2
  have h3 : v.toBitVec.toNat = 0 ∨ v.toBitVec.toNat = 1 := by omega
  rcases h3 with h3 | h3
  · exact Or.inl (Int32.toBitVec_inj.mp (BitVec.eq_of_toNat_eq (by rw [h3]; rfl)))
  · exact Or.inr (Int32.toBitVec_inj.mp (BitVec.eq_of_toNat_eq (by rw [h3]; rfl)))
theorem jfit {v : Int32} (h : narrow .boolean (.int v) = .int v) : fits .boolean (.int v) = true := by
  have h1 : v &&& 1 = v := by
    have h9 : Value.int (v &&& 1) = Value.int v := h
    injection h9
  rcases jb01 h1 with rfl | rfl <;> rfl
