/-! plain, range, rule, join, wrap -/
section L2M
theorem f_X6_fail_eq (m : jS) (v : Int32) : f_X6_fail m v = some (0, jis m 0 v) := rfl
theorem nI_full {n : Nat} (hn : n ≤ 80) : nI n = 80 ↔ n = 80 := by
  constructor
  · intro h; exact nI_inj (b := 80) (by omega) (by omega) h
  · intro h; rw [h]; rfl
/-- an answer that isn't thrown -/
theorem lhw_ok {x m x' m' : jS} {out : Nat → Int64} {v : Int32} {fx : jSP → Option (Int32 × jSP)} {fm : jS → Option (Int32 × jS)} (h1 : fx (x, out) = some (0, (x', vp_updL out (0 : Int32).toNatClampNeg v.toInt64))) (h2 : fm m = some (v, m')) (h3 : m'.2 0 = 0) (h4 : Rel x' m') : LHw Rel fx fm x out m :=
  ⟨_, _, h1, h2, h3, fun _ => vp_updL_self out (0 : Int32).toNatClampNeg v.toInt64, h4⟩
theorem lhw_no {x m : jS} {out : Nat → Int64} {c : Int32} {fx : jSP → Option (Int32 × jSP)} {fm : jS → Option (Int32 × jS)} (h1 : fx (x, out) = some (c, (x, out))) (h2 : fm m = some (0, jis (jis m 0 0) 0 c)) (hc : c ≠ 0) (h4 : Rel x m) : LHw Rel fx fm x out m :=
  ⟨_, _, h1, h2, rfl, fun h => absurd h hc, h4⟩
theorem lh_plain : LH_plain Rel := by
  intro x m out a h
  obtain ⟨n, sz, hG, hT, hM, hP, hC⟩ := id h
  have hfull := f_X5_refuseIfFull_eq hG.1 hG.2.1
  have hm1 : (jis m 0 0).2 1 = nI n := hG.2.2.1
  have e1 : va_up m.2 0 0 1 = nI n := hG.2.2.1
  by_cases ha : a = 0 ∨ a = 1
  · by_cases hn : n < 80
    · have e2 : ¬ nI n = 80 := fun e => absurd ((nI_full hG.1).mp e) (by omega)
      have h5 : f_X5_plain x a = some (0, nI n, xAdd x n a (-1) (-1)) := by
        rcases ha with rfl | rfl <;> simp [f_X5_plain, hfull, hn, f_X0_add_eq hn hG.2.1]
      have h6 : f_X6_plain m a = some (nI n, mAdd (jis m 0 0) n a 0 0) := by
        rcases ha with rfl | rfl <;> simp [f_X6_plain, jl, e1, e2, f_X6_add_eq hn hm1]
      refine lhw_ok (v := nI n) (x' := xAdd x n a (-1) (-1)) (by simp [f_L_plain, h5]) h6 rfl (Rel.add (k := if a = 0 then 0 else 1) hn hG hT hM hP hC ?_)
      rcases ha with rfl | rfl
      · exact ⟨by decide, upd_self _ _ _, upd_self _ _ _, fun h => absurd h (by decide), fun h => absurd h (by decide), fun h => absurd h (by decide), fun h => absurd h (by decide), fun h => absurd h (by decide)⟩
      · exact ⟨by decide, upd_self _ _ _, upd_self _ _ _, fun h => absurd h (by decide), fun h => absurd h (by decide), fun h => absurd h (by decide), fun h => absurd h (by decide), fun h => absurd h (by decide)⟩
    · have e2 : nI n = 80 := (nI_full hG.1).mpr (by have := hG.1; omega)
      have h5 : f_X5_plain x a = some (2, 0, x) := by
        rcases ha with rfl | rfl <;> simp [f_X5_plain, hfull, hn]
      have h6 : f_X6_plain m a = some (0, jis (jis m 0 0) 0 2) := by
        rcases ha with rfl | rfl <;> simp [f_X6_plain, jl, e1, e2, f_X6_fail_eq]
      exact lhw_no (c := 2) (by simp [f_L_plain, h5]) h6 (by decide) h
  · have h0 : ¬ a = 0 := fun e => ha (Or.inl e)
    have h1 : ¬ a = 1 := fun e => ha (Or.inr e)
    have h5 : f_X5_plain x a = some (1, 0, x) := by simp [f_X5_plain, h0, h1]
    have h6 : f_X6_plain m a = some (0, jis (jis m 0 0) 0 1) := by simp [f_X6_plain, jl, h0, h1, f_X6_fail_eq]
    exact lhw_no (c := 1) (by simp [f_L_plain, h5]) h6 (by decide) h
end L2M
