/-! plain, range, rule, join, wrap -/
section L2M
theorem f_X6_fail_eq (m : jS) (v : Int32) : f_X6_fail m v = some (0, jis m 0 v) := rfl
theorem nI_full {n : Nat} (hn : n ≤ 80) : nI n = 80 ↔ n = 80 := by
  constructor
  · intro h; exact nI_inj (b := 80) (by omega) (by omega) h
  · intro h; rw [h]; rfl
/-- an answer that isn't thrown -/
theorem lhw_ok {x m x' m' : jS} {out : Nat → Int64} {v : Int32} {fx : jSP → Option (Int32 × jSP)} {fm : jS → Option (Int32 × jS)} (h1 : fx (x, out) = some (0, (x', vp_updL out (0 : Int32).toNatClampNeg v.toInt64))) (h2 : fm m = some (v, m')) (h3 : m'.2 0 = 0) (h4 : Rel x' m') : LHw Rel fx fm x out m :=
  ⟨_, _, h1, h2, h3, fun _ => vp_updL_self out (0 : Int32).toNatClampNeg v.toInt64, h4⟩
theorem lhw_no {x m : jS} {out : Nat → Int64} {c : Int32} {fx : jSP → Option (Int32 × jSP)} {fm : jS → Option (Int32 × jS)} (h1 : fx (x, out) = some (c, (x, out))) (h2 : fm m = some (0, jis (jis m 0 0) 0 c)) (hc : c ≠ 0) (h4 : Rel x m) : LHw Rel fx fm x out m :=
  ⟨_, _, h1, h2, rfl, fun h => absurd h hc, h4⟩
theorem lh_plain : LH_plain Rel := by
  intro x m out a h
  obtain ⟨n, sz, hG, hT, hM, hP, hC⟩ := id h
  have hfull := f_X5_refuseIfFull_eq hG.1 hG.2.1
  have hm1 : (jis m 0 0).2 1 = nI n := hG.2.2.1
  have e1 : va_up m.2 0 0 1 = nI n := hG.2.2.1
  by_cases ha : a = 0 ∨ a = 1
  · by_cases hn : n < 80
    · have e2 : ¬ nI n = 80 := fun e => absurd ((nI_full hG.1).mp e) (by omega)
      have h5 : f_X5_plain x a = some (0, nI n, xAdd x n a (-1) (-1)) := by
        rcases ha with rfl | rfl <;> simp [f_X5_plain, hfull, hn, f_X0_add_eq hn hG.2.1]
      have h6 : f_X6_plain m a = some (nI n, mAdd (jis m 0 0) n a 0 0) := by
        rcases ha with rfl | rfl <;> simp [f_X6_plain, jl, e1, e2, f_X6_add_eq hn hm1]
      refine lhw_ok (v := nI n) (x' := xAdd x n a (-1) (-1)) (by simp [f_L_plain, h5]) h6 rfl (Rel.add (k := if a = 0 then 0 else 1) hn hG hT hM hP hC ?_)
      rcases ha with rfl | rfl
      · exact ⟨by decide, upd_self _ _ _, upd_self _ _ _, fun h => absurd h (by decide), fun h => absurd h (by decide), fun h => absurd h (by decide), fun h => absurd h (by decide), fun h => absurd h (by decide), fun h => absurd h (by decide)⟩
      · exact ⟨by decide, upd_self _ _ _, upd_self _ _ _, fun h => absurd h (by decide), fun h => absurd h (by decide), fun h => absurd h (by decide), fun h => absurd h (by decide), fun h => absurd h (by decide), fun h => absurd h (by decide)⟩
    · have e2 : nI n = 80 := (nI_full hG.1).mpr (by have := hG.1; omega)
      have h5 : f_X5_plain x a = some (2, 0, x) := by
        rcases ha with rfl | rfl <;> simp [f_X5_plain, hfull, hn]
      have h6 : f_X6_plain m a = some (0, jis (jis m 0 0) 0 2) := by
        rcases ha with rfl | rfl <;> simp [f_X6_plain, jl, e1, e2, f_X6_fail_eq]
      exact lhw_no (c := 2) (by simp [f_L_plain, h5]) h6 (by decide) h
  · have h0 : ¬ a = 0 := fun e => ha (Or.inl e)
    have h1 : ¬ a = 1 := fun e => ha (Or.inr e)
    have h5 : f_X5_plain x a = some (1, 0, x) := by simp [f_X5_plain, h0, h1]
    have h6 : f_X6_plain m a = some (0, jis (jis m 0 0) 0 1) := by simp [f_X6_plain, jl, h0, h1, f_X6_fail_eq]
    exact lhw_no (c := 1) (by simp [f_L_plain, h5]) h6 (by decide) h
/-- a number of 0 .. n-1, and none -/
theorem num_no {a : Int32} {n : Nat} (hn : n < 2 ^ 31) (h : ¬ ∃ e, e < n ∧ a = nI e) : a < 0 ∨ nI n ≤ a := by
  by_cases h0 : a < 0
  · exact Or.inl h0
  · refine Or.inr ?_
    obtain ⟨j, hj, rfl⟩ := nI_of h0
    refine nI_le ?_ hj
    exact Nat.le_of_not_lt (fun hl => h ⟨j, hl, rfl⟩)
theorem refE_yes {x : jS} {n e : Nat} (hn : n ≤ 80) (h : x.2 0 = nI n) (he : e < n) : f_X5_refuseUnknownExpression x (nI e) = some (0, x) := by
  have h1 : ¬ nI e < 0 := nI_pos (by omega)
  have h2 : ¬ nI n ≤ nI e := nI_ge he (by omega)
  simp [f_X5_refuseUnknownExpression, f_X0_has, h, h1, h2]
theorem refE_no {x : jS} {n : Nat} {a : Int32} (hn : n ≤ 80) (h : x.2 0 = nI n) (ha : ¬ ∃ e, e < n ∧ a = nI e) : f_X5_refuseUnknownExpression x a = some (3, x) := by
  rcases num_no (by omega) ha with h1 | h1
  · simp [f_X5_refuseUnknownExpression, f_X0_has, h, h1]
  · simp [f_X5_refuseUnknownExpression, f_X0_has, h, h1]
theorem isE_yes {m : jS} {n e : Nat} (hn : n ≤ 80) (h : m.2 1 = nI n) (he : e < n) : f_X6_isExpression m (nI e) = some (1, m) := by
  have h1 : ¬ nI e < 0 := nI_pos (by omega)
  have h2 : ¬ nI n ≤ nI e := nI_ge he (by omega)
  simp [f_X6_isExpression, h, h1, h2]
theorem isE_no {m : jS} {n : Nat} {a : Int32} (hn : n ≤ 80) (h : m.2 1 = nI n) (ha : ¬ ∃ e, e < n ∧ a = nI e) : f_X6_isExpression m a = some (0, m) := by
  rcases num_no (by omega) ha with h1 | h1
  · simp [f_X6_isExpression, h, h1]
  · simp [f_X6_isExpression, h, h1]
theorem refR_yes {r : Nat} (hr : r < 10) : f_X5_refuseUnknownRule (nI r) = some 0 := by
  have h1 : ¬ nI r < 0 := nI_pos (by omega)
  have h2 : nI r < 10 := nI_lt (b := 10) hr (by omega)
  simp [f_X5_refuseUnknownRule, h1, h2]
theorem refR_no {a : Int32} (ha : ¬ ∃ r, r < 10 ∧ a = nI r) : f_X5_refuseUnknownRule a = some 3 := by
  unfold f_X5_refuseUnknownRule
  by_cases h0 : a < 0
  · rw [if_pos h0]
  · rw [if_neg h0]
    rw [if_neg (show ¬ a < 10 from fun h => ha (nI_lt_of (N := 10) (by omega) h0 h))]
theorem isR_yes {r : Nat} (hr : r < 10) : f_X6_isRule (nI r) = some 1 := by
  have h1 : ¬ nI r < 0 := nI_pos (by omega)
  have h2 : ¬ (10 : Int32) ≤ nI r := nI_ge (b := 10) hr (by omega)
  simp [f_X6_isRule, h1, h2]
theorem isR_no {a : Int32} (ha : ¬ ∃ r, r < 10 ∧ a = nI r) : f_X6_isRule a = some 0 := by
  unfold f_X6_isRule
  rcases num_no (n := 10) (by omega) ha with h | h
  · rw [if_pos h]
  · by_cases h0 : a < 0
    · rw [if_pos h0]
    · rw [if_neg h0, if_pos (show a ≥ 10 from h)]
theorem isByte_eq (a : Int32) : f_X6_isByte a = f_X5_isByte a := rfl
theorem isByte_is (a : Int32) : f_X5_isByte a = some 0 ∨ f_X5_isByte a = some 1 := by
  unfold f_X5_isByte
  by_cases h : a < 32
  · rw [if_pos h]; exact Or.inl rfl
  · rw [if_neg h]
    by_cases h2 : a > 126
    · rw [if_pos h2]; exact Or.inl rfl
    · rw [if_neg h2]; exact Or.inr rfl
theorem isByte_pos {a : Int32} (h : f_X5_isByte a = some 1) : ¬ a < 0 := by
  intro h0
  have h32 : a < 32 := Int32.lt_trans h0 (by decide)
  unfold f_X5_isByte at h
  rw [if_pos h32] at h
  exact absurd (Option.some.inj h) (by decide)
theorem lh_range : LH_range Rel := by
  intro x m out a b h
  obtain ⟨n, sz, hG, hT, hM, hP, hC⟩ := id h
  have hfull := f_X5_refuseIfFull_eq hG.1 hG.2.1
  have hm1 : (jis m 0 0).2 1 = nI n := hG.2.2.1
  have e1 : va_up m.2 0 0 1 = nI n := hG.2.2.1
  by_cases hab : f_X5_isByte a = some 1 ∧ f_X5_isByte b = some 1 ∧ a ≤ b
  · obtain ⟨ha, hb, hle⟩ := hab
    have ha6 : f_X6_isByte a = some 1 := ha
    have hb6 : f_X6_isByte b = some 1 := hb
    by_cases hn : n < 80
    · have e2 : ¬ nI n = 80 := fun e => absurd ((nI_full hG.1).mp e) (by omega)
      have h5 : f_X5_range x a b = some (0, nI n, xAdd x n 2 a b) := by simp [f_X5_range, ha, hb, hle, hfull, hn, f_X0_add_eq hn hG.2.1]
      have h6 : f_X6_range m a b = some (nI n, mAdd (jis m 0 0) n 2 a b) := by simp [f_X6_range, ha6, hb6, hle, jl, e1, e2, f_X6_add_eq hn hm1]
      refine lhw_ok (v := nI n) (x' := xAdd x n 2 a b) (by simp [f_L_range, h5]) h6 rfl (Rel.add (k := 2) hn hG hT hM hP hC ?_)
      exact ⟨by decide, upd_self _ _ _, upd_self _ _ _, fun _ => (upd_self _ _ _).trans (upd_self _ _ _).symm, fun _ => (upd_self _ _ _).trans (upd_self _ _ _).symm, fun h => absurd h (by decide), fun h => absurd h (by decide), fun h => absurd h (by decide), fun _ => by rw [show (mAdd (jis m 0 0) n 2 a b).1 2 n = a from upd_self _ _ _]; exact isByte_pos ha⟩
    · have e2 : nI n = 80 := (nI_full hG.1).mpr (by have := hG.1; omega)
      have h5 : f_X5_range x a b = some (2, 0, x) := by simp [f_X5_range, ha, hb, hle, hfull, hn]
      have h6 : f_X6_range m a b = some (0, jis (jis m 0 0) 0 2) := by simp [f_X6_range, ha6, hb6, hle, jl, e1, e2, f_X6_fail_eq]
      exact lhw_no (c := 2) (by simp [f_L_range, h5]) h6 (by decide) h
  · have key : f_X5_range x a b = some (1, 0, x) ∧ f_X6_range m a b = some (0, jis (jis m 0 0) 0 1) := by
      rcases isByte_is a with ha | ha
      · have ha6 : f_X6_isByte a = some 0 := ha
        exact ⟨by simp [f_X5_range, ha], by simp [f_X6_range, ha6, jl, f_X6_fail_eq]⟩
      · have ha6 : f_X6_isByte a = some 1 := ha
        rcases isByte_is b with hb | hb
        · have hb6 : f_X6_isByte b = some 0 := hb
          exact ⟨by simp [f_X5_range, ha, hb], by simp [f_X6_range, ha6, hb6, jl, f_X6_fail_eq]⟩
        · have hb6 : f_X6_isByte b = some 1 := hb
          have hle : ¬ a ≤ b := fun hle => hab ⟨ha, hb, hle⟩
          exact ⟨by simp [f_X5_range, ha, hb, hle], by simp [f_X6_range, ha6, hb6, hle, jl, f_X6_fail_eq]⟩
    exact lhw_no (c := 1) (by simp [f_L_range, key.1]) key.2 (by decide) h
theorem lh_rule : LH_rule Rel := by
  intro x m out a h
  obtain ⟨n, sz, hG, hT, hM, hP, hC⟩ := id h
  have hfull := f_X5_refuseIfFull_eq hG.1 hG.2.1
  have hm1 : (jis m 0 0).2 1 = nI n := hG.2.2.1
  have e1 : va_up m.2 0 0 1 = nI n := hG.2.2.1
  by_cases ha : ∃ r, r < 10 ∧ a = nI r
  · obtain ⟨r, hr, rfl⟩ := ha
    by_cases hn : n < 80
    · have e2 : ¬ nI n = 80 := fun e => absurd ((nI_full hG.1).mp e) (by omega)
      have h5 : f_X5_rule x (nI r) = some (0, nI n, xAdd x n 3 (nI r) (-1)) := by simp [f_X5_rule, refR_yes hr, hfull, hn, f_X0_add_eq hn hG.2.1]
      have h6 : f_X6_rule m (nI r) = some (nI n, mAdd (jis m 0 0) n 3 (nI r) 0) := by simp [f_X6_rule, isR_yes hr, jl, e1, e2, f_X6_add_eq hn hm1]
      refine lhw_ok (v := nI n) (x' := xAdd x n 3 (nI r) (-1)) (by simp [f_L_rule, h5]) h6 rfl (Rel.add (k := 3) hn hG hT hM hP hC ?_)
      exact ⟨by decide, upd_self _ _ _, upd_self _ _ _, fun _ => (upd_self _ _ _).trans (upd_self _ _ _).symm, fun h => absurd h (by decide), fun _ => ⟨r, hr, upd_self _ _ _⟩, fun h => absurd h (by decide), fun h => absurd h (by decide), fun h => absurd h (by decide)⟩
    · have e2 : nI n = 80 := (nI_full hG.1).mpr (by have := hG.1; omega)
      have h5 : f_X5_rule x (nI r) = some (2, 0, x) := by simp [f_X5_rule, refR_yes hr, hfull, hn]
      have h6 : f_X6_rule m (nI r) = some (0, jis (jis m 0 0) 0 2) := by simp [f_X6_rule, isR_yes hr, jl, e1, e2, f_X6_fail_eq]
      exact lhw_no (c := 2) (by simp [f_L_rule, h5]) h6 (by decide) h
  · have h5 : f_X5_rule x a = some (3, 0, x) := by simp [f_X5_rule, refR_no ha]
    have h6 : f_X6_rule m a = some (0, jis (jis m 0 0) 0 1) := by simp [f_X6_rule, isR_no ha, jl, f_X6_fail_eq]
    exact lhw_no (c := 1) (by simp [f_L_rule, h5]) h6 (by decide) h
theorem lh_join : LH_join Rel := by
  intro x m out k a b h
  obtain ⟨n, sz, hG, hT, hM, hP, hC⟩ := id h
  have hfull := f_X5_refuseIfFull_eq hG.1 hG.2.1
  have hm1 : (jis m 0 0).2 1 = nI n := hG.2.2.1
  have e1 : va_up m.2 0 0 1 = nI n := hG.2.2.1
  by_cases ha : ∃ e, e < n ∧ a = nI e
  · obtain ⟨ea, hea, rfl⟩ := ha
    by_cases hb : ∃ e, e < n ∧ b = nI e
    · obtain ⟨eb, heb, rfl⟩ := hb
      by_cases hk : k = 4 ∨ k = 5
      · by_cases hn : n < 80
        · have e2 : ¬ nI n = 80 := fun e => absurd ((nI_full hG.1).mp e) (by omega)
          have h5 : f_X5_join x k (nI ea) (nI eb) = some (0, nI n, xAdd x n k (nI ea) (nI eb)) := by
            rcases hk with rfl | rfl <;> simp [f_X5_join, refE_yes hG.1 hG.2.1 hea, refE_yes hG.1 hG.2.1 heb, hfull, hn, f_X0_add_eq hn hG.2.1]
          have h6 : f_X6_join m k (nI ea) (nI eb) = some (nI n, mAdd (jis m 0 0) n k (nI ea) (nI eb)) := by
            rcases hk with rfl | rfl <;> simp [f_X6_join, isE_yes hG.1 hm1 hea, isE_yes hG.1 hm1 heb, jl, e1, e2, f_X6_add_eq hn hm1]
          refine lhw_ok (v := nI n) (x' := xAdd x n k (nI ea) (nI eb)) (by simp [f_L_join, h5]) h6 rfl (Rel.add (k := if k = 4 then 4 else 5) hn hG hT hM hP hC ?_)
          rcases hk with rfl | rfl
          · exact ⟨by decide, upd_self _ _ _, upd_self _ _ _, fun _ => (upd_self _ _ _).trans (upd_self _ _ _).symm, fun _ => (upd_self _ _ _).trans (upd_self _ _ _).symm, fun h => absurd h (by decide), fun _ => ⟨ea, eb, hea, heb, upd_self _ _ _, upd_self _ _ _⟩, fun h => absurd h (by decide), fun h => absurd h (by decide)⟩
          · exact ⟨by decide, upd_self _ _ _, upd_self _ _ _, fun _ => (upd_self _ _ _).trans (upd_self _ _ _).symm, fun _ => (upd_self _ _ _).trans (upd_self _ _ _).symm, fun h => absurd h (by decide), fun _ => ⟨ea, eb, hea, heb, upd_self _ _ _, upd_self _ _ _⟩, fun h => absurd h (by decide), fun h => absurd h (by decide)⟩
        · have e2 : nI n = 80 := (nI_full hG.1).mpr (by have := hG.1; omega)
          have h5 : f_X5_join x k (nI ea) (nI eb) = some (2, 0, x) := by
            rcases hk with rfl | rfl <;> simp [f_X5_join, refE_yes hG.1 hG.2.1 hea, refE_yes hG.1 hG.2.1 heb, hfull, hn]
          have h6 : f_X6_join m k (nI ea) (nI eb) = some (0, jis (jis m 0 0) 0 3) := by
            rcases hk with rfl | rfl <;> simp [f_X6_join, isE_yes hG.1 hm1 hea, isE_yes hG.1 hm1 heb, jl, e1, e2, f_X6_fail_eq]
          exact lhw_no (c := 3) (by simp [f_L_join, h5]) h6 (by decide) h
      · have k4 : ¬ k = 4 := fun e => hk (Or.inl e)
        have k5 : ¬ k = 5 := fun e => hk (Or.inr e)
        have h5 : f_X5_join x k (nI ea) (nI eb) = some (1, 0, x) := by simp [f_X5_join, refE_yes hG.1 hG.2.1 hea, refE_yes hG.1 hG.2.1 heb, k4, k5]
        have h6 : f_X6_join m k (nI ea) (nI eb) = some (0, jis (jis m 0 0) 0 2) := by simp [f_X6_join, isE_yes hG.1 hm1 hea, isE_yes hG.1 hm1 heb, jl, k4, k5, f_X6_fail_eq]
        exact lhw_no (c := 2) (by simp [f_L_join, h5]) h6 (by decide) h
    · have h5 : f_X5_join x k (nI ea) b = some (3, 0, x) := by simp [f_X5_join, refE_yes hG.1 hG.2.1 hea, refE_no hG.1 hG.2.1 hb]
      have h6 : f_X6_join m k (nI ea) b = some (0, jis (jis m 0 0) 0 1) := by simp [f_X6_join, isE_yes hG.1 hm1 hea, isE_no hG.1 hm1 hb, jl, f_X6_fail_eq]
      exact lhw_no (c := 1) (by simp [f_L_join, h5]) h6 (by decide) h
  · have h5 : f_X5_join x k a b = some (3, 0, x) := by simp [f_X5_join, refE_no hG.1 hG.2.1 ha]
    have h6 : f_X6_join m k a b = some (0, jis (jis m 0 0) 0 1) := by simp [f_X6_join, isE_no hG.1 hm1 ha, jl, f_X6_fail_eq]
    exact lhw_no (c := 1) (by simp [f_L_join, h5]) h6 (by decide) h
theorem lh_wrap : LH_wrap Rel := by
  intro x m out k a h
  obtain ⟨n, sz, hG, hT, hM, hP, hC⟩ := id h
  have hfull := f_X5_refuseIfFull_eq hG.1 hG.2.1
  have hm1 : (jis m 0 0).2 1 = nI n := hG.2.2.1
  have e1 : va_up m.2 0 0 1 = nI n := hG.2.2.1
  by_cases ha : ∃ e, e < n ∧ a = nI e
  · obtain ⟨ea, hea, rfl⟩ := ha
    by_cases k6 : k < 6
    · have h5 : f_X5_wrap x k (nI ea) = some (1, 0, x) := by simp [f_X5_wrap, refE_yes hG.1 hG.2.1 hea, k6]
      have h6 : f_X6_wrap m k (nI ea) = some (0, jis (jis m 0 0) 0 2) := by simp [f_X6_wrap, isE_yes hG.1 hm1 hea, jl, k6, f_X6_fail_eq]
      exact lhw_no (c := 2) (by simp [f_L_wrap, h5]) h6 (by decide) h
    · by_cases k9 : k ≤ 9
      · by_cases hn : n < 80
        · have e2 : ¬ nI n = 80 := fun e => absurd ((nI_full hG.1).mp e) (by omega)
          have h5 : f_X5_wrap x k (nI ea) = some (0, nI n, xAdd x n k (nI ea) (-1)) := by simp [f_X5_wrap, refE_yes hG.1 hG.2.1 hea, k6, k9, hfull, hn, f_X0_add_eq hn hG.2.1]
          have h6 : f_X6_wrap m k (nI ea) = some (nI n, mAdd (jis m 0 0) n k (nI ea) 0) := by simp [f_X6_wrap, isE_yes hG.1 hm1 hea, jl, k6, k9, e1, e2, f_X6_add_eq hn hm1]
          have hkk : ∃ j, 6 ≤ j ∧ j ≤ 9 ∧ k = nI j := by
            have k0 : ¬ k < 0 := fun h0 => k6 (Int32.lt_trans h0 (by decide))
            obtain ⟨j, hj, rfl⟩ := nI_of k0
            exact ⟨j, Nat.le_of_not_lt (fun hl => k6 (nI_lt (b := 6) hl (by omega))), (nI_leI (b := 9) hj (by omega)).mp k9, rfl⟩
          obtain ⟨j, j6, j9, rfl⟩ := hkk
          refine lhw_ok (v := nI n) (x' := xAdd x n (nI j) (nI ea) (-1)) (by simp [f_L_wrap, h5]) h6 rfl (Rel.add (k := j) hn hG hT hM hP hC ?_)
          exact ⟨j9, upd_self _ _ _, upd_self _ _ _, fun _ => (upd_self _ _ _).trans (upd_self _ _ _).symm, fun h => by omega, fun h => by omega, fun h => by omega, fun _ => ⟨ea, hea, upd_self _ _ _⟩, fun h => by omega⟩
        · have e2 : nI n = 80 := (nI_full hG.1).mpr (by have := hG.1; omega)
          have h5 : f_X5_wrap x k (nI ea) = some (2, 0, x) := by simp [f_X5_wrap, refE_yes hG.1 hG.2.1 hea, k6, k9, hfull, hn]
          have h6 : f_X6_wrap m k (nI ea) = some (0, jis (jis m 0 0) 0 3) := by simp [f_X6_wrap, isE_yes hG.1 hm1 hea, jl, k6, k9, e1, e2, f_X6_fail_eq]
          exact lhw_no (c := 3) (by simp [f_L_wrap, h5]) h6 (by decide) h
      · have h5 : f_X5_wrap x k (nI ea) = some (1, 0, x) := by simp [f_X5_wrap, refE_yes hG.1 hG.2.1 hea, k6, k9]
        have h6 : f_X6_wrap m k (nI ea) = some (0, jis (jis m 0 0) 0 2) := by simp [f_X6_wrap, isE_yes hG.1 hm1 hea, jl, k6, k9, f_X6_fail_eq]
        exact lhw_no (c := 2) (by simp [f_L_wrap, h5]) h6 (by decide) h
  · have h5 : f_X5_wrap x k a = some (3, 0, x) := by simp [f_X5_wrap, refE_no hG.1 hG.2.1 ha]
    have h6 : f_X6_wrap m k a = some (0, jis (jis m 0 0) 0 1) := by simp [f_X6_wrap, isE_no hG.1 hm1 ha, jl, f_X6_fail_eq]
    exact lhw_no (c := 1) (by simp [f_L_wrap, h5]) h6 (by decide) h
end L2M
