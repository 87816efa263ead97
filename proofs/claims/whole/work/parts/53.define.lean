/-! define -/
section L2D
theorem give_eq {x : jS} {r : Nat} {v : Int32} (hr : r < 10) : f_X0_give x (nI r) v = some (x.1 5 r, jaf x 5 (upd (x.1 5) r v)) := by
  unfold f_X0_give
  simp only [jl]
  rw [job_nI hr (by omega), jag_nI (by omega), jas_nI (by omega)]
  rfl
theorem RG.given {x m : jS} {n r : Nat} {v : Int32} (h : RG x m n) (hr : r < 10) (hv : v = -1 ∨ ∃ e, e < n ∧ v = nI e) : RG (jaf x 5 (upd (x.1 5) r v)) (jaf m 4 (upd (m.1 4) r v)) n := by
  refine ⟨h.1, h.2.1, h.2.2.1, h.2.2.2.1, fun q hq => ?_⟩
  show upd (x.1 5) r v q = upd (m.1 4) r v q ∧ (upd (x.1 5) r v q = -1 ∨ ∃ e, e < n ∧ upd (x.1 5) r v q = nI e)
  by_cases hqr : q = r
  · subst hqr
    rw [upd_self, upd_self]
    exact ⟨rfl, hv⟩
  · rw [upd_ne hqr, upd_ne hqr]
    exact h.2.2.2.2 q hq
theorem lh_define : LH_define Rel := by
  intro x m out a b h
  obtain ⟨n, sz, hG, hT, hM, hP, hC⟩ := id h
  have hm1 : (jis m 0 0).2 1 = nI n := hG.2.2.1
  by_cases ha : ∃ r, r < 10 ∧ a = nI r
  · obtain ⟨r, hr, rfl⟩ := ha
    have j1 : job (nI r) 10 = false := job_nI hr (by omega)
    have main : (b = -1 ∨ ∃ e, e < n ∧ b = nI e) → LHw Rel (fun u => f_L_define u (nI r) b) (fun z => f_X6_define z (nI r) b) x out m := by
      intro hv
      obtain ⟨x1, e1, e2, e3, e4⟩ := clear_eq x
      obtain ⟨m1, g1, g2, g3, g4⟩ := forgetAll_eq (jaf (jis m 0 0) 4 (upd (m.1 4) r b))
      have hx5 : x1.1 5 = x.1 5 := e3 5 (by decide) (by decide) (by decide)
      have h5 : f_X5_define x (nI r) b = some (0, x.1 5 r, jaf x1 5 (upd (x.1 5) r b)) := by
        have hg : f_X0_give x1 (nI r) b = some (x.1 5 r, jaf x1 5 (upd (x.1 5) r b)) := by rw [give_eq hr, hx5]
        rcases hv with rfl | ⟨e, he, rfl⟩
        · simp [f_X5_define, refR_yes hr, e1, hg]
        · have hne : ¬ nI e = -1 := nI_m1 (by have := hG.1; omega)
          simp [f_X5_define, refR_yes hr, hne, refE_yes hG.1 hG.2.1 he, e1, hg]
      have h6 : f_X6_define m (nI r) b = some (m.1 4 r, m1) := by
        have hj : jas (jis m 0 0) 4 (nI r) b = jaf (jis m 0 0) 4 (upd (m.1 4) r b) := jas_nI (by omega)
        have hg : jag (jis m 0 0) 4 (nI r) = m.1 4 r := jag_nI (by omega)
        rcases hv with rfl | ⟨e, he, rfl⟩
        · simp only [f_X6_define, jl, isR_yes hr, Option.bind_some, j1, cond_false]
          rw [if_neg (by decide), if_pos trivial, hj, hg, g1]
          rfl
        · have hne : ¬ nI e = -1 := nI_m1 (by have := hG.1; omega)
          simp only [f_X6_define, jl, isR_yes hr, Option.bind_some, j1, cond_false]
          rw [if_neg (by decide), if_neg hne, isE_yes hG.1 hm1 he]
          simp only [Option.bind_some]
          rw [if_neg (by decide), hj, hg, g1]
          rfl
      have hrel : Rel (jaf x1 5 (upd (x.1 5) r b)) m1 := by
        refine Rel.cleared (x := jaf x 5 (upd (x.1 5) r b)) (m := jaf (jis m 0 0) 4 (upd (m.1 4) r b)) ⟨n, sz, hG.given hr hv, hT, hM, hP, hC⟩ e2 (fun j q1 q2 q3 => ?_) e4 g2 g3 g4
        show va_up x1.1 5 _ j = va_up x.1 5 _ j
        by_cases hj : j = 5
        · subst hj; rfl
        · rw [va_up_ne _ _ hj, va_up_ne _ _ hj]
          exact e3 j q1 q2 q3
      refine lhw_ok (v := m.1 4 r) (x' := jaf x1 5 (upd (x.1 5) r b)) ?_ h6 ?_ hrel
      · simp [f_L_define, h5, (hG.2.2.2.2 r hr).1]
      · rw [g2]; rfl
    by_cases hb1 : b = -1
    · exact main (Or.inl hb1)
    · by_cases hb : ∃ e, e < n ∧ b = nI e
      · exact main (Or.inr hb)
      · have h5 : f_X5_define x (nI r) b = some (3, 0, x) := by simp [f_X5_define, refR_yes hr, hb1, refE_no hG.1 hG.2.1 hb]
        have h6 : f_X6_define m (nI r) b = some (0, jis (jis m 0 0) 0 1) := by simp [f_X6_define, jl, isR_yes hr, hb1, isE_no hG.1 hm1 hb, f_X6_fail_eq]
        exact lhw_no (c := 1) (by simp [f_L_define, h5]) h6 (by decide) h
  · have h5 : f_X5_define x a b = some (3, 0, x) := by simp [f_X5_define, refR_no ha]
    have h6 : f_X6_define m a b = some (0, jis (jis m 0 0) 0 1) := by simp [f_X6_define, jl, isR_no ha, f_X6_fail_eq]
    exact lhw_no (c := 1) (by simp [f_L_define, h5]) h6 (by decide) h
end L2D
