/-! parse -/
section L2Z
theorem cond_job {α : Type} {i : Int32} {n : Nat} {X : Option α} (h : job i n = false) : (bif job i n then none else X) = X := by rw [h, cond_false]
theorem lookB_sim {lkx lkm : jS → Int32 → Int32 → Int32 → Option (Int32 × jS)} {x m : jS} {A : Ab} {nn sz pl d e : Nat} (HL : LkOk lkx lkm nn sz (d + 1)) (HE : LkEx lkm) (h : Sim x m A nn sz) (hpl : Pl A pl) (hps : pl ≤ sz) (hd : A.n ≤ d) (h100 : d ≤ 100) (he : e < nn) : ∃ v w x' m', f_X3_lookB lkx x (nI e) (nI pl) (nI d) = some (v, x') ∧ f_X6_lookB lkm m (nI e) (nI pl) (nI d) = some (w, m') ∧ Out x m x' m' A nn sz pl v w := by
  obtain ⟨⟨hG, hT, hM, hC⟩, ⟨⟨w, hw5, hw⟩, hfl⟩, hcn, hN, hI⟩ := h
  have hw6 : m.2 6 = nI w := hC.1.symm.trans hw
  have hnn := hG.1
  by_cases hwl : w = 5000
  · subst hwl
    refine ⟨-2, -1, x, jis (jis m 4 1) 5 0, ?_, ?_, FX.refl x A.n, FM.refl m, hC, Or.inl rfl, Or.inl ⟨rfl, rfl⟩⟩
    · rw [f_X3_lookB, hw, if_pos (show nI 5000 ≥ 5000 by decide)]
    · rw [f_X6_lookB, if_pos hfl, hw6, if_pos (show nI 5000 = 5000 by decide), jl_eq, miss_eq (Or.inl rfl), Option.bind_some]
  · have hS : Sim (jis (jis x 3 (nI (w + 1))) 7 0) (jis m 6 (nI (w + 1))) A nn sz := ⟨⟨hG, hT, hM, ⟨rfl, hC.2.1, hC.2.2.1, hC.2.2.2⟩⟩, ⟨⟨w + 1, by omega, rfl⟩, hfl⟩, hcn, hN, hI⟩
    have hFX : FX x (jis (jis x 3 (nI (w + 1))) 7 0) A.n := ⟨⟨rfl, rfl, rfl⟩, ⟨rfl, rfl, rfl, rfl, rfl⟩, ⟨rfl, rfl⟩, fun _ _ => ⟨rfl, rfl, rfl⟩⟩
    have hFM : FM m (jis m 6 (nI (w + 1))) := ⟨⟨rfl, rfl, rfl⟩, rfl, rfl, rfl, rfl, rfl⟩
    have hC1 := hS.1.2.2.2
    have cw1 : ¬ nI w ≥ 5000 := nI_ge (b := 5000) (by omega) (by omega)
    have cw2 : ¬ nI w = 5000 := fun hq => hwl (nI_inj (b := 5000) (by omega) (by omega) hq)
    have cd : nI d ≤ 100 := nI_le (b := 100) (by omega) (by omega)
    obtain ⟨k, k9, hx2, hm1, h3, h4, h5, h6, h7, h8⟩ := hG.2.2.2.1 e he
    have je : job (nI e) 80 = false := job_nI (by omega) (by omega)
    have e3 : jag (jis (jis x 3 (nI (w + 1))) 7 0) 3 (nI e) = x.1 3 e := jag_nI (by omega)
    have e4 : jag (jis (jis x 3 (nI (w + 1))) 7 0) 4 (nI e) = x.1 4 e := jag_nI (by omega)
    have e2 : jag (jis (jis x 3 (nI (w + 1))) 7 0) 2 (nI e) = nI k := (jag_nI (by omega)).trans hx2
    have g2 : jag (jis m 6 (nI (w + 1))) 2 (nI e) = m.1 2 e := jag_nI (by omega)
    have g1 : jag (jis m 6 (nI (w + 1))) 1 (nI e) = nI k := (jag_nI (by omega)).trans hm1
    have g3 : jag (jis m 6 (nI (w + 1))) 3 (nI e) = m.1 3 e := jag_nI (by omega)
    have eX : f_X3_lookB lkx x (nI e) (nI pl) (nI d) = (if nI k = 0 then some (nI pl, (jis (jis x 3 (nI (w + 1))) 7 0)) else if nI k = 1 then some (nI pl, jis (jis (jis x 3 (nI (w + 1))) 7 0) 7 1) else if nI k = 2 then (f_X3_lookForRange (jis (jis x 3 (nI (w + 1))) 7 0) (x.1 3 e) (x.1 4 e) (nI pl)).bind fun r15 => some (r15.1, r15.2) else if nI k = 3 then (f_X3_lookForRule lkx (jis (jis x 3 (nI (w + 1))) 7 0) (x.1 3 e) (nI pl) (nI d)).bind fun r15 => some (r15.1, r15.2) else if nI k = 4 then (f_X3_lookForSequence lkx (jis (jis x 3 (nI (w + 1))) 7 0) (x.1 3 e) (x.1 4 e) (nI pl) (nI d)).bind fun r15 => some (r15.1, r15.2) else if nI k = 5 then (f_X3_lookForChoice lkx (jis (jis x 3 (nI (w + 1))) 7 0) (x.1 3 e) (x.1 4 e) (nI pl) (nI d)).bind fun r15 => some (r15.1, r15.2) else if nI k = 6 then (f_X3_lookForStar lkx (jis (jis x 3 (nI (w + 1))) 7 0) (x.1 3 e) (nI pl) (nI d)).bind fun r15 => some (r15.1, r15.2) else if nI k = 7 then (f_X3_lookForOptional lkx (jis (jis x 3 (nI (w + 1))) 7 0) (x.1 3 e) (nI pl) (nI d)).bind fun r15 => some (r15.1, r15.2) else if nI k = 8 then (f_X3_lookForAnd lkx (jis (jis x 3 (nI (w + 1))) 7 0) (x.1 3 e) (nI pl) (nI d)).bind fun r15 => some (r15.1, r15.2) else (f_X3_lookForNot lkx (jis (jis x 3 (nI (w + 1))) 7 0) (x.1 3 e) (nI pl) (nI d)).bind fun r15 => some (r15.1, r15.2)) := by
      rw [f_X3_lookB, hw, if_neg cw1, if_pos cd, nI_1, jl_eq, jl_eq, cond_job je, jl_eq, e3, cond_job je, jl_eq, e4, cond_job je, jl_eq, e2, jl_eq]
    have eM : f_X6_lookB lkm m (nI e) (nI pl) (nI d) = (if nI k = 0 then some (nI pl, jis (jis m 6 (nI (w + 1))) 5 0) else if nI k = 1 then some (nI pl, jis (jis m 6 (nI (w + 1))) 5 1) else if nI k = 2 then (f_X6_lookAt (jis m 6 (nI (w + 1))) (m.1 2 e) (m.1 3 e) (nI pl)).bind fun r19 => some (r19.1, r19.2) else if nI k = 3 then (f_X6_lookRule lkm (jis m 6 (nI (w + 1))) (m.1 2 e) (nI pl) (nI d)).bind fun r21 => jl (jis r21.2 5 0) fun s22 => some (r21.1, s22) else if nI k = 4 then seqM lkm (jis m 6 (nI (w + 1))) (nI e) (m.1 2 e) (nI pl) (nI d) else if nI k = 5 then choM lkm (jis m 6 (nI (w + 1))) (nI e) (m.1 2 e) (nI pl) (nI d) else if nI k = 6 then (f_X6_lookAgain lkm (jis m 6 (nI (w + 1))) (m.1 2 e) (nI pl) (nI d)).bind fun r45 => some (r45.1, r45.2) else if nI k = 7 then optM lkm (jis m 6 (nI (w + 1))) (m.1 2 e) (nI pl) (nI d) else prdM lkm (jis m 6 (nI (w + 1))) (nI e) (m.1 2 e) (nI pl) (nI d)) := by
      rw [f_X6_lookB, if_pos hfl, hw6, if_neg cw2, if_pos cd, nI_1, jl_eq, cond_job je, jl_eq, g2, cond_job je, jl_eq, g1, succ_eq, Option.bind_some, jl_eq, cond_job je, g3]
      rfl
    rw [eX, eM]
    have hk10 : k = 0 ∨ k = 1 ∨ k = 2 ∨ k = 3 ∨ k = 4 ∨ k = 5 ∨ k = 6 ∨ k = 7 ∨ k = 8 ∨ k = 9 := by omega
    rcases hk10 with rfl | rfl | rfl | rfl | rfl | rfl | rfl | rfl | rfl | rfl
    · have hg : Good (jis (jis x 3 (nI (w + 1))) 7 0) (jis m 6 (nI (w + 1))) A nn sz pl (nI pl) (nI pl) := Good.here hpl hps hS (Ext.refl A)
      exact ⟨nI pl, nI pl, jis (jis x 3 (nI (w + 1))) 7 0, jis (jis m 6 (nI (w + 1))) 5 0, if_pos (by decide), if_pos (by decide), hFX, hFM, hC1, Or.inl rfl, Or.inr ⟨rfl, hg⟩⟩
    · have hg : Good (jis (jis x 3 (nI (w + 1))) 7 0) (jis m 6 (nI (w + 1))) A nn sz pl (nI pl) (nI pl) := Good.here hpl hps hS (Ext.refl A)
      rw [if_neg (show ¬ nI 1 = 0 by decide), if_pos (show nI 1 = 1 by decide), if_neg (show ¬ nI 1 = 0 by decide), if_pos (show nI 1 = 1 by decide)]
      exact ⟨nI pl, nI pl, jis (jis (jis x 3 (nI (w + 1))) 7 0) 7 1, jis (jis m 6 (nI (w + 1))) 5 1, rfl, rfl, hFX, hFM, hC1, Or.inr rfl, Or.inr ⟨rfl, hg⟩⟩
    · obtain ⟨v, x', m', q1, q2, q3⟩ := range_sim (lo := m.1 2 e) (hi := m.1 3 e) hS hpl hps rfl (h8 rfl)
      rw [if_neg (show ¬ nI 2 = 0 by decide), if_neg (show ¬ nI 2 = 1 by decide), if_pos (show nI 2 = 2 by decide), if_neg (show ¬ nI 2 = 0 by decide), if_neg (show ¬ nI 2 = 1 by decide), if_pos (show nI 2 = 2 by decide), h3 (by omega), h4 (Or.inl rfl), q1, q2, Option.bind_some, Option.bind_some]
      exact ⟨v, v, x', m', rfl, rfl, Out.trans hFX hFM (Ext.refl A) (Nat.le_refl _) q3⟩
    · obtain ⟨r, hr, hr2⟩ := h5 rfl
      obtain ⟨v, u, x', m', q1, q2, o1, o2, o3, o4⟩ := rule_sim HL hS hpl hps hr hd h100
      rw [if_neg (show ¬ nI 3 = 0 by decide), if_neg (show ¬ nI 3 = 1 by decide), if_neg (show ¬ nI 3 = 2 by decide), if_pos (show nI 3 = 3 by decide), if_neg (show ¬ nI 3 = 0 by decide), if_neg (show ¬ nI 3 = 1 by decide), if_neg (show ¬ nI 3 = 2 by decide), if_pos (show nI 3 = 3 by decide), h3 (by omega), hr2, q1, q2, Option.bind_some, Option.bind_some, jl_eq]
      refine ⟨v, u, x', jis m' 5 0, rfl, rfl, Out.trans hFX hFM (Ext.refl A) (Nat.le_refl _) ?_⟩
      rcases o4 with ⟨hv, hf2⟩ | ⟨o5, o6⟩
      · exact ⟨o1, o2, o3, Or.inl rfl, Or.inl ⟨hv, hf2⟩⟩
      · have hg : Good x' m' A nn sz pl v u := o6
        exact ⟨o1, o2, o3, Or.inl rfl, Or.inr ⟨o5 rfl, hg⟩⟩
    · obtain ⟨a, b, ha, hb, ea, eb⟩ := h6 (Or.inl rfl)
      obtain ⟨v, u, x', m', q1, q2, q3⟩ := seq_sim (e := e) HL HE hS hpl hps hd (by omega) (show a < nn by omega) (show b < nn by omega) eb
      rw [if_neg (show ¬ nI 4 = 0 by decide), if_neg (show ¬ nI 4 = 1 by decide), if_neg (show ¬ nI 4 = 2 by decide), if_neg (show ¬ nI 4 = 3 by decide), if_pos (show nI 4 = 4 by decide), if_neg (show ¬ nI 4 = 0 by decide), if_neg (show ¬ nI 4 = 1 by decide), if_neg (show ¬ nI 4 = 2 by decide), if_neg (show ¬ nI 4 = 3 by decide), if_pos (show nI 4 = 4 by decide), h3 (by omega), h4 (Or.inr (Or.inl rfl)), ea, eb, q1, q2, Option.bind_some]
      exact ⟨v, u, x', m', rfl, rfl, Out.trans hFX hFM (Ext.refl A) (Nat.le_refl _) q3⟩
    · obtain ⟨a, b, ha, hb, ea, eb⟩ := h6 (Or.inr rfl)
      obtain ⟨v, u, x', m', q1, q2, q3⟩ := cho_sim (e := e) HL HE hS hpl hps hd (by omega) (show a < nn by omega) (show b < nn by omega) eb
      rw [if_neg (show ¬ nI 5 = 0 by decide), if_neg (show ¬ nI 5 = 1 by decide), if_neg (show ¬ nI 5 = 2 by decide), if_neg (show ¬ nI 5 = 3 by decide), if_neg (show ¬ nI 5 = 4 by decide), if_pos (show nI 5 = 5 by decide), if_neg (show ¬ nI 5 = 0 by decide), if_neg (show ¬ nI 5 = 1 by decide), if_neg (show ¬ nI 5 = 2 by decide), if_neg (show ¬ nI 5 = 3 by decide), if_neg (show ¬ nI 5 = 4 by decide), if_pos (show nI 5 = 5 by decide), h3 (by omega), h4 (Or.inr (Or.inr rfl)), ea, eb, q1, q2, Option.bind_some]
      exact ⟨v, u, x', m', rfl, rfl, Out.trans hFX hFM (Ext.refl A) (Nat.le_refl _) q3⟩
    · obtain ⟨a, ha, ea⟩ := h7 (by omega)
      obtain ⟨v, u, x', m', q1, q2, q3⟩ := star_sim HL hS hpl hps hd (show a < nn by omega)
      rw [if_neg (show ¬ nI 6 = 0 by decide), if_neg (show ¬ nI 6 = 1 by decide), if_neg (show ¬ nI 6 = 2 by decide), if_neg (show ¬ nI 6 = 3 by decide), if_neg (show ¬ nI 6 = 4 by decide), if_neg (show ¬ nI 6 = 5 by decide), if_pos (show nI 6 = 6 by decide), if_neg (show ¬ nI 6 = 0 by decide), if_neg (show ¬ nI 6 = 1 by decide), if_neg (show ¬ nI 6 = 2 by decide), if_neg (show ¬ nI 6 = 3 by decide), if_neg (show ¬ nI 6 = 4 by decide), if_neg (show ¬ nI 6 = 5 by decide), if_pos (show nI 6 = 6 by decide), h3 (by omega), ea, q1, q2, Option.bind_some, Option.bind_some]
      exact ⟨v, u, x', m', rfl, rfl, Out.trans hFX hFM (Ext.refl A) (Nat.le_refl _) q3⟩
    · obtain ⟨a, ha, ea⟩ := h7 (by omega)
      obtain ⟨v, u, x', m', q1, q2, q3⟩ := opt_sim HL hS hpl hps hd (show a < nn by omega)
      rw [if_neg (show ¬ nI 7 = 0 by decide), if_neg (show ¬ nI 7 = 1 by decide), if_neg (show ¬ nI 7 = 2 by decide), if_neg (show ¬ nI 7 = 3 by decide), if_neg (show ¬ nI 7 = 4 by decide), if_neg (show ¬ nI 7 = 5 by decide), if_neg (show ¬ nI 7 = 6 by decide), if_pos (show nI 7 = 7 by decide), if_neg (show ¬ nI 7 = 0 by decide), if_neg (show ¬ nI 7 = 1 by decide), if_neg (show ¬ nI 7 = 2 by decide), if_neg (show ¬ nI 7 = 3 by decide), if_neg (show ¬ nI 7 = 4 by decide), if_neg (show ¬ nI 7 = 5 by decide), if_neg (show ¬ nI 7 = 6 by decide), if_pos (show nI 7 = 7 by decide), h3 (by omega), ea, q1, q2, Option.bind_some]
      exact ⟨v, u, x', m', rfl, rfl, Out.trans hFX hFM (Ext.refl A) (Nat.le_refl _) q3⟩
    · obtain ⟨a, ha, ea⟩ := h7 (by omega)
      obtain ⟨v, u, x', m', q1, q2, q3⟩ := and_sim (e := e) HL hS hpl hps hd (show a < nn by omega) (by omega) hm1
      rw [if_neg (show ¬ nI 8 = 0 by decide), if_neg (show ¬ nI 8 = 1 by decide), if_neg (show ¬ nI 8 = 2 by decide), if_neg (show ¬ nI 8 = 3 by decide), if_neg (show ¬ nI 8 = 4 by decide), if_neg (show ¬ nI 8 = 5 by decide), if_neg (show ¬ nI 8 = 6 by decide), if_neg (show ¬ nI 8 = 7 by decide), if_pos (show nI 8 = 8 by decide), if_neg (show ¬ nI 8 = 0 by decide), if_neg (show ¬ nI 8 = 1 by decide), if_neg (show ¬ nI 8 = 2 by decide), if_neg (show ¬ nI 8 = 3 by decide), if_neg (show ¬ nI 8 = 4 by decide), if_neg (show ¬ nI 8 = 5 by decide), if_neg (show ¬ nI 8 = 6 by decide), if_neg (show ¬ nI 8 = 7 by decide), h3 (by omega), ea, q1, q2, Option.bind_some]
      exact ⟨v, u, x', m', rfl, rfl, Out.trans hFX hFM (Ext.refl A) (Nat.le_refl _) q3⟩
    · obtain ⟨a, ha, ea⟩ := h7 (by omega)
      obtain ⟨v, u, x', m', q1, q2, q3⟩ := not_sim (e := e) HL hS hpl hps hd (show a < nn by omega) (by omega) hm1
      rw [if_neg (show ¬ nI 9 = 0 by decide), if_neg (show ¬ nI 9 = 1 by decide), if_neg (show ¬ nI 9 = 2 by decide), if_neg (show ¬ nI 9 = 3 by decide), if_neg (show ¬ nI 9 = 4 by decide), if_neg (show ¬ nI 9 = 5 by decide), if_neg (show ¬ nI 9 = 6 by decide), if_neg (show ¬ nI 9 = 7 by decide), if_neg (show ¬ nI 9 = 8 by decide), if_neg (show ¬ nI 9 = 0 by decide), if_neg (show ¬ nI 9 = 1 by decide), if_neg (show ¬ nI 9 = 2 by decide), if_neg (show ¬ nI 9 = 3 by decide), if_neg (show ¬ nI 9 = 4 by decide), if_neg (show ¬ nI 9 = 5 by decide), if_neg (show ¬ nI 9 = 6 by decide), if_neg (show ¬ nI 9 = 7 by decide), h3 (by omega), ea, q1, q2, Option.bind_some]
      exact ⟨v, u, x', m', rfl, rfl, Out.trans hFX hFM (Ext.refl A) (Nat.le_refl _) q3⟩
theorem look_ex {F : Nat} {m : jS} {a b c : Int32} (h : m.2 4 = 1) : f_X6_look (F + 1) m a b c = some (-1, jis (jis m 4 1) 5 0) := by
  rw [f_X6_look, f_X6_lookB, if_neg (by rw [h]; decide), jl_eq, miss_eq (Or.inl rfl), Option.bind_some]
theorem look_sim (nn sz : Nat) : ∀ (F d : Nat), F + d = 103 → d ≤ 101 → LkOk (f_X3_look F) (f_X6_look F) nn sz d := by
  intro F
  induction F with
  | zero => intro d hF hd; omega
  | succ F ih =>
    intro d hF hd x m A e pl h hpl hps hAd he
    by_cases h100 : d ≤ 100
    · obtain ⟨F, rfl⟩ : ∃ z, F = z + 1 := ⟨F - 1, by omega⟩
      rw [f_X3_look, f_X6_look]
      exact lookB_sim (ih (d + 1) (by omega) (by omega)) (fun m a b c hq => look_ex hq) h hpl hps hAd h100 he
    · obtain ⟨⟨hG, hT, hM, hC⟩, ⟨⟨w, hw5, hw⟩, hfl⟩, hcn, hN, hI⟩ := h
      have hd2 : ¬ nI d ≤ 100 := nI_ge (a := 100) (by omega) (by omega)
      refine ⟨-2, -1, x, jis (jis m 4 1) 5 0, ?_, ?_, FX.refl x A.n, FM.refl m, hC, Or.inl rfl, Or.inl ⟨rfl, rfl⟩⟩
      · rw [f_X3_look, f_X3_lookB]
        by_cases hq : x.2 3 ≥ 5000
        · rw [if_pos hq]
        · rw [if_neg hq, if_neg hd2]
      · rw [f_X6_look, f_X6_lookB, if_pos hfl]
        by_cases hq : m.2 6 = 5000
        · rw [if_pos hq, jl_eq, miss_eq (Or.inl rfl), Option.bind_some]
        · rw [if_neg hq, if_neg hd2, jl_eq, miss_eq (Or.inl rfl), Option.bind_some]
def A0 : Ab := mkA 0 (fun _ => 0) (fun _ => 0) (fun _ => 0) (fun _ => 0) (fun _ => 0) (fun _ => 0) (fun _ => 0) (fun _ => false) (fun _ => 0) (fun _ => 0)
theorem parse_ok {x m : jS} {n sz r p : Nat} (hG : RG x m n) (hT : RT x m sz) (hM : RMe x m sz) (hP : RP x) (hr : r < 10) (hp : p ≤ sz) : ∃ v x' m', f_X3_runT x (nI r) (nI p) = some (v, x') ∧ f_X6_parseT m (nI r) (nI p) = some (v, m') ∧ m'.2 0 = 0 ∧ Rel x' m' := by
  have hS : Sim (jis (jis (jis (jis x 3 0) 4 0) 5 0) 6 (-1)) (jis (jis (jis (jis (jis (jis (jis m 0 0) 6 0) 7 0) 8 0) 9 (-1)) 4 0) 3 0) A0 n sz := by
    refine ⟨⟨hG, hT, hM, ⟨rfl, rfl, rfl, rfl⟩⟩, ⟨⟨0, by omega, rfl⟩, rfl⟩, ⟨hP.1, rfl, fun k hk => absurd hk (Nat.not_lt_zero k), fun k hk => absurd hk (Nat.not_lt_zero k)⟩, ⟨fun r' p' hr' hp' => Or.inl ⟨hP.2.1 _ (by omega), fun k hk => absurd hk (Nat.not_lt_zero k)⟩, fun p' hp' i => ?_⟩, ⟨⟨Nat.zero_le _, fun k hk => absurd hk (Nat.not_lt_zero k)⟩, fun j k _ hk => absurd hk (Nat.not_lt_zero k), fun j k _ hk => absurd hk (Nat.not_lt_zero k), fun k hk => absurd hk (Nat.not_lt_zero k), fun k hk => absurd hk (Nat.not_lt_zero k), fun k hk => absurd hk (Nat.not_lt_zero k)⟩⟩
    show tb (x.1 24 p') i = true ↔ _
    rw [hP.2.2 p' hp', tb_0]
    exact ⟨fun hq => (by cases hq), fun ⟨k, hk, _⟩ => absurd hk (Nat.not_lt_zero k)⟩
  obtain ⟨v, w, x', m', q1, q2, o1, o2, o3, o4⟩ := rule_sim (d := 0) (look_sim n sz 102 1 rfl (by omega)) hS (fun k hk => absurd hk (Nat.not_lt_zero k)) hp hr (Nat.le_refl _) (Nat.zero_le _)
  have hfl0 : m'.2 0 = 0 := o2.1.1
  have hG' := hG.fr (x := jis (jis (jis (jis x 3 0) 4 0) 5 0) 6 (-1)) (m := jis (jis (jis (jis (jis (jis (jis m 0 0) 6 0) 7 0) 8 0) 9 (-1)) 4 0) 3 0) o1 o2
  have hT' := hT.fr (x := jis (jis (jis (jis x 3 0) 4 0) 5 0) 6 (-1)) (m := jis (jis (jis (jis (jis (jis (jis m 0 0) 6 0) 7 0) 8 0) 9 (-1)) 4 0) 3 0) o1 o2
  have hP' : RP x' := by
    refine ⟨o1.1.2.2.trans hP.1, fun c hc => ?_, fun q hq => ?_⟩
    · rw [o1.2.2.1.1]; exact hP.2.1 c hc
    · rw [o1.2.2.1.2]; exact hP.2.2 q hq
  have eX : f_X3_runT x (nI r) (nI p) = if v = (-2) then (f_X1_clear x').bind fun r7 => some (v, r7) else some (v, x') := by
    have q1' : f_X3_lookForRule (f_X3_look 102) (jis (jis (jis (jis x 3 0) 4 0) 5 0) 6 (-1)) (nI r) (nI p) 0 = some (v, x') := q1
    rw [f_X3_runT, f_X3_run, jl_eq, jl_eq, jl_eq, jl_eq, q1', Option.bind_some]
  have eM : f_X6_parseT m (nI r) (nI p) = if (m'.2 4) = 0 then some (w, m') else (f_X6_forgetAll m').bind fun r15 => some ((-2), r15.2) := by
    rw [f_X6_parseT, f_X6_parse, jl_eq, isR_yes hr, Option.bind_some, if_neg (show ¬ (1 : Int32) = 0 by decide), isP_yes (m := jis m 0 0) hT.1 hT.2.2.1 hp, Option.bind_some, if_neg (show ¬ (1 : Int32) = 0 by decide), jl_eq, jl_eq, jl_eq, jl_eq, jl_eq, jl_eq]
    have q2' : f_X6_lookRule (f_X6_look 102) (jis (jis (jis (jis (jis (jis (jis m 0 0) 6 0) 7 0) 8 0) 9 (-1)) 4 0) 3 0) (nI r) (nI p) 0 = some (w, m') := q2
    show (f_X6_lookRule (f_X6_look 102) (jis (jis (jis (jis (jis (jis (jis m 0 0) 6 0) 7 0) 8 0) 9 (-1)) 4 0) 3 0) (nI r) (nI p) 0).bind _ = _
    rw [q2', Option.bind_some]
  rcases o4 with ⟨hv, hfl⟩ | ⟨_, o5, B, s, c1, c2, c3, c4⟩
  · subst hv
    obtain ⟨x2, a1, a2, a3, a4⟩ := clear_eq x'
    obtain ⟨m2, b1, b2, b3, b4⟩ := forgetAll_eq m'
    refine ⟨-2, x2, m2, ?_, ?_, by rw [b2]; exact hfl0, ?_⟩
    · rw [eX, if_pos rfl, a1, Option.bind_some]
    · rw [eM, if_neg (by rw [hfl]; decide), b1, Option.bind_some]
    · have x2' := a3 2 (by decide) (by decide) (by decide)
      have x3' := a3 3 (by decide) (by decide) (by decide)
      have x4' := a3 4 (by decide) (by decide) (by decide)
      have x5' := a3 5 (by decide) (by decide) (by decide)
      have x10' := a3 10 (by decide) (by decide) (by decide)
      have x23' := a3 23 (by decide) (by decide) (by decide)
      have x24' := a3 24 (by decide) (by decide) (by decide)
      refine ⟨n, sz, ?_, ?_, fun r' p' hr' hp' => Or.inl ⟨b4 _ (by omega), (a4 _ (by omega)).1, (a4 _ (by omega)).2⟩, ?_, ?_⟩
      · unfold RG RE at hG' ⊢
        rw [a2, b2, x2', x3', x4', x5', b3 1 (by decide), b3 2 (by decide), b3 3 (by decide), b3 4 (by decide)]
        exact hG'
      · unfold RT at hT' ⊢
        rw [a2, b2, x10', b3 5 (by decide)]
        exact hT'
      · unfold RP at hP' ⊢
        rw [a2, x23', x24']
        exact hP'
      · unfold RC at o3 ⊢
        rw [a2, b2]
        exact o3
  · subst o5
    have hs : ¬ v = -2 := by
      rw [c3]
      exact sI_m2 (by have := hT.1; omega)
    refine ⟨v, x', m', ?_, ?_, hfl0, ⟨n, sz, hG', hT', c1.1.2.2.1, hP', o3⟩⟩
    · rw [eX, if_neg hs]
    · rw [eM, if_pos c1.2.1.2]
theorem lh_parse : LH_parse Rel := by
  intro x m out a1 a2 h
  obtain ⟨n, sz, hG, hT, hM, hP, hC⟩ := id h
  have hm2 : (jis m 0 0).2 2 = nI sz := hT.2.2.1
  by_cases ha : ∃ r, r < 10 ∧ a1 = nI r
  · obtain ⟨r, hr, rfl⟩ := ha
    by_cases hb : ∃ p, p ≤ sz ∧ a2 = nI p
    · obtain ⟨p, hp, rfl⟩ := hb
      obtain ⟨v, x', m', q1, q2, q3, q4⟩ := parse_ok hG hT hM hP hr hp
      have h5 : f_X5_parse x (nI r) (nI p) = some (0, v, x') := by
        rw [f_X5_parse, refR_yes hr, Option.bind_some, if_neg (fun hq => hq rfl), refP_yes hT.1 hT.2.1 hp, Option.bind_some, if_neg (fun hq => hq rfl), q1, Option.bind_some]
      refine lhw_ok (v := v) (x' := x') ?_ q2 q3 q4
      show f_L_parse (x, out) (nI r) (nI p) = _
      rw [f_L_parse, h5, Option.bind_some, if_pos rfl]
    · have h5 : f_X5_parse x (nI r) a2 = some (3, 0, x) := by
        rw [f_X5_parse, refR_yes hr, Option.bind_some, if_neg (fun hq => hq rfl), refP_no hT.1 hT.2.1 hb, Option.bind_some, if_pos (show ¬ (3 : Nat) = 0 by decide)]
      have h6 : f_X6_parseT m (nI r) a2 = some (0, jis (jis m 0 0) 0 1) := by
        rw [f_X6_parseT, f_X6_parse, jl_eq, isR_yes hr, Option.bind_some, if_neg (show ¬ (1 : Int32) = 0 by decide), isP_no (m := jis m 0 0) hT.1 hT.2.2.1 hb, Option.bind_some, if_pos (show (0 : Int32) = 0 from rfl), f_X6_fail_eq, Option.bind_some]
      refine lhw_no (c := 1) ?_ h6 (by decide) h
      show f_L_parse (x, out) (nI r) a2 = _
      rw [f_L_parse, h5, Option.bind_some, if_neg (show ¬ (3 : Nat) = 0 by decide), if_pos rfl]
  · have h5 : f_X5_parse x a1 a2 = some (3, 0, x) := by
      rw [f_X5_parse, refR_no ha, Option.bind_some, if_pos (by decide)]
    have h6 : f_X6_parseT m a1 a2 = some (0, jis (jis m 0 0) 0 1) := by
      rw [f_X6_parseT, f_X6_parse, jl_eq, isR_no ha, Option.bind_some, if_pos (show (0 : Int32) = 0 from rfl), f_X6_fail_eq, Option.bind_some]
    refine lhw_no (c := 1) ?_ h6 (by decide) h
    show f_L_parse (x, out) a1 a2 = _
    rw [f_L_parse, h5, Option.bind_some, if_neg (show ¬ (3 : Nat) = 0 by decide), if_pos rfl]
end L2Z
