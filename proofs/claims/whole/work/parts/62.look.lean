/-! parse: a rule by what is known of it; the kinds -/
section L2K
theorem fXr_eq (lk : jS → Int32 → Int32 → Int32 → Option (Int32 × jS)) (st : jS) (a1 a2 a3 : Int32) : f_X3_lookForRule lk st a1 a2 a3 = (f_X3_knownResult st a1 a2).bind fun r1 => if r1.1 = (-4) then cX lk r1.2 a1 a2 a3 r1.1 else some (r1.1, r1.2) := by
  rw [f_X3_lookForRule]
  rfl
def htM (lk : jS → Int32 → Int32 → Int32 → Option (Int32 × jS)) (st : jS) (a1 a2 a3 x3 : Int32) : Option (Int32 × jS) :=
  jl (jis st 7 ((st.2 7) + 1)) fun s160 =>
  bif job x3 410 then none else
  (f_X6_name s160 (jag s160 9 x3) a2).bind fun r162 =>
  f_X6_lookRule_65 lk (fun s174 y169 y170 y171 y172 y173 =>
    bif job y172 410 then none else
    some ((jag s174 7 y172), s174)
    ) jFuel r162 a1 a2 a3 x3 0
theorem fMr_eq (lk : jS → Int32 → Int32 → Int32 → Option (Int32 × jS)) (st : jS) (a1 a2 a3 : Int32) : f_X6_lookRule lk st a1 a2 a3 = bif job a1 10 then none else if (jag st 4 a1) = (-1) then some ((-1), st) else jl ((41 * a1) + a2) fun x3 => bif job x3 410 then none else if (jag st 6 x3) = 0 then f_X6_lookRule_115 lk (fun s19 y14 y15 y16 y17 y18 => cM lk s19 y14 y15 y16 y17) jFuel st a1 a2 a3 x3 0 else (f_X6_isShut st x3 a2).bind fun r94 => if r94.1 = 0 then htM lk r94.2 a1 a2 a3 x3 else f_X6_lookRule_115 lk (fun s19 y14 y15 y16 y17 y18 => cM lk s19 y14 y15 y16 y17) jFuel r94.2 a1 a2 a3 x3 0 := by
  rw [f_X6_lookRule]
  rfl
theorem OutR.ne4 {x m x' m' : jS} {A : Ab} {nn sz pl : Nat} {v w : Int32} (hsz : sz ≤ 40) (h : OutR x m x' m' A nn sz pl v w) : v ≠ -4 := by
  obtain ⟨_, _, _, h4⟩ := h
  rcases h4 with ⟨h5, _⟩ | ⟨_, _, B, s, _, _, h5, h6⟩
  · rw [h5]; decide
  · rw [h5]; exact sI_m4 (by omega)
theorem find_sim {lkx lkm : jS → Int32 → Int32 → Int32 → Option (Int32 × jS)} {x m : jS} {A : Ab} {nn sz r pl e d : Nat} (HL : LkOk lkx lkm nn sz (d + 1)) (h : Sim x m A nn sz) (hpl : Pl A pl) (hps : pl ≤ sz) (hr : r < 10) (hd : A.n ≤ d) (h100 : d ≤ 100) (he : e < nn) (hx5 : x.1 5 r = nI e) : ∃ v w x' m', ((if x.1 23 (10 * pl + r) = -1 then some ((-4 : Int32), x) else (f_X2_askSeed x (x.1 23 (10 * pl + r))).bind fun r10 => some (r10.1, r10.2)).bind fun r1 => if r1.1 = (-4) then cX lkx r1.2 (nI r) (nI pl) (nI d) r1.1 else some (r1.1, r1.2)) = some (v, x') ∧ f_X6_lookRule_115 lkm (fun s19 y14 y15 y16 y17 y18 => cM lkm s19 y14 y15 y16 y17) jFuel m (nI r) (nI pl) (nI d) (nI (41 * r + pl)) 0 = some (w, m') ∧ OutR x m x' m' A nn sz pl v w := by
  have h0 := id h
  obtain ⟨⟨hG, hT, hM, hC⟩, ⟨hW, h4⟩, ⟨hn, hn3, hX, hK⟩, ⟨hN0, hR0⟩, hI⟩ := h
  have hsz := hT.1
  have h101 := hI.1.1
  have hRb : ∀ j, j < A.n → m.1 10 j = nI (A.R j) ∧ A.R j < 1000 := fun j hj => ⟨(hK j hj).1, by have := hI.1.2 j hj; omega⟩
  have hPb : ∀ j, j < A.n → m.1 11 j = nI (A.P j) ∧ A.P j < 1000 := fun j hj => ⟨(hK j hj).2.1, by have := hI.1.2 j hj; omega⟩
  rcases hN0 r pl hr (by omega) with ⟨n1, n2⟩ | ⟨k0, n1, n2, n3, n4⟩
  · obtain ⟨v, w, x', m', g1, g2, g3⟩ := begin_sim (v4 := -4) HL h0 hpl hps hr hd h100 he hx5 n2
    refine ⟨v, w, x', m', ?_, ?_, g3⟩
    · rw [if_pos n1, Option.bind_some, if_pos rfl]
      exact g1
    · refine Eq.trans (mfind_no h101 (show r < 1000 by omega) (show pl < 1000 by omega) hn3 hRb hPb n2 A.n 0 jFuel (by omega) (jFuel_gt (by omega))) ?_
      exact g2
  · obtain ⟨v, x', m', g1, g2, g3⟩ := ask_sim h0 hpl n1 n3
    refine ⟨v, v, x', m', ?_, ?_, g3⟩
    · rw [n4, if_neg (nI_m1 (by omega)), g1, Option.bind_some, Option.bind_some, if_neg (g3.ne4 hsz)]
    · exact mfind_yes h101 (show r < 1000 by omega) (show pl < 1000 by omega) hn3 hRb hPb n1 n2 n3 (fun j hj hq => hI.2.2.1 j k0 hj n1 ⟨hq.1.trans n2.symm, hq.2.trans n3.symm⟩) g2 k0 0 jFuel (by omega) (jFuel_gt (by omega))
theorem rule_sim {lkx lkm : jS → Int32 → Int32 → Int32 → Option (Int32 × jS)} {x m : jS} {A : Ab} {nn sz r pl d : Nat} (HL : LkOk lkx lkm nn sz (d + 1)) (h : Sim x m A nn sz) (hpl : Pl A pl) (hps : pl ≤ sz) (hr : r < 10) (hd : A.n ≤ d) (h100 : d ≤ 100) : ∃ v w x' m', f_X3_lookForRule lkx x (nI r) (nI pl) (nI d) = some (v, x') ∧ f_X6_lookRule lkm m (nI r) (nI pl) (nI d) = some (w, m') ∧ OutR x m x' m' A nn sz pl v w := by
  have h0 := id h
  obtain ⟨⟨hG, hT, hM, hC⟩, ⟨hW, h4⟩, ⟨hn, hn3, hX, hK⟩, ⟨hN0, hR0⟩, hI⟩ := h
  have hsz := hT.1
  have h101 := hI.1.1
  have hnn := hG.1
  have jr : job (nI r) 10 = false := job_nI (by omega) (by omega)
  have jc : job (nI (10 * pl + r)) 410 = false := job_nI (by omega) (by omega)
  have jm : job (nI (41 * r + pl)) 410 = false := job_nI (by omega) (by omega)
  have hRb : ∀ j, j < A.n → m.1 10 j = nI (A.R j) ∧ A.R j < 1000 := fun j hj => ⟨(hK j hj).1, by have := hI.1.2 j hj; omega⟩
  have hPb : ∀ j, j < A.n → m.1 11 j = nI (A.P j) ∧ A.P j < 1000 := fun j hj => ⟨(hK j hj).2.1, by have := hI.1.2 j hj; omega⟩
  obtain ⟨h5, h5b⟩ := hG.2.2.2.2 r hr
  rw [fXr_eq, fMr_eq, jr, cond_false, jag_nI (by omega), ← h5]
  rcases h5b with h5b | ⟨e, he, h5b⟩
  · refine ⟨-1, -1, x, m, ?_, ?_, FX.refl x A.n, FM.refl m, hC, Or.inr ⟨fun h => h, rfl, A, 0, h0, Ext.refl A, sI_0.symm, Or.inl rfl⟩⟩
    · have : f_X3_knownResult x (nI r) (nI pl) = some (-1, x) := by
        rw [f_X3_knownResult, jr, cond_false, jag_nI (by omega), h5b, f_X0_has, if_pos (by decide), Option.bind_some, if_pos rfl]
      rw [this, Option.bind_some, if_neg (show ¬ (-1 : Int32) = -4 by decide)]
    · rw [if_pos h5b]
  · rw [h5b, if_neg (nI_m1 (by omega)), jl_eq, cellM_eq, jm, cond_false, jag_nI (by omega)]
    have hhas : f_X0_has x (nI e) = some (1, x) := by
      rw [f_X0_has, if_neg (nI_pos (by omega)), hG.2.1, if_neg (show ¬ nI e ≥ nI nn from nI_ge he (by omega))]
    have hkr : f_X3_knownResult x (nI r) (nI pl) = (f_X1_holds x (nI (10 * pl + r))).bind fun r5 =>
        if r5.1 = 0 then
          bif job (nI (10 * pl + r)) 410 then none else
          jl (jag r5.2 23 (nI (10 * pl + r))) fun x8 =>
          if x8 = (-1) then
            some ((-4), r5.2)
          else
          (f_X2_askSeed r5.2 x8).bind fun r10 =>
          some (r10.1, r10.2)
        else
        bif job (nI (10 * pl + r)) 410 then none else
        (f_X2_hasOneOf r5.2 (jag r5.2 14 (nI (10 * pl + r))) (nI pl)).bind fun r12 =>
        if r12.1 = 0 then
          jl (jis r12.2 4 ((r12.2.2 4) + 1)) fun s18 =>
          bif job (nI (10 * pl + r)) 410 then none else
          (f_X2_countLook s18 (jag s18 13 (nI (10 * pl + r)))).bind fun r20 =>
          bif job (nI (10 * pl + r)) 410 then none else
          (f_X2_countNames r20 (jag r20 14 (nI (10 * pl + r))) (nI pl)).bind fun r22 =>
          bif job (nI (10 * pl + r)) 410 then none else
          some ((jag r22 12 (nI (10 * pl + r))), r22)
        else
        bif job (nI (10 * pl + r)) 410 then none else
        jl (jag r12.2 23 (nI (10 * pl + r))) fun x15 =>
        if x15 = (-1) then
          some ((-4), r12.2)
        else
        (f_X2_askSeed r12.2 x15).bind fun r17 =>
        some (r17.1, r17.2) := by
      rw [f_X3_knownResult, jr, cond_false, jag_nI (by omega), h5b, hhas, Option.bind_some, if_neg (show ¬ (1 : Int32) = 0 by decide), cell_eq, Option.bind_some]
    obtain ⟨v, w, x', m', u1, u2, u3⟩ := find_sim HL h0 hpl hps hr hd h100 he h5b
    rcases hM r pl hr (by omega) with hu | hk
    · -- nothing is remembered
      refine ⟨v, w, x', m', ?_, ?_, u3⟩
      · have : f_X3_knownResult x (nI r) (nI pl) = if x.1 23 (10 * pl + r) = -1 then some ((-4 : Int32), x) else (f_X2_askSeed x (x.1 23 (10 * pl + r))).bind fun r10 => some (r10.1, r10.2) := by
          rw [hkr, holds_eq (by omega), if_pos hu.2.1, Option.bind_some, if_pos rfl, jc, cond_false, jl_eq, jag_nI (by omega)]
        rw [this]
        exact u1
      · rw [if_pos hu.1]
        exact u2
    · have hkk := id hk
      obtain ⟨k1, k2, k3, k4, k5, w0, k6, k7, k8, k9⟩ := hk
      have hne : ¬ x.1 12 (10 * pl + r) = -3 := by
        rw [k3]
        rcases k9 with k9 | ⟨q, k9, _⟩
        · rw [k9]; decide
        · rw [k9]; exact nI_m3 (by omega)
      have hm6 : ¬ m.1 6 (41 * r + pl) = 0 := by rw [k1]; decide
      obtain ⟨b, s1, s2⟩ := mshut (c := 41 * r + pl) (pl := pl) h101 (by omega) (by omega) hn3 hRb hPb
      have hb : b = true ↔ ¬ (x.1 24 pl &&& x.1 14 (10 * pl + r)) = 0 := by
        rw [s2, tb_and0, k5]
        constructor
        · rintro ⟨i, i1, i2, j, j1, j2, j3⟩ hq
          exact hq i (by omega) ⟨(hR0 pl (by omega) i).mpr ⟨j, j1, j2, j3⟩, i2⟩
        · intro hq
          refine Classical.byContradiction fun hno => hq fun i hi hi2 => ?_
          obtain ⟨j, j1, j2, j3⟩ := (hR0 pl (by omega) i).mp hi2.1
          have := hI.1.2 j j1
          exact hno ⟨i, by omega, hi2.2, j, j1, j2, j3⟩
      have jp : job (nI pl) 41 = false := job_nI (by omega) (by omega)
      rw [if_neg hm6, s1, Option.bind_some]
      cases b with
      | true =>
        have hnz : ¬ (x.1 24 pl &&& x.1 14 (10 * pl + r)) = 0 := hb.mp rfl
        refine ⟨v, w, x', m', ?_, ?_, u3⟩
        · have : f_X3_knownResult x (nI r) (nI pl) = if x.1 23 (10 * pl + r) = -1 then some ((-4 : Int32), x) else (f_X2_askSeed x (x.1 23 (10 * pl + r))).bind fun r10 => some (r10.1, r10.2) := by
            rw [hkr, holds_eq (by omega), if_neg hne, Option.bind_some, if_neg (show ¬ (1 : Int32) = 0 by decide), jc, cond_false, f_X2_hasOneOf, jp, cond_false, jag_nI (by omega), jag_nI (by omega), if_neg hnz, Option.bind_some, if_neg (show ¬ (1 : Int32) = 0 by decide), cond_false, jl_eq, jag_nI (by omega)]
          rw [this]
          exact u1
        · rw [if_neg (show ¬ bI true = 0 by decide)]
          exact u2
      | false =>
        have hz : (x.1 24 pl &&& x.1 14 (10 * pl + r)) = 0 := Classical.byContradiction fun hq => by
          have := hb.mpr hq
          cases this
        obtain ⟨g1, g2, f1, f2, t1, t2, t3, t4, t5⟩ := hit_sim h0 hpl hps hr hkk
        refine ⟨_, _, _, _, ?_, ?_, t5⟩
        · have : f_X3_knownResult x (nI r) (nI pl) = some (x.1 12 (10 * pl + r), jaf (jaf (jis x 4 (x.2 4 + 1)) 20 g1) 21 g2) := by
            rw [hkr, holds_eq (by omega), if_neg hne, Option.bind_some, if_neg (show ¬ (1 : Int32) = 0 by decide), jc, cond_false, f_X2_hasOneOf, jp, cond_false, jag_nI (by omega), jag_nI (by omega), if_pos hz, Option.bind_some, if_pos (show (0 : Int32) = 0 from rfl), jl_eq, cond_false, jag_nI (by omega)]
            show (f_X2_countLook (jis x 4 (x.2 4 + 1)) (x.1 13 (10 * pl + r))).bind _ = _
            rw [t1, Option.bind_some, cond_false, jag_nI (by omega)]
            show (f_X2_countNames (jaf (jis x 4 (x.2 4 + 1)) 20 g1) (x.1 14 (10 * pl + r)) (nI pl)).bind _ = _
            rw [t2, Option.bind_some, cond_false, jag_nI (by omega)]
            rfl
          rw [this, Option.bind_some, if_neg (t5.ne4 hsz)]
        · rw [if_pos (show bI false = 0 by decide), htM, jl_eq, jm, cond_false, jag_nI (by omega)]
          show (f_X6_name (jis m 7 (m.2 7 + 1)) (m.1 9 (41 * r + pl)) (nI pl)).bind _ = _
          rw [t3, Option.bind_some]
          refine Eq.trans (t4 _ _ _ _ _) ?_
          rw [jm, cond_false, jag_nI (by omega)]
          rfl
end L2K
