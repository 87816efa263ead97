/-! parse: a range, a remembered result, a seed -/
section L2T
theorem RG.fr {x y m w : jS} {n nn : Nat} (h : RG x m nn) (a : FX x y n) (b : FM m w) : RG y w nn := by
  obtain ⟨⟨a1, a2, a3⟩, ⟨a4, a5, a6, a7, a8⟩, ⟨a9, a10⟩, a11⟩ := a
  obtain ⟨⟨b1, b2, b3⟩, b4, b5, b6, b7, b8⟩ := b
  unfold RG RE at h ⊢
  rw [a1, a4, a5, a6, a7, b2, b4, b5, b6, b7]
  exact h
theorem RT.fr {x y m w : jS} {n sz : Nat} (h : RT x m sz) (a : FX x y n) (b : FM m w) : RT y w sz := by
  obtain ⟨⟨a1, a2, a3⟩, ⟨a4, a5, a6, a7, a8⟩, ⟨a9, a10⟩, a11⟩ := a
  obtain ⟨⟨b1, b2, b3⟩, b4, b5, b6, b7, b8⟩ := b
  unfold RT at h ⊢
  rw [a2, a8, b3, b8]
  exact h
theorem NB.fr {x y : jS} {A B : Ab} {n : Nat} (h : NB x A) (a : FX x y n) (e : Ext A B) : NB y B := by
  intro r p hr hp
  rw [a.2.2.1.1, e.1]
  rcases h r p hr hp with ⟨h1, h2⟩ | ⟨k, h1, h2, h3, h4⟩
  · refine Or.inl ⟨h1, fun k hk => ?_⟩
    rw [(e.2 k hk).1, (e.2 k hk).2.1]
    exact h2 k hk
  · refine Or.inr ⟨k, h1, ?_⟩
    rw [(e.2 k h1).1, (e.2 k h1).2.1]
    exact ⟨h2, h3, h4⟩
theorem RA.fr {x y : jS} {A B : Ab} {n : Nat} (h : RA x A) (a : FX x y n) (e : Ext A B) : RA y B := by
  intro p hp i
  rw [a.2.2.1.2, e.1, h p hp i]
  constructor
  · rintro ⟨k, h1, h2, h3⟩
    exact ⟨k, h1, (e.2 k h1).1.trans h2, (e.2 k h1).2.1.trans h3⟩
  · rintro ⟨k, h1, h2, h3⟩
    exact ⟨k, h1, (e.2 k h1).1.symm.trans h2, (e.2 k h1).2.1.symm.trans h3⟩
theorem Sim.look {x m : jS} {A : Ab} {nn sz w : Nat} {f g : Nat → Int32} (h : Sim x m A nn sz) (hw : w ≤ sz + 1) (hg : ∀ k, k < A.n → g k = nI (if k + 1 = A.n then max (A.W k) w else A.W k)) (hf : ∀ k, k < A.n → f k = nI (max (A.L k) w)) : Sim (jaf x 20 g) (jaf m 15 f) (A.look w) nn sz := by
  obtain ⟨hE, hW, ⟨h1, h2, h3, h4⟩, hN, hI⟩ := h
  refine ⟨hE, hW, ⟨h1, h2, fun k hk => ?_, fun k hk => ?_⟩, hN, hI.look hw⟩
  · obtain ⟨a1, a2, a3, a4, a5, a6, a7⟩ := h3 k hk
    exact ⟨a1, a2, a3, a4, hg k hk, a6, a7⟩
  · obtain ⟨a1, a2, a3, a4, a5, a6, a7⟩ := h4 k hk
    exact ⟨a1, a2, a3, a4, a5, hf k hk, a7⟩
theorem Ext.look (A : Ab) (w : Nat) : Ext A (A.look w) := ⟨rfl, fun k _ => ⟨rfl, rfl, rfl, fun h => ⟨h, Nat.le_max_left _ _⟩⟩⟩
theorem Pl.look {A : Ab} {w pl : Nat} (h : Pl A pl) {q : Nat} (hq : q ≤ w) (hq2 : pl ≤ q) : Pl (A.look w) q := fun k hk => ⟨Nat.le_trans (h k hk).1 hq2, fun _ => Nat.le_trans hq (Nat.le_max_right _ _)⟩
theorem Sim.names {x m : jS} {A : Ab} {nn sz pl : Nat} {y : Int32} {f g : Nat → Int32} (h : Sim x m A nn sz) (hp : ∀ k, k < A.n → A.P k ≤ pl) (hg : ∀ k, k < A.n → g k = if k + 1 = A.n ∧ A.P k = pl then A.Y k ||| y else A.Y k) (hf : ∀ k, k < A.n → f k = if A.P k = pl then A.V k ||| y else A.V k) : Sim (jaf x 21 g) (jaf m 16 f) (A.names y pl) nn sz := by
  obtain ⟨hE, hW, ⟨h1, h2, h3, h4⟩, hN, hI⟩ := h
  refine ⟨hE, hW, ⟨h1, h2, fun k hk => ?_, fun k hk => ?_⟩, hN, hI.names hp⟩
  · obtain ⟨a1, a2, a3, a4, a5, a6, a7⟩ := h3 k hk
    exact ⟨a1, a2, a3, a4, a5, hg k hk, a7⟩
  · obtain ⟨a1, a2, a3, a4, a5, a6, a7⟩ := h4 k hk
    exact ⟨a1, a2, a3, a4, a5, a6, hf k hk⟩
theorem Ext.names (A : Ab) (y : Int32) (pl : Nat) : Ext A (A.names y pl) := ⟨rfl, fun k _ => ⟨rfl, rfl, rfl, fun h => ⟨h, Nat.le_refl _⟩⟩⟩
theorem Sim.ask {x m : jS} {A : Ab} {nn sz k0 : Nat} {f g : Nat → Int32} (h : Sim x m A nn sz) (hk0 : k0 < A.n) (hg : ∀ k, k < A.n → g k = nI (if k + 1 = A.n then min (A.E k) k0 else A.E k)) (hf1 : ∀ k, k0 < k → k < A.n → f k = 1) (hf2 : ∀ k, k ≤ k0 → f k = m.1 14 k) : Sim (jaf (jaf x 19 (upd (x.1 19) k0 1)) 22 g) (jaf (jaf m 13 (upd (m.1 13) k0 1)) 14 f) (A.ask k0) nn sz := by
  obtain ⟨hE, hW, ⟨h1, h2, h3, h4⟩, hN, hI⟩ := h
  refine ⟨hE, hW, ⟨h1, h2, fun k hk => ?_, fun k hk => ?_⟩, hN, hI.ask hk0⟩
  · obtain ⟨a1, a2, a3, a4, a5, a6, a7⟩ := h3 k hk
    refine ⟨a1, a2, a3, ?_, a5, a6, hg k hk⟩
    show (if k = k0 then 1 else x.1 19 k) = if k = k0 then 1 else A.Q k
    rw [a4]
  · obtain ⟨a1, a2, a3, a4, a5, a6, a7⟩ := h4 k hk
    refine ⟨a1, a2, a3, ?_, ?_, a6, a7⟩
    · show (if k = k0 then 1 else m.1 13 k) = if k = k0 then 1 else A.Q k
      rw [a4]
    · show f k = bI (A.Z k || decide (k0 < k))
      by_cases e : k0 < k
      · rw [hf1 k e hk, decide_eq_true e, Bool.or_true]; rfl
      · rw [hf2 k (by omega), a5, decide_eq_false e, Bool.or_false]
theorem Ext.ask (A : Ab) (k0 : Nat) : Ext A (A.ask k0) := ⟨rfl, fun k _ => ⟨rfl, rfl, rfl, fun h => ⟨by
  have h2 : (A.Z k || decide (k0 < k)) = false := h
  rw [Bool.or_eq_false_iff] at h2
  exact h2.1, Nat.le_refl _⟩⟩⟩
theorem farI {pl : Nat} (v : Int32) (x m : Int32) (h : x = m) : (if x < v then v else x) = (if m < v then v else m) := by rw [h]
/-- a byte, or none -/
theorem byteOr_yes {x : jS} {sz pl : Nat} (hs : x.2 1 = nI sz) (hsz : sz ≤ 40) (h : pl < sz) : f_X4_byteOrNone x (nI pl) = some (x.1 10 pl, x) := by
  have h1 : ¬ nI pl < 0 := nI_pos (by omega)
  have h2 : ¬ nI sz ≤ nI pl := nI_ge h (by omega)
  have j1 : job (nI pl) 40 = false := job_nI (by omega) (by omega)
  simp [f_X4_byteOrNone, f_X4_hasByte, hs, h1, h2, j1, jag_nI (show pl < 2 ^ 31 by omega)]
theorem byteOr_no {x : jS} {sz : Nat} (hs : x.2 1 = nI sz) (hsz : sz ≤ 40) : f_X4_byteOrNone x (nI sz) = some (-1, x) := by
  have h1 : ¬ nI sz < 0 := nI_pos (by omega)
  simp [f_X4_byteOrNone, f_X4_hasByte, hs, h1]
theorem range_sim {x m : jS} {A : Ab} {nn sz pl : Nat} {lo hi : Int32} (h : Sim x m A nn sz) (hpl : Pl A pl) (hps : pl ≤ sz) (h7 : x.2 7 = 0) (hlo : ¬ lo < 0) : ∃ v x' m', f_X3_lookForRange x lo hi (nI pl) = some (v, x') ∧ f_X6_lookAt m lo hi (nI pl) = some (v, m') ∧ Out x m x' m' A nn sz pl v v := by
  have h0 := id h
  obtain ⟨⟨hG, hT, hM, hC⟩, ⟨hW, h4⟩, ⟨hn, hn3, hX, hK⟩, hN, hI⟩ := h
  have hsz := hT.1
  have h101 := hI.1.1
  obtain ⟨g, c1, c2⟩ := countLook_eq (x := x) (nI (pl + 1)) hn h101
  have hg : ∀ k, k < A.n → g k = nI (if k + 1 = A.n then max (A.W k) (pl + 1) else A.W k) := by
    intro k hk
    have hb := hI.1.2 k hk
    rw [c2 k hk, (hX k hk).2.2.2.2.1]
    split
    · exact maxI (by omega) (by omega)
    · rfl
  have hLb : ∀ j, 0 ≤ j → j < A.n → m.1 15 j = nI (A.L j) ∧ A.L j < 1000 := fun j _ hj => ⟨(hK j hj).2.2.2.2.2.1, by have := hI.1.2 j hj; omega⟩
  obtain ⟨f, d1, d2, d3⟩ := mlook (v1 := lo) (v2 := hi) (L := A.L) (pl := pl) (K := fun s10 y6 y7 y8 y9 =>
    if y8 ≥ (s10.2 2) then
      jl (jis s10 9 (if (s10.2 9) < y8 then y8 else (s10.2 9))) fun s12 =>
      (f_X6_miss s12 0).bind fun r13 =>
      some (r13.1, r13.2)
    else
    bif job y8 40 then none else
    if (jag s10 5 y8) < y6 then
      jl (jis s10 9 (if (s10.2 9) < y8 then y8 else (s10.2 9))) fun s16 =>
      (f_X6_miss s16 0).bind fun r17 =>
      some (r17.1, r17.2)
    else
    bif job y8 40 then none else
    if (jag s10 5 y8) > y7 then
      jl (jis s10 9 (if (s10.2 9) < y8 then y8 else (s10.2 9))) fun s20 =>
      (f_X6_miss s20 0).bind fun r21 =>
      some (r21.1, r21.2)
    else
    (f_X6_succeed s10 (y8 + 1)).bind fun r22 =>
    some (r22.1, r22.2)) h101 (by omega) A.n 0 jFuel m (by omega) (jFuel_gt (by omega)) hn3 hLb
  have hs := h0.look (w := pl + 1) (by omega) hg (fun k hk => d2 k (by omega) hk)
  have eM : ∀ v, f_X6_miss v 0 = some (-1, jis v 5 0) := fun v => rfl
  -- a failure
  have miss : ∀ (hx : f_X3_lookForRange x lo hi (nI pl) = some (-1, jis (jaf x 20 g) 6 (if x.2 6 < nI pl then nI pl else x.2 6))) (hm : f_X6_lookAt m lo hi (nI pl) = some (-1, jis (jis (jaf m 15 f) 9 (if m.2 9 < nI pl then nI pl else m.2 9)) 5 0)), ∃ v x' m', f_X3_lookForRange x lo hi (nI pl) = some (v, x') ∧ f_X6_lookAt m lo hi (nI pl) = some (v, m') ∧ Out x m x' m' A nn sz pl v v := by
    intro hx hm
    have hC2 : RC (jis (jaf x 20 g) 6 (if x.2 6 < nI pl then nI pl else x.2 6)) (jis (jis (jaf m 15 f) 9 (if m.2 9 < nI pl then nI pl else m.2 9)) 5 0) := ⟨hC.1, hC.2.1, hC.2.2.1, by
      show (if x.2 6 < nI pl then nI pl else x.2 6) = (if m.2 9 < nI pl then nI pl else m.2 9)
      rw [hC.2.2.2]⟩
    refine ⟨_, _, _, hx, hm, ⟨⟨rfl, rfl, rfl⟩, ⟨rfl, rfl, rfl, rfl, rfl⟩, ⟨rfl, rfl⟩, fun _ _ => ⟨rfl, rfl, rfl⟩⟩, ⟨⟨rfl, rfl, rfl⟩, rfl, rfl, rfl, rfl, rfl⟩, hC2, Or.inl rfl, Or.inr ⟨h7, rfl, A.look (pl + 1), 0, ?_, Ext.look A _, sI_0.symm, Or.inl rfl⟩⟩
    obtain ⟨⟨q1, q2, q3, q4⟩, ⟨q5, q6⟩, q7, q8, q9⟩ := hs
    exact ⟨⟨q1, q2, q3, hC2⟩, ⟨q5, q6⟩, q7, q8, q9⟩
  have e21 : (jaf x 20 g).2 1 = nI sz := hT.2.1
  rcases Nat.lt_or_ge pl sz with hlt | hge
  · have hb : x.1 10 pl = m.1 5 pl := hT.2.2.2 pl hlt
    have hby := byteOr_yes (x := jaf x 20 g) e21 hsz hlt
    have j1 : job (nI pl) 40 = false := job_nI (by omega) (by omega)
    have hlk : f_X3_lookForRange x lo hi (nI pl) = (if x.1 10 pl < lo then some (-1, jis (jaf x 20 g) 6 (if x.2 6 < nI pl then nI pl else x.2 6)) else if x.1 10 pl > hi then some (-1, jis (jaf x 20 g) 6 (if x.2 6 < nI pl then nI pl else x.2 6)) else some (nI (pl + 1), jaf x 20 g)) := by
      rw [f_X3_lookForRange, nI_1, c1, Option.bind_some, hby, Option.bind_some, jl_eq]
      rfl
    have hlm : f_X6_lookAt m lo hi (nI pl) = (if m.1 5 pl < lo then some (-1, jis (jis (jaf m 15 f) 9 (if m.2 9 < nI pl then nI pl else m.2 9)) 5 0) else if m.1 5 pl > hi then some (-1, jis (jis (jaf m 15 f) 9 (if m.2 9 < nI pl then nI pl else m.2 9)) 5 0) else some (nI (pl + 1), jis (jaf m 15 f) 5 0)) := by
      rw [f_X6_lookAt]
      refine Eq.trans d1 ?_
      rw [if_neg (show ¬ nI pl ≥ (jaf m 15 f).2 2 by show ¬ m.2 2 ≤ nI pl; rw [hT.2.2.1]; exact nI_ge hlt (by omega)), j1, cond_false, cond_false, jag_nI (by omega), jl_eq, eM, Option.bind_some, nI_1]
      rfl
    by_cases hl : m.1 5 pl < lo
    · exact miss (by rw [hlk, if_pos (hb ▸ hl)]) (by rw [hlm, if_pos hl])
    · by_cases hh : m.1 5 pl > hi
      · exact miss (by rw [hlk, if_neg (hb ▸ hl), if_pos (hb ▸ hh)]) (by rw [hlm, if_neg hl, if_pos hh])
      · refine ⟨nI (pl + 1), jaf x 20 g, jis (jaf m 15 f) 5 0, by rw [hlk, if_neg (hb ▸ hl), if_neg (hb ▸ hh)], by rw [hlm, if_neg hl, if_neg hh], ⟨⟨rfl, rfl, rfl⟩, ⟨rfl, rfl, rfl, rfl, rfl⟩, ⟨rfl, rfl⟩, fun _ _ => ⟨rfl, rfl, rfl⟩⟩, ⟨⟨rfl, rfl, rfl⟩, rfl, rfl, rfl, rfl, rfl⟩, hC, Or.inl rfl, Or.inr ⟨h7, rfl, A.look (pl + 1), pl + 2, hs, Ext.look A _, (sI_s _).symm, Or.inr ⟨by omega, by omega, hpl.look (Nat.le_refl _) (by omega)⟩⟩⟩
  · have he : pl = sz := by omega
    subst he
    have hby := byteOr_no (x := jaf x 20 g) e21 hsz
    have hlo2 : (-1 : Int32) < lo := by
      rw [Int32.lt_iff_toInt_lt] at hlo ⊢
      rw [show (0 : Int32).toInt = 0 from rfl] at hlo
      rw [show (-1 : Int32).toInt = -1 from rfl]
      omega
    refine miss ?_ ?_
    · rw [f_X3_lookForRange, nI_1, c1, Option.bind_some, hby, Option.bind_some, if_pos hlo2, jl_eq]
    · rw [f_X6_lookAt]
      refine Eq.trans d1 ?_
      rw [if_pos (show nI pl ≥ (jaf m 15 f).2 2 by show m.2 2 ≤ nI pl; rw [hT.2.2.1]; exact Int32.le_refl _), jl_eq, eM, Option.bind_some]
/-- what a look of a rule leaves: cut is no matter of it -/
def OutR (x m x' m' : jS) (A : Ab) (nn sz pl : Nat) (v w : Int32) : Prop := FX x x' A.n ∧ FM m m' ∧ RC x' m' ∧ ((v = -2 ∧ m'.2 4 = 1) ∨ ((x.2 7 = 0 → x'.2 7 = 0) ∧ Good x' m' A nn sz pl v w))
/-- a remembered result -/
theorem hit_sim {x m : jS} {A : Ab} {nn sz r pl : Nat} (h : Sim x m A nn sz) (hpl : Pl A pl) (hps : pl ≤ sz) (hr : r < 10) (hk : RK x m sz r pl) : ∃ g1 g2 f1 f2, f_X2_countLook (jis x 4 (x.2 4 + 1)) (x.1 13 (10 * pl + r)) = some (jaf (jis x 4 (x.2 4 + 1)) 20 g1) ∧ f_X2_countNames (jaf (jis x 4 (x.2 4 + 1)) 20 g1) (x.1 14 (10 * pl + r)) (nI pl) = some (jaf (jaf (jis x 4 (x.2 4 + 1)) 20 g1) 21 g2) ∧ f_X6_name (jis m 7 (m.2 7 + 1)) (m.1 9 (41 * r + pl)) (nI pl) = some (jaf (jis m 7 (m.2 7 + 1)) 16 f2) ∧ (∀ (lk : jS → Int32 → Int32 → Int32 → Option (Int32 × jS)) (v1 v2 v3 : Int32) (K : jS → Int32 → Int32 → Int32 → Int32 → Int32 → Option (Int32 × jS)), f_X6_lookRule_65 lk K jFuel (jaf (jis m 7 (m.2 7 + 1)) 16 f2) v1 v2 v3 (nI (41 * r + pl)) 0 = K (jaf (jaf (jis m 7 (m.2 7 + 1)) 16 f2) 15 f1) v1 v2 v3 (nI (41 * r + pl)) (nI A.n)) ∧ OutR x m (jaf (jaf (jis x 4 (x.2 4 + 1)) 20 g1) 21 g2) (jaf (jaf (jis m 7 (m.2 7 + 1)) 16 f2) 15 f1) A nn sz pl (x.1 12 (10 * pl + r)) (m.1 7 (41 * r + pl)) := by
  have h0 := id h
  obtain ⟨⟨hG, hT, hM, hC⟩, ⟨hW, h4⟩, ⟨hn, hn3, hX, hK⟩, hN, hI⟩ := h
  have hsz := hT.1
  have h101 := hI.1.1
  obtain ⟨k1, k2, k3, k4, k5, w, k6, k7, k8, k9⟩ := hk
  obtain ⟨g1, c1, c2⟩ := countLook_eq (x := jis x 4 (x.2 4 + 1)) (x.1 13 (10 * pl + r)) hn h101
  obtain ⟨g2, c3, c4⟩ := countNames_eq (x := jaf (jis x 4 (x.2 4 + 1)) 20 g1) (x.1 14 (10 * pl + r)) (nI pl) hn h101
  obtain ⟨f2, d1, d2⟩ := mname (m := jis m 7 (m.2 7 + 1)) (y := m.1 9 (41 * r + pl)) (P := A.P) h101 (show pl < 1000 by omega) hn3 (fun j hj => ⟨(hK j hj).2.1, by have := hI.1.2 j hj; omega⟩)
  have hx13 : x.1 13 (10 * pl + r) = nI w := k4.trans k6
  have hg1 : ∀ k, k < A.n → g1 k = nI (if k + 1 = A.n then max (A.W k) w else A.W k) := by
    intro k hk
    have hb := hI.1.2 k hk
    rw [c2 k hk, hx13]
    show (if k + 1 = A.n then (if x.1 20 k < nI w then nI w else x.1 20 k) else x.1 20 k) = _
    rw [(hX k hk).2.2.2.2.1]
    split
    · exact maxI (by omega) (by omega)
    · rfl
  have hLb : ∀ j, 0 ≤ j → j < A.n → (jaf (jis m 7 (m.2 7 + 1)) 16 f2).1 15 j = nI (A.L j) ∧ A.L j < 1000 := fun j _ hj => ⟨(hK j hj).2.2.2.2.2.1, by have := hI.1.2 j hj; omega⟩
  have hf1 : ∃ f1 : Nat → Int32, (∀ (lk : jS → Int32 → Int32 → Int32 → Option (Int32 × jS)) (v1 v2 v3 : Int32) (K : jS → Int32 → Int32 → Int32 → Int32 → Int32 → Option (Int32 × jS)), f_X6_lookRule_65 lk K jFuel (jaf (jis m 7 (m.2 7 + 1)) 16 f2) v1 v2 v3 (nI (41 * r + pl)) 0 = K (jaf (jaf (jis m 7 (m.2 7 + 1)) 16 f2) 15 f1) v1 v2 v3 (nI (41 * r + pl)) (nI A.n)) ∧ ∀ k, k < A.n → f1 k = nI (max (A.L k) w) := by
    refine ⟨fun k => if k < A.n then nI (max (A.L k) w) else m.1 15 k, fun lk v1 v2 v3 K => ?_, fun k hk => if_pos hk⟩
    obtain ⟨f, e1, e2, e3, e4⟩ := mreach2 (lk := lk) (v1 := v1) (v2 := v2) (v3 := v3) (L := A.L) (K := K) h101 (show 41 * r + pl < 410 by omega) (show w < 1000 by omega) A.n 0 jFuel (jaf (jis m 7 (m.2 7 + 1)) 16 f2) (by omega) (jFuel_gt (by omega)) hn3 k6 hLb
    have : f = fun k => if k < A.n then nI (max (A.L k) w) else m.1 15 k := by
      funext k
      by_cases hk : k < A.n
      · rw [e2 k (by omega) hk]; exact (if_pos hk).symm
      · rw [e4 k (by omega)]; exact (if_neg hk).symm
    rw [this] at e1
    exact e1
  obtain ⟨f1, d3, d4⟩ := hf1
  refine ⟨g1, g2, f1, f2, c1, c3, d1, d3, ⟨⟨rfl, rfl, rfl⟩, ⟨rfl, rfl, rfl, rfl, rfl⟩, ⟨rfl, rfl⟩, fun _ _ => ⟨rfl, rfl, rfl⟩⟩, ⟨⟨rfl, rfl, rfl⟩, rfl, rfl, rfl, rfl, rfl⟩, ⟨hC.1, by show x.2 4 + 1 = m.2 7 + 1; rw [hC.2.1], hC.2.2.1, hC.2.2.2⟩, Or.inr ⟨fun h => h, k3, ?_⟩⟩
  have hC2 : RC (jis x 4 (x.2 4 + 1)) (jis m 7 (m.2 7 + 1)) := ⟨hC.1, by show x.2 4 + 1 = m.2 7 + 1; rw [hC.2.1], hC.2.2.1, hC.2.2.2⟩
  have s0 : Sim (jis x 4 (x.2 4 + 1)) (jis m 7 (m.2 7 + 1)) A nn sz := ⟨⟨hG, hT, hM, hC2⟩, ⟨hW, h4⟩, ⟨hn, hn3, hX, hK⟩, hN, hI⟩
  have s1 := s0.look (w := w) (f := f1) k8 hg1 d4
  have s2 := s1.names (pl := pl) (y := x.1 14 (10 * pl + r)) (f := f2) (g := g2) (fun k hk => (hpl k hk).1) (fun k hk => by
    rw [c4 k hk]
    show (if k + 1 = A.n ∧ x.1 17 k = nI pl then x.1 21 k ||| _ else x.1 21 k) = if k + 1 = A.n ∧ A.P k = pl then A.Y k ||| _ else A.Y k
    rw [(hX k hk).2.1, (hX k hk).2.2.2.2.2.1]
    by_cases e : A.P k = pl
    · rw [e]
      by_cases e2 : k + 1 = A.n
      · rw [if_pos ⟨e2, rfl⟩, if_pos ⟨e2, rfl⟩]
      · rw [if_neg (fun h => e2 h.1), if_neg (fun h => e2 h.1)]
    · have e3 : ¬ nI (A.P k) = nI pl := fun h => e (nI_inj (by have := hI.1.2 k hk; omega) (by omega) h)
      rw [if_neg (fun h => e3 h.2), if_neg (fun h => e h.2)]) (fun k hk => by
    rw [d2 k hk]
    show (if A.P k = pl then m.1 16 k ||| _ else m.1 16 k) = if A.P k = pl then A.V k ||| _ else A.V k
    rw [(hK k hk).2.2.2.2.2.2, k5])
  have hcomm : jaf (jaf (jis m 7 (m.2 7 + 1)) 16 f2) 15 f1 = jaf (jaf (jis m 7 (m.2 7 + 1)) 15 f1) 16 f2 := by
    show (va_up (va_up m.1 16 f2) 15 f1, _) = (va_up (va_up m.1 15 f1) 16 f2, _)
    congr 1
    funext j
    unfold va_up
    by_cases e : j = 15
    · subst e; rfl
    · rw [if_neg e, if_neg e]
  rw [hcomm]
  have hext : Ext A ((A.look w).names (x.1 14 (10 * pl + r)) pl) := (Ext.look A w).trans (Ext.names _ _ _)
  rcases k9 with k9 | ⟨q, k9, k10, k11, k12⟩
  · exact ⟨_, 0, s2, hext, by rw [k3, k9, sI_0], Or.inl rfl⟩
  · refine ⟨_, q + 1, s2, hext, by rw [k3, k9, sI_s], Or.inr ⟨by omega, by omega, ?_⟩⟩
    exact (hpl.look k12 k10).ext (Ext.names _ _ _)
/-- a seed -/
theorem ask_sim {x m : jS} {A : Ab} {nn sz pl k0 : Nat} (h : Sim x m A nn sz) (hpl : Pl A pl) (hk0 : k0 < A.n) (hp0 : A.P k0 = pl) : ∃ v x' m', f_X2_askSeed x (nI k0) = some (v, x') ∧ f_X6_ask m (nI k0) = some (v, m') ∧ OutR x m x' m' A nn sz pl v v := by
  have h0 := id h
  obtain ⟨⟨hG, hT, hM, hC⟩, ⟨hW, h4⟩, ⟨hn, hn3, hX, hK⟩, hN, hI⟩ := h
  have hsz := hT.1
  have h101 := hI.1.1
  have hb0 := hI.1.2 k0 hk0
  obtain ⟨g, c1, c2⟩ := countAsked_eq (x := jaf x 19 (upd (x.1 19) k0 1)) (nI k0) hn h101
  obtain ⟨f, d1, d2, d3⟩ := mask h101 hk0 hn3
  have hs := h0.ask hk0 (f := f) (g := g) (fun k hk => by
    have hb := hI.1.2 k hk
    rw [c2 k hk]
    show (if k + 1 = A.n then (if nI k0 < x.1 22 k then nI k0 else x.1 22 k) else x.1 22 k) = _
    rw [(hX k hk).2.2.2.2.2.2]
    split
    · exact minI (by omega) (by omega)
    · rfl) d2 d3
  refine ⟨sI (A.S k0), jaf (jaf x 19 (upd (x.1 19) k0 1)) 22 g, jaf (jaf m 13 (upd (m.1 13) k0 1)) 14 f, ?_, ?_, ⟨⟨rfl, rfl, rfl⟩, ⟨rfl, rfl, rfl, rfl, rfl⟩, ⟨rfl, rfl⟩, fun _ _ => ⟨rfl, rfl, rfl⟩⟩, ⟨⟨rfl, rfl, rfl⟩, rfl, rfl, rfl, rfl, rfl⟩, hC, Or.inr ⟨fun h => h, rfl, A.ask k0, A.S k0, hs, Ext.ask A k0, rfl, ?_⟩⟩
  · rw [f_X2_askSeed, job_nI (by omega) (by omega), cond_false, jl_eq, nar1, jas_nI (by omega), c1, Option.bind_some, cond_false, jag_nI (by omega)]
    show some (x.1 18 k0, _) = _
    rw [(hX k0 hk0).2.2.1]
  · rw [d1, (hK k0 hk0).2.2.1]
  · rcases hb0.2.2.2.2.2.2 with e | ⟨e1, e2⟩
    · exact Or.inl e
    · refine Or.inr ⟨by omega, e2, fun k hk => ?_⟩
      have hk2 : k < A.n := hk
      refine ⟨Nat.le_trans (hpl k hk2).1 (by omega), fun hz => ?_⟩
      have hz2 : (A.Z k || decide (k0 < k)) = false := hz
      rw [Bool.or_eq_false_iff, decide_eq_false_iff_not] at hz2
      have := ((hI.2.2.2.2.1 k hk2 hz2.1).1 k0 (by omega) hk0).2
      show A.S k0 - 1 ≤ A.L k
      omega
end L2T
