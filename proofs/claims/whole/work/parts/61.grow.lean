/-! parse: a rule grows; a rule -/
section L2V
theorem Mid.pl {x0 x m : jS} {A B : Ab} {nn sz r pl : Nat} (h : Mid x0 x m A B nn sz r pl) : Pl B pl := by
  obtain ⟨hS, hF, hn, hR, hP, hE⟩ := h
  have hI := hS.2.2.2.2
  intro k hk
  have h1 := hI.2.1 k A.n (by omega) (by omega)
  have h2 := hI.1.2 A.n (by omega)
  refine ⟨by omega, fun hz => ?_⟩
  have := ((hI.2.2.2.2.1 k hk hz).1 A.n (by omega) (by omega)).1
  omega
/-- a new seed -/
def sdX (x : jS) (n s : Nat) : jS := jis (jaf x 18 (upd (x.1 18) n (sI s))) 5 (x.2 5 + 1)
def sdM (m : jS) (n s : Nat) : jS := jis (jaf m 12 (upd (m.1 12) n (sI s))) 8 (m.2 8 + 1)
theorem Mid.seed {x0 x m : jS} {A B : Ab} {nn sz r pl s : Nat} (h : Mid x0 x m A B nn sz r pl) (hs0 : pl < s) (hs1 : s ≤ sz + 1) (hpl : Pl B (s - 1)) : Mid x0 (sdX x A.n s) (sdM m A.n s) A (B.seed A.n s) nn sz r pl := by
  obtain ⟨hS, hF, hn, hR, hP, hE⟩ := h
  obtain ⟨⟨hG, hT, hM, hC⟩, ⟨hW, hf⟩, ⟨h1, h2, h3, h4⟩, hN, hI⟩ := hS
  have hC2 : RC (sdX x A.n s) (sdM m A.n s) := ⟨hC.1, hC.2.1, by show x.2 5 + 1 = m.2 8 + 1; rw [hC.2.2.1], hC.2.2.2⟩
  refine ⟨⟨⟨hG, hT, hM, hC2⟩, ⟨hW, hf⟩, ⟨h1, h2, fun k hk => ?_, fun k hk => ?_⟩, hN, hI.seed hn (by omega) hs1 hpl⟩, ?_, hn, hR, hP, ?_⟩
  · obtain ⟨a1, a2, a3, a4, a5, a6, a7⟩ := h3 k hk
    refine ⟨a1, a2, ?_, a4, a5, a6, a7⟩
    show (if k = A.n then sI s else x.1 18 k) = sI (if k = A.n then s else B.S k)
    split
    · rfl
    · exact a3
  · obtain ⟨a1, a2, a3, a4, a5, a6, a7⟩ := h4 k hk
    refine ⟨a1, a2, ?_, a4, a5, a6, a7⟩
    show (if k = A.n then sI s else m.1 12 k) = sI (if k = A.n then s else B.S k)
    split
    · rfl
    · exact a3
  · refine hF.trans ⟨⟨rfl, rfl, rfl⟩, ⟨rfl, rfl, rfl, rfl, rfl⟩, ⟨rfl, rfl⟩, fun k hk => ⟨rfl, rfl, ?_⟩⟩
    exact upd_ne (by omega)
  · refine ⟨hE.1, fun k hk => ?_⟩
    obtain ⟨b1, b2, b3, b4⟩ := hE.2 k hk
    refine ⟨b1, b2, ?_, b4⟩
    show (if k = A.n then s else B.S k) = A.S k
    rw [if_neg (by omega)]
    exact b3
theorem grow {lkx lkm : jS → Int32 → Int32 → Int32 → Option (Int32 × jS)} {x0 : jS} {A : Ab} {nn sz r pl e d : Nat} {v4 y17 : Int32} {Kx : jS → Int32 → Int32 → Int32 → Int32 → Int32 → Int32 → Int32 → Int32 → Option (Int32 × jS)} {Km : jS → Int32 → Int32 → Int32 → Int32 → Int32 → Int32 → Option (Int32 × jS)} (HL : LkOk lkx lkm nn sz (d + 1)) (hr : r < 10) (hps : pl ≤ sz) (hsz : sz ≤ 40) (h100 : A.n ≤ 100) (hd : A.n ≤ d) (he : e < nn) (hx5 : x0.1 5 r = nI e) : ∀ (c i N N' : Nat) (x m : jS) (B : Ab) (s : Nat), i + c = 41 → c < N → c < N' → Mid x0 x m A B nn sz r pl → (s = 0 ∨ (pl < s ∧ s ≤ sz + 1 ∧ Pl B (s - 1))) → i ≤ B.S A.n → ∃ x' m' v w i', f_X3_lookForRule_81 lkx Kx N x (nI r) (nI pl) (nI d) v4 (nI e) (nI A.n) (sI s) (nI i) = Kx x' (nI r) (nI pl) (nI d) v4 (nI e) (nI A.n) v i' ∧ f_X6_lookRule_265 lkm Km N' m (nI r) (nI pl) (nI d) y17 (nI A.n) (sI s) = Km m' (nI r) (nI pl) (nI d) y17 (nI A.n) w ∧ FM m m' ∧ ((v = -2 ∧ m'.2 4 = 1 ∧ RC x' m' ∧ FX (bgX x0 A.n r pl) x' A.n ∧ x'.1 16 A.n = nI r ∧ x'.1 17 A.n = nI pl) ∨ (v ≠ -2 ∧ ∃ B', Mid x0 x' m' A B' nn sz r pl)) := by
  intro c
  induction c with
  | zero =>
    intro i N N' x m B s hi hN hN' hm hs hiS
    obtain ⟨N, rfl⟩ : ∃ z, N = z + 1 := ⟨N - 1, by omega⟩
    obtain ⟨N', rfl⟩ : ∃ z, N' = z + 1 := ⟨N' - 1, by omega⟩
    obtain ⟨hS, hF, hn, hR, hP, hE⟩ := id hm
    obtain ⟨⟨hG, hT, hM, hC⟩, ⟨hW, hf⟩, ⟨h1, h2, h3, h4⟩, hN0, hI⟩ := hS
    have hb := hI.1.2 A.n (by omega)
    have hsb : s ≤ B.S A.n := by omega
    refine ⟨x, m, sI s, sI s, nI i, ?_, ?_, FM.refl m, Or.inr ⟨sI_m2 (by omega), B, hm⟩⟩
    · rw [f_X3_lookForRule_81, if_pos (show nI i > 40 from nI_lt (a := 40) (by omega) (by omega))]
    · rw [f_X6_lookRule_265]
      by_cases hs0 : s = 0
      · rw [if_pos ((sI_m1 (by omega)).mpr hs0)]
      · rw [if_neg (fun h => hs0 ((sI_m1 (by omega)).mp h)), if_pos hf, job_nI (by omega) (by omega), cond_false, jag_nI (by omega), (h4 A.n (by omega)).2.2.1, if_neg (fun h => by have := (sI_m1 (by omega)).mp h; omega), cond_false, if_pos (show sI (B.S A.n) ≥ sI s from (sI_le (by omega) (by omega)).mpr hsb)]
  | succ c ih =>
    intro i N N' x m B s hi hN hN' hm hs hiS
    obtain ⟨N, rfl⟩ : ∃ z, N = z + 1 := ⟨N - 1, by omega⟩
    obtain ⟨N', rfl⟩ : ∃ z, N' = z + 1 := ⟨N' - 1, by omega⟩
    obtain ⟨hS, hF, hn, hR, hP, hE⟩ := id hm
    obtain ⟨⟨hG, hT, hM, hC⟩, ⟨hW, hf⟩, ⟨h1, h2, h3, h4⟩, hN0, hI⟩ := hS
    have hb := hI.1.2 A.n (by omega)
    have x18 := (h3 A.n (by omega)).2.2.1
    have m12 := (h4 A.n (by omega)).2.2.1
    have jn : job (nI A.n) 101 = false := job_nI (by omega) (by omega)
    have jn2 : job (nI A.n) 102 = false := job_nI (by omega) (by omega)
    by_cases hsb : s ≤ B.S A.n
    · refine ⟨x, m, sI s, sI s, nI i, ?_, ?_, FM.refl m, Or.inr ⟨sI_m2 (by omega), B, hm⟩⟩
      · rw [f_X3_lookForRule_81, if_neg (show ¬ nI i > 40 from nI_nlt (b := i) (a := 40) (by omega) (by omega)), jn, cond_false, jag_nI (by omega), x18, if_pos ((sI_le (by omega) (by omega)).mpr hsb)]
      · rw [f_X6_lookRule_265]
        by_cases hs0 : s = 0
        · rw [if_pos ((sI_m1 (by omega)).mpr hs0)]
        · rw [if_neg (fun h => hs0 ((sI_m1 (by omega)).mp h)), if_pos hf, jn2, cond_false, jag_nI (by omega), m12, if_neg (fun h => by have := (sI_m1 (by omega)).mp h; omega), cond_false, if_pos (show sI (B.S A.n) ≥ sI s from (sI_le (by omega) (by omega)).mpr hsb)]
    · obtain ⟨s1, s2, s3⟩ := hs.resolve_left (by omega)
      have hm1 := hm.seed s1 s2 s3
      have hx5b : x.1 5 r = nI e := by rw [hF.2.1.2.2.2.1]; exact hx5
      have hm4 : (sdM m A.n s).1 4 r = nI e := ((hG.2.2.2.2 r hr).1).symm.trans hx5b
      obtain ⟨v, w, x2, m2, q1, q2, q3⟩ := HL (sdX x A.n s) (sdM m A.n s) (B.seed A.n s) e pl hm1.1 hm1.pl hps (by show B.n ≤ d + 1; omega) he
      have eX : f_X3_lookForRule_81 lkx Kx (N + 1) x (nI r) (nI pl) (nI d) v4 (nI e) (nI A.n) (sI s) (nI i) = f_X3_lookForRule_81 lkx Kx N x2 (nI r) (nI pl) (nI d) v4 (nI e) (nI A.n) v (nI (i + 1)) := by
        rw [f_X3_lookForRule_81, if_neg (show ¬ nI i > 40 from nI_nlt (b := i) (a := 40) (by omega) (by omega)), jn, cond_false, jag_nI (by omega), x18, if_neg (fun h => hsb ((sI_le (by omega) (by omega)).mp h)), cond_false, jl_eq, jl_eq, jas_nI (by omega), nI_1]
        show (lkx (sdX x A.n s) (nI e) (nI pl) (nI (d + 1))).bind _ = _
        rw [q1, Option.bind_some, jl_eq, nI_1]
      have eM : f_X6_lookRule_265 lkm Km (N' + 1) m (nI r) (nI pl) (nI d) y17 (nI A.n) (sI s) = f_X6_lookRule_265 lkm Km N' m2 (nI r) (nI pl) (nI d) y17 (nI A.n) w := by
        rw [f_X6_lookRule_265, if_neg (fun h => by have := (sI_m1 (by omega)).mp h; omega), if_pos hf, jn2, cond_false, jag_nI (by omega), m12]
        have hgo : ((lkm (sdM m A.n s) (jag (sdM m A.n s) 4 (nI r)) (nI pl) (nI d + 1)).bind fun r63 => f_X6_lookRule_265 lkm Km N' r63.2 (nI r) (nI pl) (nI d) y17 (nI A.n) r63.1) = f_X6_lookRule_265 lkm Km N' m2 (nI r) (nI pl) (nI d) y17 (nI A.n) w := by
          rw [jag_nI (by omega), hm4, nI_1, q2, Option.bind_some]
        by_cases h0 : B.S A.n = 0
        · rw [if_pos ((sI_m1 (by omega)).mpr h0), cond_false, jl_eq, jl_eq, jas_nI (by omega), job_nI (by omega) (by omega), cond_false]
          exact hgo
        · rw [if_neg (fun h => h0 ((sI_m1 (by omega)).mp h)), cond_false, if_neg (show ¬ sI (B.S A.n) ≥ sI s from fun h => hsb ((sI_le (by omega) (by omega)).mp h)), cond_false, jl_eq, jl_eq, jas_nI (by omega), job_nI (by omega) (by omega), cond_false]
          exact hgo
      obtain ⟨o1, o2, o3, o4, o5⟩ := q3
      have hFm : FM m m2 := FM.trans (y := sdM m A.n s) ⟨⟨rfl, rfl, rfl⟩, rfl, rfl, rfl, rfl, rfl⟩ o2
      have o1n : FX (sdX x A.n s) x2 (A.n + 1) := by rw [← hn]; exact o1
      rcases o5 with ⟨hv, hfl⟩ | ⟨o6, o7, C, s', c1, c2, c3, c4⟩
      · subst hv
        obtain ⟨N, rfl⟩ : ∃ z, N = z + 1 := ⟨N - 1, by omega⟩
        obtain ⟨N', rfl⟩ : ∃ z, N' = z + 1 := ⟨N' - 1, by omega⟩
        obtain ⟨n16, n17, n18⟩ := o1n.2.2.2 A.n (by omega)
        have n18b : x2.1 18 A.n = sI s := n18.trans (upd_self _ _ _)
        refine ⟨x2, m2, -2, w, nI (i + 1), ?_, ?_, hFm, Or.inl ⟨rfl, hfl, o3, ?_, ?_, ?_⟩⟩
        · rw [eX, f_X3_lookForRule_81]
          by_cases h40 : i + 1 ≤ 40
          · rw [if_neg (show ¬ nI (i + 1) > 40 from nI_nlt (b := i + 1) (a := 40) (by omega) (by omega)), jn, cond_false, jag_nI (by omega), n18b, if_pos (m2_lt (by omega))]
          · rw [if_pos (show nI (i + 1) > 40 from nI_lt (a := 40) (by omega) (by omega))]
        · rw [eM, f_X6_lookRule_265]
          by_cases hw : w = -1
          · rw [if_pos hw]
          · rw [if_neg hw, if_neg (by rw [hfl]; decide)]
        · exact hm1.2.1.trans ⟨o1n.1, o1n.2.1, o1n.2.2.1, fun k hk => o1n.2.2.2 k (by omega)⟩
        · rw [n16]
          show x.1 16 A.n = nI r
          rw [(h3 A.n (by omega)).1, hR]
        · rw [n17]
          show x.1 17 A.n = nI pl
          rw [(h3 A.n (by omega)).2.1, hP]
      · subst o7
        have hm2 : Mid x0 x2 m2 A C nn sz r pl := hm1.go c1 o1 c2
        have hS2 : C.S A.n = s := by
          rw [(c2.2 A.n (by show A.n < B.n; omega)).2.2.1]
          exact if_pos rfl
        obtain ⟨x', m', v', w', i', g1, g2, g3, g4⟩ := ih (i + 1) N N' x2 m2 C s' (by omega) (by omega) (by omega) hm2 c4 (by omega)
        refine ⟨x', m', v', w', i', ?_, ?_, hFm.trans g3, g4⟩
        · rw [eX, c3]; exact g1
        · rw [eM, c3]; exact g2
def tM (s77 : jS) (y74 y75 : Int32) : Option (Int32 × jS) :=
  bif job y75 102 then none else
  jl (jag s77 12 y75) fun x79 =>
  sM y75 y74 x79 s77
def aM (lk : jS → Int32 → Int32 → Int32 → Option (Int32 × jS)) (x20 y14 y15 y16 y17 : Int32) (r38 : Int32 × jS) : Option (Int32 × jS) :=
  bif job x20 102 then none else
  if (jag r38.2 13 x20) = 0 then
    sM x20 y17 r38.1 r38.2
  else
  f_X6_lookRule_265 lk (fun s77 y71 y72 y73 y74 y75 y76 => tM s77 y74 y75) jFuel r38.2 y14 y15 y16 y17 x20 r38.1
def cM (lk : jS → Int32 → Int32 → Int32 → Option (Int32 × jS)) (s19 : jS) (y14 y15 y16 y17 : Int32) : Option (Int32 × jS) :=
  jl (s19.2 3) fun x20 =>
  jl (jis s19 3 ((s19.2 3) + 1)) fun s21 =>
  bif job x20 102 then none else
  jl (jas s21 10 x20 y14) fun s23 =>
  bif job x20 102 then none else
  jl (jas s23 11 x20 y15) fun s25 =>
  bif job x20 102 then none else
  jl (jas s25 12 x20 (-1)) fun s27 =>
  bif job x20 102 then none else
  jl (jas s27 13 x20 (vp_nar .boolean 0)) fun s29 =>
  bif job x20 102 then none else
  jl (jas s29 14 x20 (vp_nar .boolean 0)) fun s31 =>
  bif job x20 102 then none else
  jl (jas s31 15 x20 y15) fun s33 =>
  bif job x20 102 then none else
  jl (jas s33 16 x20 0) fun s35 =>
  (f_X6_name s35 (1 <<< (y14 &&& 31)) y15).bind fun r36 =>
  bif job y14 10 then none else
  (lk r36 (jag r36 4 y14) y15 (y16 + 1)).bind fun r38 =>
  aM lk x20 y14 y15 y16 y17 r38
theorem cM_eq {lk : jS → Int32 → Int32 → Int32 → Option (Int32 × jS)} {m r36 : jS} {n r pl d : Nat} {y17 : Int32} (hn : m.2 3 = nI n) (h100 : n ≤ 100) (hr : r < 10) (hnm : f_X6_name (bgM m n r pl) (bt r) (nI pl) = some r36) : cM lk m (nI r) (nI pl) (nI d) y17 = (lk r36 (r36.1 4 r) (nI pl) (nI (d + 1))).bind fun r38 => aM lk (nI n) (nI r) (nI pl) (nI d) y17 r38 := by
  have j1 : job (nI n) 102 = false := job_nI (by omega) (by omega)
  have j2 : job (nI r) 10 = false := job_nI (by omega) (by omega)
  have hb : (jas (jas (jas (jas (jas (jas (jas (jis m 3 (nI n + 1)) 10 (nI n) (nI r)) 11 (nI n) (nI pl)) 12 (nI n) (-1)) 13 (nI n) 0) 14 (nI n) 0) 15 (nI n) (nI pl)) 16 (nI n) 0) = bgM m n r pl := by
    simp only [jas, nI_clamp (show n < 2 ^ 31 by omega), nI_1]
    rfl
  rw [cM, hn, jl_eq, jl_eq, j1, j2, nar0, cond_false, jl_eq, cond_false, jl_eq, cond_false, jl_eq, cond_false, jl_eq, cond_false, jl_eq, cond_false, jl_eq, cond_false, jl_eq, hb, hnm, Option.bind_some, cond_false, jag_nI (by omega), nI_1]
def cX (lk : jS → Int32 → Int32 → Int32 → Option (Int32 × jS)) (x : jS) (a1 a2 a3 v4 : Int32) : Option (Int32 × jS) :=
  (f_X2_isFull x).bind fun r3 =>
  if r3.1 = 0 then
    bif job a1 10 then none else
    jl (jag r3.2 5 a1) fun x6 =>
    (f_X2_begin r3.2 a1 a2).bind fun r7 =>
    (lk r7.2 x6 a2 (a3 + 1)).bind fun r8 =>
    bif job r7.1 101 then none else
    if (jag r8.2 19 r7.1) = 0 then
      tX r8.2 r7.1 r8.1
    else
    f_X3_lookForRule_81 lk (fun s29 y21 y22 y23 y24 y25 y26 y27 y28 =>
      if y27 = (-2) then
        tX s29 y26 (-2)
      else
      bif job y26 101 then none else
      jl (jag s29 18 y26) fun x32 =>
      tX s29 y26 x32
      ) jFuel r8.2 a1 a2 a3 v4 x6 r7.1 r8.1 0
  else
  some ((-2), r3.2)
theorem begin_sim {lkx lkm : jS → Int32 → Int32 → Int32 → Option (Int32 × jS)} {x m : jS} {A : Ab} {nn sz r pl e d : Nat} {v4 : Int32} (HL : LkOk lkx lkm nn sz (d + 1)) (h : Sim x m A nn sz) (hpl : Pl A pl) (hps : pl ≤ sz) (hr : r < 10) (hd : A.n ≤ d) (h100 : d ≤ 100) (he : e < nn) (hx5 : x.1 5 r = nI e) (hfr : ∀ k, k < A.n → ¬ (A.R k = r ∧ A.P k = pl)) : ∃ v w x' m', cX lkx x (nI r) (nI pl) (nI d) v4 = some (v, x') ∧ cM lkm m (nI r) (nI pl) (nI d) (nI (41 * r + pl)) = some (w, m') ∧ OutR x m x' m' A nn sz pl v w := by
  have h0 := id h
  obtain ⟨⟨hG, hT, hM, hC⟩, ⟨hW, h4⟩, ⟨hn, hn3, hX, hK⟩, ⟨hN0, hR0⟩, hI⟩ := h
  have hsz := hT.1
  have h101 := hI.1.1
  have h23 : x.1 23 (10 * pl + r) = -1 := by
    rcases hN0 r pl hr (by omega) with h | ⟨k, k1, k2, k3, k4⟩
    · exact h.1
    · exact absurd ⟨k2, k3⟩ (hfr k k1)
  have h24 : tb (x.1 24 pl) r = false := by
    cases hq : tb (x.1 24 pl) r with
    | false => rfl
    | true =>
      obtain ⟨k, k1, k2, k3⟩ := (hR0 pl (by omega) r).mp hq
      exact absurd ⟨k2, k3⟩ (hfr k k1)
  obtain ⟨f, d1, d2⟩ := mname (n := A.n + 1) (m := bgM m A.n r pl) (y := bt r) (P := (A.push r pl).P) (by omega) (show pl < 1000 by omega) (va_up_self m.2 3 _) (fun j hj => by
    show (if j = A.n then nI pl else m.1 11 j) = nI (if j = A.n then pl else A.P j) ∧ (if j = A.n then pl else A.P j) < 1000
    by_cases e : j = A.n
    · rw [if_pos e, if_pos e]; exact ⟨rfl, by omega⟩
    · rw [if_neg e, if_neg e]; exact ⟨(hK j (by omega)).2.1, by have := hI.1.2 j (by omega); omega⟩)
  have hs1 := h0.push (f := f) hpl hps (by omega) hr hfr (fun k hk => by
    rw [d2 k hk]
    show (if (if k = A.n then pl else A.P k) = pl then (if k = A.n then 0 else m.1 16 k) ||| bt r else (if k = A.n then 0 else m.1 16 k)) = if k = A.n then 0 ||| bt r else if A.P k = pl then A.V k ||| bt r else A.V k
    by_cases e : k = A.n
    · simp only [if_pos e, if_true]
    · simp only [if_neg e]
      rw [(hK k (by omega)).2.2.2.2.2.2])
  have hpl1 : Pl (A.push r pl) pl := by
    intro k hk
    have hk2 : k < A.n + 1 := hk
    show (if k = A.n then pl else A.P k) ≤ pl ∧ ((if k = A.n then false else A.Z k) = false → pl ≤ (if k = A.n then pl else A.L k))
    by_cases e : k = A.n
    · simp only [if_pos e]
      exact ⟨Nat.le_refl _, fun _ => Nat.le_refl _⟩
    · simp only [if_neg e]
      exact hpl k (by omega)
  have hm4 : (jaf (bgM m A.n r pl) 16 f).1 4 r = nI e := ((hG.2.2.2.2 r hr).1).symm.trans hx5
  obtain ⟨v, w, x1, m1, q1, q2, q3⟩ := HL (bgX x A.n r pl) (jaf (bgM m A.n r pl) 16 f) (A.push r pl) e pl hs1 hpl1 hps (by show A.n + 1 ≤ d + 1; omega) he
  have jn : job (nI A.n) 101 = false := job_nI (by omega) (by omega)
  have jn2 : job (nI A.n) 102 = false := job_nI (by omega) (by omega)
  have eX : cX lkx x (nI r) (nI pl) (nI d) v4 = (if x1.1 19 A.n = 0 then tX x1 (nI A.n) v else f_X3_lookForRule_81 lkx (fun s29 y21 y22 y23 y24 y25 y26 y27 y28 =>
      if y27 = (-2) then
        tX s29 y26 (-2)
      else
      bif job y26 101 then none else
      jl (jag s29 18 y26) fun x32 =>
      tX s29 y26 x32
      ) jFuel x1 (nI r) (nI pl) (nI d) v4 (nI e) (nI A.n) v 0) := by
    rw [cX, f_X2_isFull, if_pos (show x.2 2 < 101 by rw [hn]; exact nI_lt (b := 101) (by omega) (by omega)), Option.bind_some, if_pos (show (0 : Int32) = 0 from rfl), job_nI hr (by omega), cond_false, jl_eq, jag_nI (by omega), hx5, begin_eq hn (by omega) hr (by omega), Option.bind_some, nI_1, q1, Option.bind_some, jn, cond_false, jag_nI (by omega)]
  have eM : cM lkm m (nI r) (nI pl) (nI d) (nI (41 * r + pl)) = aM lkm (nI A.n) (nI r) (nI pl) (nI d) (nI (41 * r + pl)) (w, m1) := by
    rw [cM_eq hn3 (by omega) hr d1, hm4, q2, Option.bind_some]
  have eA : aM lkm (nI A.n) (nI r) (nI pl) (nI d) (nI (41 * r + pl)) (w, m1) = (if m1.1 13 A.n = 0 then sM (nI A.n) (nI (41 * r + pl)) w m1 else f_X6_lookRule_265 lkm (fun s77 y71 y72 y73 y74 y75 y76 => tM s77 y74 y75) jFuel m1 (nI r) (nI pl) (nI d) (nI (41 * r + pl)) (nI A.n) w) := by
    rw [aM, jn2, cond_false, jag_nI (by omega)]
  have eT : ∀ (s : jS), tM s (nI (41 * r + pl)) (nI A.n) = sM (nI A.n) (nI (41 * r + pl)) (s.1 12 A.n) s := by
    intro s
    rw [tM, jn2, cond_false, jl_eq, jag_nI (by omega)]
  obtain ⟨o1, o2, o3, o4, o5⟩ := q3
  have hFm : FM m m1 := FM.trans (y := jaf (bgM m A.n r pl) 16 f) ⟨⟨rfl, rfl, rfl⟩, rfl, rfl, rfl, rfl, rfl⟩ o2
  have o1n : FX (bgX x A.n r pl) x1 (A.n + 1) := o1
  have o1w : FX (bgX x A.n r pl) x1 A.n := ⟨o1n.1, o1n.2.1, o1n.2.2.1, fun k hk => o1n.2.2.2 k (by omega)⟩
  -- an exhausted end
  have hex : ∀ (x2 m2 : jS), FX (bgX x A.n r pl) x2 A.n → x2.1 16 A.n = nI r → x2.1 17 A.n = nI pl → RC x2 m2 → m2.2 4 = 1 → FM m m2 → ∃ x', tX x2 (nI A.n) (-2) = some (-2, x') ∧ ∀ u, OutR x m x' (jis m2 3 (nI A.n)) A nn sz pl (-2) u := by
    intro x2 m2 e1 e2 e3 e4 e5 e6
    obtain ⟨x', t1, t2, t3, t4, t5, t6⟩ := tX_ex (by omega) hr (by omega) hn h23 h24 e1 e2 e3
    refine ⟨x', t1, fun u => ⟨t2, e6, ?_, Or.inl ⟨rfl, e5⟩⟩⟩
    exact ⟨t3.trans e4.1, t4.trans e4.2.1, t5.trans e4.2.2.1, t6.trans e4.2.2.2⟩
  rcases o5 with ⟨hv, hfl⟩ | ⟨o6, o7, B, s, c1, c2, c3, c4⟩
  · subst hv
    obtain ⟨n16, n17, n18⟩ := o1n.2.2.2 A.n (by omega)
    have n16b : x1.1 16 A.n = nI r := n16.trans (upd_self _ _ _)
    have n17b : x1.1 17 A.n = nI pl := n17.trans (upd_self _ _ _)
    have n18b : x1.1 18 A.n = -1 := n18.trans (upd_self _ _ _)
    obtain ⟨x', t1, t2⟩ := hex x1 m1 o1w n16b n17b o3 hfl hFm
    have hx : cX lkx x (nI r) (nI pl) (nI d) v4 = some (-2, x') := by
      rw [eX]
      by_cases hq : x1.1 19 A.n = 0
      · rw [if_pos hq]; exact t1
      · rw [if_neg hq]
        rw [show jFuel = 99999 + 1 from rfl, f_X3_lookForRule_81, if_neg (by decide), jn, cond_false, jag_nI (by omega), n18b, if_pos (by decide), if_pos rfl]
        exact t1
    have hmm : ∃ u, cM lkm m (nI r) (nI pl) (nI d) (nI (41 * r + pl)) = some (u, jis m1 3 (nI A.n)) := by
      rw [eM, eA]
      by_cases hq : m1.1 13 A.n = 0
      · rw [if_pos hq]
        exact ⟨w, sM_ex (by omega) hfl⟩
      · rw [if_neg hq]
        rw [show jFuel = 99999 + 1 from rfl, f_X6_lookRule_265]
        refine ⟨m1.1 12 A.n, ?_⟩
        by_cases hw : w = -1
        · rw [if_pos hw, eT]
          exact sM_ex (by omega) hfl
        · rw [if_neg hw, if_neg (by rw [hfl]; decide), eT]
          exact sM_ex (by omega) hfl
    obtain ⟨u, hu⟩ := hmm
    exact ⟨-2, u, x', _, hx, hu, t2 u⟩
  · subst o7
    have hmid : Mid x x1 m1 A B nn sz r pl := by
      refine ⟨c1, o1w, c2.1, ?_, ?_, c2.pop⟩
      · rw [(c2.2 A.n (by show A.n < A.n + 1; omega)).1]
        exact if_pos rfl
      · rw [(c2.2 A.n (by show A.n < A.n + 1; omega)).2.1]
        exact if_pos rfl
    have hBn : B.n = A.n + 1 := c2.1
    have x19 := (c1.2.2.1.2.2.1 A.n (by omega)).2.2.2.1
    have m13 := (c1.2.2.1.2.2.2 A.n (by omega)).2.2.2.1
    rw [x19] at eX
    rw [m13] at eA
    by_cases hq : B.Q A.n = 0
    · rw [if_pos hq, c3] at eX
      rw [if_pos hq, c3] at eA
      obtain ⟨x2, m2, t1, t2, t3, t4, t5, t6, t7⟩ := finish_sim h0 hfr (by omega) hr hps hmid c4
      refine ⟨_, _, x2, m2, eX.trans t1, (eM.trans (c3 ▸ eA)).trans t2, t3, hFm.trans t4, t5, Or.inr ⟨fun _ => t6, t7⟩⟩
    · rw [if_neg hq, c3] at eX
      rw [if_neg hq, c3] at eA
      obtain ⟨x2, m2, v2, w2, i2, g1, g2, g3, g4⟩ := grow (v4 := v4) (y17 := nI (41 * r + pl)) (Kx := fun s29 y21 y22 y23 y24 y25 y26 y27 y28 =>
        if y27 = (-2) then
          tX s29 y26 (-2)
        else
        bif job y26 101 then none else
        jl (jag s29 18 y26) fun x32 =>
        tX s29 y26 x32) (Km := fun s77 y71 y72 y73 y74 y75 y76 => tM s77 y74 y75) HL hr hps hsz (by omega) hd he hx5 41 0 jFuel jFuel x1 m1 B s rfl (jFuel_gt (by omega)) (jFuel_gt (by omega)) hmid c4 (Nat.zero_le _)
      rcases g4 with ⟨p1, p2, p3, p4, p5, p6⟩ | ⟨p1, B', p2⟩
      · subst p1
        obtain ⟨x', t1, t2⟩ := hex x2 m2 p4 p5 p6 p3 p2 (hFm.trans g3)
        refine ⟨-2, m2.1 12 A.n, x', jis m2 3 (nI A.n), ?_, ?_, t2 _⟩
        · refine eX.trans (g1.trans ?_)
          rw [if_pos rfl]
          exact t1
        · refine (eM.trans (c3 ▸ eA)).trans (g2.trans ?_)
          rw [eT]
          exact sM_ex (by omega) p2
      · have hS' := p2.1
        have hB'n : B'.n = A.n + 1 := p2.2.2.1
        have hb := hS'.2.2.2.2.1.2 A.n (by omega)
        have x18 := (hS'.2.2.1.2.2.1 A.n (by omega)).2.2.1
        have m12 := (hS'.2.2.1.2.2.2 A.n (by omega)).2.2.1
        have hP' : B'.P A.n = pl := p2.2.2.2.2.1
        have hcond : B'.S A.n = 0 ∨ (pl < B'.S A.n ∧ B'.S A.n ≤ sz + 1 ∧ Pl B' (B'.S A.n - 1)) := by
          rcases hb.2.2.2.2.2.2 with e0 | ⟨e1, e2⟩
          · exact Or.inl e0
          · refine Or.inr ⟨by omega, e2, fun k hk => ⟨?_, fun hz => ?_⟩⟩
            · have := hS'.2.2.2.2.2.1 k A.n (by omega) (by omega)
              omega
            · have := ((hS'.2.2.2.2.2.2.2.2.1 k hk hz).1 A.n (by omega) (by omega)).2
              omega
        obtain ⟨x3, m3, t1, t2, t3, t4, t5, t6, t7⟩ := finish_sim h0 hfr (by omega) hr hps p2 hcond
        refine ⟨_, _, x3, m3, ?_, ?_, t3, (hFm.trans g3).trans t4, t5, Or.inr ⟨fun _ => t6, t7⟩⟩
        · refine eX.trans (g1.trans ?_)
          rw [if_neg p1, jn, cond_false, jl_eq, jag_nI (by omega), x18]
          exact t1
        · refine (eM.trans (c3 ▸ eA)).trans (g2.trans ?_)
          rw [eT, m12]
          exact t2
end L2V
