/-! parse: a rule is begun, grows, ends -/
section L2U
def LkOk (lkx lkm : jS → Int32 → Int32 → Int32 → Option (Int32 × jS)) (nn sz d : Nat) : Prop := ∀ (x m : jS) (A : Ab) (e pl : Nat), Sim x m A nn sz → Pl A pl → pl ≤ sz → A.n ≤ d → e < nn → ∃ v w x' m', lkx x (nI e) (nI pl) (nI d) = some (v, x') ∧ lkm m (nI e) (nI pl) (nI d) = some (w, m') ∧ Out x m x' m' A nn sz pl v w
def bgM (m : jS) (n r pl : Nat) : jS := jaf (jaf (jaf (jaf (jaf (jaf (jaf (jis m 3 (nI (n + 1))) 10 (upd (m.1 10) n (nI r))) 11 (upd (m.1 11) n (nI pl))) 12 (upd (m.1 12) n (-1))) 13 (upd (m.1 13) n 0)) 14 (upd (m.1 14) n 0)) 15 (upd (m.1 15) n (nI pl))) 16 (upd (m.1 16) n 0)
theorem Sim.push {x m : jS} {A : Ab} {nn sz r pl : Nat} {f : Nat → Int32} (h : Sim x m A nn sz) (hpl : Pl A pl) (hps : pl ≤ sz) (h100 : A.n ≤ 100) (hr : r < 10) (hfr : ∀ k, k < A.n → ¬ (A.R k = r ∧ A.P k = pl)) (hf : ∀ k, k < A.n + 1 → f k = (A.push r pl).V k) : Sim (bgX x A.n r pl) (jaf (bgM m A.n r pl) 16 f) (A.push r pl) nn sz := by
  obtain ⟨hE, hW, ⟨h1, h2, h3, h4⟩, ⟨hN, hR⟩, hI⟩ := h
  have hsz := hE.2.1.1
  refine ⟨hE, hW, ⟨va_up_self x.2 2 _, va_up_self m.2 3 _, fun k hk => ?_, fun k hk => ?_⟩, ⟨fun r' p' hr' hp' => ?_, fun p' hp' i => ?_⟩, hI.push hpl h100 hr hps hfr⟩
  · have hk2 : k < A.n + 1 := hk
    show (if k = A.n then nI r else x.1 16 k) = nI (if k = A.n then r else A.R k) ∧ (if k = A.n then nI pl else x.1 17 k) = nI (if k = A.n then pl else A.P k) ∧ (if k = A.n then -1 else x.1 18 k) = sI (if k = A.n then 0 else A.S k) ∧ (if k = A.n then 0 else x.1 19 k) = (if k = A.n then 0 else A.Q k) ∧ (if k = A.n then nI pl else x.1 20 k) = nI (if k = A.n then pl else A.W k) ∧ (if k = A.n then bt r else x.1 21 k) = (if k = A.n then bt r else A.Y k) ∧ (if k = A.n then nI A.n else x.1 22 k) = nI (if k = A.n then A.n else A.E k)
    by_cases e : k = A.n
    · simp only [if_pos e]
      exact ⟨trivial, trivial, sI_0.symm, trivial, trivial, trivial, trivial⟩
    · simp only [if_neg e]
      exact h3 k (by omega)
  · have hk2 : k < A.n + 1 := hk
    refine ⟨?_, ?_, ?_, ?_, ?_, ?_, hf k hk⟩
    · show (if k = A.n then nI r else m.1 10 k) = nI (if k = A.n then r else A.R k)
      split
      · rfl
      · exact (h4 k (by omega)).1
    · show (if k = A.n then nI pl else m.1 11 k) = nI (if k = A.n then pl else A.P k)
      split
      · rfl
      · exact (h4 k (by omega)).2.1
    · show (if k = A.n then -1 else m.1 12 k) = sI (if k = A.n then 0 else A.S k)
      split
      · exact sI_0.symm
      · exact (h4 k (by omega)).2.2.1
    · show (if k = A.n then 0 else m.1 13 k) = (if k = A.n then 0 else A.Q k)
      split
      · rfl
      · exact (h4 k (by omega)).2.2.2.1
    · show (if k = A.n then 0 else m.1 14 k) = bI (if k = A.n then false else A.Z k)
      split
      · rfl
      · exact (h4 k (by omega)).2.2.2.2.1
    · show (if k = A.n then nI pl else m.1 15 k) = nI (if k = A.n then pl else A.L k)
      split
      · rfl
      · exact (h4 k (by omega)).2.2.2.2.2.1
  · show (upd (x.1 23) (10 * pl + r) (nI A.n) (10 * p' + r') = -1 ∧ ∀ k, k < A.n + 1 → ¬ ((if k = A.n then r else A.R k) = r' ∧ (if k = A.n then pl else A.P k) = p')) ∨ ∃ k, k < A.n + 1 ∧ (if k = A.n then r else A.R k) = r' ∧ (if k = A.n then pl else A.P k) = p' ∧ upd (x.1 23) (10 * pl + r) (nI A.n) (10 * p' + r') = nI k
    by_cases e : r' = r ∧ p' = pl
    · obtain ⟨rfl, rfl⟩ := e
      exact Or.inr ⟨A.n, by omega, if_pos rfl, if_pos rfl, upd_self _ _ _⟩
    · rw [upd_ne (by omega)]
      rcases hN r' p' hr' hp' with ⟨n1, n2⟩ | ⟨k, n1, n2, n3, n4⟩
      · refine Or.inl ⟨n1, fun k hk => ?_⟩
        by_cases e2 : k = A.n
        · rw [if_pos e2, if_pos e2]
          exact fun h => e ⟨h.1.symm, h.2.symm⟩
        · rw [if_neg e2, if_neg e2]
          exact n2 k (by omega)
      · exact Or.inr ⟨k, by omega, by rw [if_neg (by omega)]; exact n2, by rw [if_neg (by omega)]; exact n3, n4⟩
  · show tb (upd (x.1 24) pl (x.1 24 pl ||| bt r) p') i = true ↔ ∃ k, k < A.n + 1 ∧ (if k = A.n then r else A.R k) = i ∧ (if k = A.n then pl else A.P k) = p'
    have hold := hR p' hp' i
    by_cases e : p' = pl
    · subst e
      rw [upd_self, tb_or, Bool.or_eq_true, hold, tb_bit hr, decide_eq_true_eq]
      constructor
      · rintro (⟨k, a1, a2, a3⟩ | a1)
        · exact ⟨k, by omega, by rw [if_neg (by omega)]; exact a2, by rw [if_neg (by omega)]; exact a3⟩
        · exact ⟨A.n, by omega, by rw [if_pos rfl]; exact a1.symm, if_pos rfl⟩
      · rintro ⟨k, a1, a2, a3⟩
        by_cases e2 : k = A.n
        · rw [if_pos e2] at a2
          exact Or.inr a2.symm
        · rw [if_neg e2] at a2 a3
          exact Or.inl ⟨k, by omega, a2, a3⟩
    · rw [upd_ne e, hold]
      constructor
      · rintro ⟨k, a1, a2, a3⟩
        exact ⟨k, by omega, by rw [if_neg (by omega)]; exact a2, by rw [if_neg (by omega)]; exact a3⟩
      · rintro ⟨k, a1, a2, a3⟩
        by_cases e2 : k = A.n
        · rw [if_pos e2] at a3
          exact absurd a3.symm e
        · rw [if_neg e2] at a2 a3
          exact ⟨k, by omega, a2, a3⟩
/-- the state after the end of n, out of y -/
def pX (y : jS) (n r p : Nat) (g20 g21 g22 : Nat → Int32) : jS := jis (jaf (jaf (jaf (edX y n r p) 20 g20) 21 g21) 22 g22) 7 0
theorem FX.pop {x0 x y : jS} {n r pl : Nat} {g20 g21 g22 : Nat → Int32} (hr : r < 10) (h2 : x0.2 2 = nI n) (h23 : x0.1 23 (10 * pl + r) = -1) (h24 : tb (x0.1 24 pl) r = false) (h : FX (bgX x0 n r pl) x n) (hy2 : y.2 = x.2) (hy : ∀ j, j ≠ 12 → j ≠ 13 → j ≠ 14 → y.1 j = x.1 j) : FX x0 (pX y n r pl g20 g21 g22) n := by
  obtain ⟨⟨a1, a2, a3⟩, ⟨a4, a5, a6, a7, a8⟩, ⟨a9, a10⟩, a11⟩ := h
  have y2 : (pX y n r pl g20 g21 g22).1 2 = x.1 2 := hy 2 (by decide) (by decide) (by decide)
  have y3 : (pX y n r pl g20 g21 g22).1 3 = x.1 3 := hy 3 (by decide) (by decide) (by decide)
  have y4 : (pX y n r pl g20 g21 g22).1 4 = x.1 4 := hy 4 (by decide) (by decide) (by decide)
  have y5 : (pX y n r pl g20 g21 g22).1 5 = x.1 5 := hy 5 (by decide) (by decide) (by decide)
  have y10 : (pX y n r pl g20 g21 g22).1 10 = x.1 10 := hy 10 (by decide) (by decide) (by decide)
  have y16 : (pX y n r pl g20 g21 g22).1 16 = x.1 16 := hy 16 (by decide) (by decide) (by decide)
  have y17 : (pX y n r pl g20 g21 g22).1 17 = x.1 17 := hy 17 (by decide) (by decide) (by decide)
  have y18 : (pX y n r pl g20 g21 g22).1 18 = x.1 18 := hy 18 (by decide) (by decide) (by decide)
  have z0 : (pX y n r pl g20 g21 g22).2 0 = x.2 0 := congrFun hy2 0
  have z1 : (pX y n r pl g20 g21 g22).2 1 = x.2 1 := congrFun hy2 1
  refine ⟨⟨z0.trans a1, z1.trans a2, h2.symm⟩, ⟨y2.trans a4, y3.trans a5, y4.trans a6, y5.trans a7, y10.trans a8⟩, ⟨?_, ?_⟩, fun k hk => ⟨?_, ?_, ?_⟩⟩
  · show upd (y.1 23) (10 * pl + r) (-1) = x0.1 23
    rw [hy 23 (by decide) (by decide) (by decide), a9]
    show upd (upd (x0.1 23) (10 * pl + r) (nI n)) (10 * pl + r) (-1) = x0.1 23
    funext j
    by_cases e : j = 10 * pl + r
    · rw [e, upd_self, h23]
    · rw [upd_ne e, upd_ne e]
  · show upd (y.1 24) pl (y.1 24 pl &&& (bt r ^^^ (-1))) = x0.1 24
    rw [hy 24 (by decide) (by decide) (by decide), a10]
    show upd (upd (x0.1 24) pl (x0.1 24 pl ||| bt r)) pl (upd (x0.1 24) pl (x0.1 24 pl ||| bt r) pl &&& (bt r ^^^ (-1))) = x0.1 24
    funext j
    by_cases e : j = pl
    · rw [e, upd_self, upd_self]
      refine tb_ext fun i hi => ?_
      rw [tb_and, tb_or, tb_xor1 _ i hi, tb_bit hr]
      by_cases e2 : i = r
      · rw [e2, h24]; simp
      · simp [e2]
    · rw [upd_ne e, upd_ne e]
  · rw [y16, (a11 k hk).1]
    exact upd_ne (by omega)
  · rw [y17, (a11 k hk).2.1]
    exact upd_ne (by omega)
  · rw [y18, (a11 k hk).2.2]
    exact upd_ne (by omega)
theorem Ext.pop {A B : Ab} {r pl : Nat} (h : Ext (A.push r pl) B) : Ext A B.pop := by
  have hn : B.n = A.n + 1 := h.1
  refine ⟨by show B.n - 1 = A.n; omega, fun k hk => ?_⟩
  have h1 := h.2 k (by show k < A.n + 1; omega)
  have hne : ¬ k = A.n := by omega
  obtain ⟨b1, b2, b3, b4⟩ := h1
  have c1 : (A.push r pl).R k = A.R k := if_neg hne
  have c2 : (A.push r pl).P k = A.P k := if_neg hne
  have c3 : (A.push r pl).S k = A.S k := if_neg hne
  have c4 : (A.push r pl).Z k = A.Z k := if_neg hne
  have c5 : (A.push r pl).L k = A.L k := if_neg hne
  rw [c1] at b1
  rw [c2] at b2
  rw [c3] at b3
  rw [c4, c5] at b4
  exact ⟨b1, b2, b3, b4⟩
/-- what holds while n is in progress above A -/
def Mid (x0 x m : jS) (A B : Ab) (nn sz r pl : Nat) : Prop := Sim x m B nn sz ∧ FX (bgX x0 A.n r pl) x A.n ∧ B.n = A.n + 1 ∧ B.R A.n = r ∧ B.P A.n = pl ∧ Ext A B.pop
theorem Mid.go {x0 x m y w : jS} {A B C : Ab} {nn sz r pl : Nat} (h : Mid x0 x m A B nn sz r pl) (hs : Sim y w C nn sz) (hf : FX x y B.n) (he : Ext B C) : Mid x0 y w A C nn sz r pl := by
  obtain ⟨h1, h2, h3, h4, h5, h6⟩ := h
  have hf2 : FX x y A.n := ⟨hf.1, hf.2.1, hf.2.2.1, fun k hk => hf.2.2.2 k (by omega)⟩
  refine ⟨hs, h2.trans hf2, he.1.trans h3, (he.2 A.n (by omega)).1.trans h4, (he.2 A.n (by omega)).2.1.trans h5, ?_⟩
  refine ⟨by show C.n - 1 = A.n; rw [he.1]; omega, fun k hk => ?_⟩
  obtain ⟨b1, b2, b3, b4⟩ := h6.2 k hk
  obtain ⟨c1, c2, c3, c4⟩ := he.2 k (by omega)
  exact ⟨c1.trans b1, c2.trans b2, c3.trans b3, fun hz => ⟨(b4 (c4 hz).1).1, Nat.le_trans (b4 (c4 hz).1).2 (c4 hz).2⟩⟩
theorem Sim.pop {x m m' y : jS} {B : Ab} {nn sz n r pl : Nat} {g20 g21 g22 : Nat → Int32} (h : Sim x m B nn sz) (hn : B.n = n + 1) (hp : B.P n = pl) (hy2 : y.2 = x.2) (hy : ∀ j, j ≠ 12 → j ≠ 13 → j ≠ 14 → y.1 j = x.1 j) (hm2 : ∀ j, j ≠ 3 → m'.2 j = m.2 j) (hm3 : m'.2 3 = nI n) (hm : ∀ j, j ≠ 6 → j ≠ 7 → j ≠ 8 → j ≠ 9 → m'.1 j = m.1 j) (hMe : RMe y m' sz) (hN : NB (pX y n r pl g20 g21 g22) B.pop) (hR : RA (pX y n r pl g20 g21 g22) B.pop) (hg : ∀ k, k < n → g20 k = (if k + 1 = n then (if y.1 20 k < y.1 20 n then y.1 20 n else y.1 20 k) else y.1 20 k) ∧ g21 k = (if k + 1 = n ∧ y.1 17 k = nI pl then y.1 21 k ||| y.1 21 n else y.1 21 k) ∧ g22 k = (if k + 1 = n then (if y.1 22 n < y.1 22 k then y.1 22 n else y.1 22 k) else y.1 22 k)) : Sim (pX y n r pl g20 g21 g22) m' B.pop nn sz := by
  obtain ⟨⟨hG, hT, hM, hC⟩, ⟨⟨w, hw1, hw2⟩, hf⟩, ⟨h1, h2, h3, h4⟩, _, hI⟩ := h
  have hsz := hT.1
  have y2 : (pX y n r pl g20 g21 g22).1 2 = x.1 2 := hy 2 (by decide) (by decide) (by decide)
  have y3 : (pX y n r pl g20 g21 g22).1 3 = x.1 3 := hy 3 (by decide) (by decide) (by decide)
  have y4 : (pX y n r pl g20 g21 g22).1 4 = x.1 4 := hy 4 (by decide) (by decide) (by decide)
  have y5 : (pX y n r pl g20 g21 g22).1 5 = x.1 5 := hy 5 (by decide) (by decide) (by decide)
  have y10 : (pX y n r pl g20 g21 g22).1 10 = x.1 10 := hy 10 (by decide) (by decide) (by decide)
  have z0 : (pX y n r pl g20 g21 g22).2 0 = x.2 0 := congrFun hy2 0
  have z1 : (pX y n r pl g20 g21 g22).2 1 = x.2 1 := congrFun hy2 1
  have z3 : (pX y n r pl g20 g21 g22).2 3 = x.2 3 := congrFun hy2 3
  have z4 : (pX y n r pl g20 g21 g22).2 4 = x.2 4 := congrFun hy2 4
  have z5 : (pX y n r pl g20 g21 g22).2 5 = x.2 5 := congrFun hy2 5
  have z6 : (pX y n r pl g20 g21 g22).2 6 = x.2 6 := congrFun hy2 6
  have m1 := hm 1 (by decide) (by decide) (by decide) (by decide)
  have m2 := hm 2 (by decide) (by decide) (by decide) (by decide)
  have m3 := hm 3 (by decide) (by decide) (by decide) (by decide)
  have m4 := hm 4 (by decide) (by decide) (by decide) (by decide)
  have m5 := hm 5 (by decide) (by decide) (by decide) (by decide)
  refine ⟨⟨?_, ?_, hMe, ?_⟩, ⟨⟨w, hw1, z3.trans hw2⟩, (hm2 4 (by decide)).trans hf⟩, ⟨?_, ?_, fun k hk => ?_, fun k hk => ?_⟩, ⟨hN, hR⟩, hI.pop⟩
  · unfold RG RE at hG ⊢
    rw [y2, y3, y4, y5, z0, hm2 1 (by decide), m1, m2, m3, m4]
    exact hG
  · unfold RT at hT ⊢
    rw [y10, z1, hm2 2 (by decide), m5]
    exact hT
  · unfold RC at hC ⊢
    rw [z3, z4, z5, z6, hm2 6 (by decide), hm2 7 (by decide), hm2 8 (by decide), hm2 9 (by decide)]
    exact hC
  · show nI n = nI (B.n - 1)
    rw [hn]; rfl
  · rw [hm3]
    show nI n = nI (B.n - 1)
    rw [hn]; rfl
  · have hk2 : k < B.n - 1 := hk
    obtain ⟨g1, g2, g3⟩ := hg k (by omega)
    obtain ⟨a1, a2, a3, a4, a5, a6, a7⟩ := h3 k (by omega)
    obtain ⟨b1, b2, b3, b4, b5, b6, b7⟩ := h3 n (by omega)
    have i1 := hI.1.2 k (by omega)
    have i2 := hI.1.2 n (by omega)
    rw [hy 20 (by decide) (by decide) (by decide), a5, b5] at g1
    rw [hy 17 (by decide) (by decide) (by decide), hy 21 (by decide) (by decide) (by decide), a2, a6, b6] at g2
    rw [hy 22 (by decide) (by decide) (by decide), a7, b7] at g3
    refine ⟨?_, ?_, ?_, ?_, ?_, ?_, ?_⟩
    · exact (congrFun (hy 16 (by decide) (by decide) (by decide)) k).trans a1
    · exact (congrFun (hy 17 (by decide) (by decide) (by decide)) k).trans a2
    · exact (congrFun (hy 18 (by decide) (by decide) (by decide)) k).trans a3
    · exact (congrFun (hy 19 (by decide) (by decide) (by decide)) k).trans a4
    · show g20 k = nI (if k + 2 = B.n then max (B.W k) (B.W (k + 1)) else B.W k)
      rw [g1]
      by_cases e : k + 1 = n
      · rw [if_pos e, if_pos (show k + 2 = B.n by omega), e]
        exact maxI (by omega) (by omega)
      · rw [if_neg e, if_neg (show ¬ k + 2 = B.n by omega)]
    · show g21 k = if k + 2 = B.n ∧ B.P k = B.P (k + 1) then B.Y k ||| B.Y (k + 1) else B.Y k
      rw [g2]
      by_cases e : k + 1 = n
      · by_cases e2 : B.P k = pl
        · rw [if_pos ⟨e, by rw [e2]⟩, if_pos ⟨by omega, by rw [e, hp, e2]⟩, e]
        · rw [if_neg (fun h => e2 (nI_inj (by omega) (by omega) h.2)), if_neg (fun h => e2 (by rw [h.2, e, hp]))]
      · rw [if_neg (fun h => e h.1), if_neg (fun h => e (by omega))]
    · show g22 k = nI (if k + 2 = B.n then min (B.E k) (B.E (k + 1)) else B.E k)
      rw [g3]
      by_cases e : k + 1 = n
      · rw [if_pos e, if_pos (show k + 2 = B.n by omega), e]
        exact minI (by omega) (by omega)
      · rw [if_neg e, if_neg (show ¬ k + 2 = B.n by omega)]
  · have hk2 : k < B.n - 1 := hk
    obtain ⟨a1, a2, a3, a4, a5, a6, a7⟩ := h4 k (by omega)
    refine ⟨?_, ?_, ?_, ?_, ?_, ?_, ?_⟩
    · rw [hm 10 (by decide) (by decide) (by decide) (by decide)]; exact a1
    · rw [hm 11 (by decide) (by decide) (by decide) (by decide)]; exact a2
    · rw [hm 12 (by decide) (by decide) (by decide) (by decide)]; exact a3
    · rw [hm 13 (by decide) (by decide) (by decide) (by decide)]; exact a4
    · rw [hm 14 (by decide) (by decide) (by decide) (by decide)]; exact a5
    · rw [hm 15 (by decide) (by decide) (by decide) (by decide)]; exact a6
    · rw [hm 16 (by decide) (by decide) (by decide) (by decide)]; exact a7
def ptX (x : jS) (c : Nat) (a b d : Int32) : jS := jaf (jaf (jaf x 12 (upd (x.1 12) c a)) 13 (upd (x.1 13) c b)) 14 (upd (x.1 14) c d)
theorem put_ex {x : jS} {c : Nat} {a b d : Int32} (h : c < 410) : f_X1_put x (nI c) a b d = some (ptX x c a b d) := by
  unfold f_X1_put
  simp only [jl]
  rw [job_nI h (by omega), jas_nI (by omega), jas_nI (by omega), jas_nI (by omega)]
  rfl
def sM (x20 y17 v : Int32) (s : jS) : Option (Int32 × jS) :=
  jl (jis s 3 x20) fun s41 =>
  bif job x20 102 then none else
  if (jag s41 14 x20) = 0 then
    if (s41.2 4) = 0 then
      bif job y17 410 then none else
      jl (jas s41 6 y17 (vp_nar .boolean 1)) fun s46 =>
      bif job y17 410 then none else
      jl (jas s46 7 y17 v) fun s48 =>
      bif job x20 102 then none else
      bif job y17 410 then none else
      jl (jas s48 8 y17 (jag s48 15 x20)) fun s51 =>
      bif job x20 102 then none else
      bif job y17 410 then none else
      jl (jas s51 9 y17 (jag s51 16 x20)) fun s54 =>
      some (v, s54)
    else
    some (v, s41)
  else
  some (v, s41)
def stM (m : jS) (n c : Nat) (v : Int32) : jS := jaf (jaf (jaf (jaf (jis m 3 (nI n)) 6 (upd (m.1 6) c 1)) 7 (upd (m.1 7) c v)) 8 (upd (m.1 8) c (m.1 15 n))) 9 (upd (m.1 9) c (m.1 16 n))
theorem sM_store {m : jS} {n c : Nat} {v : Int32} (hn : n ≤ 100) (hc : c < 410) (hz : m.1 14 n = 0) (hf : m.2 4 = 0) : sM (nI n) (nI c) v m = some (v, stM m n c v) := by
  unfold sM
  rw [jl_eq, job_nI (by omega) (by omega), cond_false, jag_nI (by omega), if_pos (show (jis m 3 (nI n)).1 14 n = 0 from hz), if_pos (show (jis m 3 (nI n)).2 4 = 0 from hf), job_nI (by omega) (by omega)]
  simp only [jl, cond_false, jas, nI_clamp (show c < 2 ^ 31 by omega), jag_nI (show n < 2 ^ 31 by omega), nar1]
  rfl
theorem sM_lean {m : jS} {n : Nat} {c v : Int32} (hn : n ≤ 100) (hz : ¬ m.1 14 n = 0) : sM (nI n) c v m = some (v, jis m 3 (nI n)) := by
  unfold sM
  rw [jl_eq, job_nI (by omega) (by omega), cond_false, jag_nI (by omega), if_neg (show ¬ (jis m 3 (nI n)).1 14 n = 0 from hz)]
theorem sM_ex {m : jS} {n : Nat} {c v : Int32} (hn : n ≤ 100) (hf : m.2 4 = 1) : sM (nI n) c v m = some (v, jis m 3 (nI n)) := by
  by_cases hz : m.1 14 n = 0
  · unfold sM
    rw [jl_eq, job_nI (by omega) (by omega), cond_false, jag_nI (by omega), if_pos (show (jis m 3 (nI n)).1 14 n = 0 from hz), if_neg (show ¬ (jis m 3 (nI n)).2 4 = 0 by show ¬ m.2 4 = 0; rw [hf]; decide)]
  · exact sM_lean hn hz
def tX (x : jS) (n v : Int32) : Option (Int32 × jS) :=
  (f_X3_finish x n v).bind fun r11 =>
  jl (jis r11 7 0) fun s12 =>
  some (v, s12)
theorem tX_ex {x0 x : jS} {n r pl : Nat} (hn : n ≤ 100) (hr : r < 10) (hp : pl ≤ 40) (h2 : x0.2 2 = nI n) (h23 : x0.1 23 (10 * pl + r) = -1) (h24 : tb (x0.1 24 pl) r = false) (h : FX (bgX x0 n r pl) x n) (h16 : x.1 16 n = nI r) (h17 : x.1 17 n = nI pl) : ∃ x', tX x (nI n) (-2) = some (-2, x') ∧ FX x0 x' n ∧ x'.2 3 = x.2 3 ∧ x'.2 4 = x.2 4 ∧ x'.2 5 = x.2 5 ∧ x'.2 6 = x.2 6 := by
  obtain ⟨g20, g21, g22, e1, _⟩ := end_eq (x := x) (n := n) (r := r) (p := pl) h.1.2.2 hn h16 h17 hr hp
  refine ⟨pX x n r pl g20 g21 g22, ?_, FX.pop hr h2 h23 h24 h rfl (fun _ _ _ _ => rfl), rfl, rfl, rfl, rfl⟩
  unfold tX
  rw [f_X3_finish, if_pos rfl, e1, Option.bind_some, Option.bind_some, jl_eq]
  rfl
/-- the end of a rule in progress, with a result -/
theorem finish_sim {x0 m0 x m : jS} {A B : Ab} {nn sz r pl s : Nat} (h0 : Sim x0 m0 A nn sz) (hfr : ∀ k, k < A.n → ¬ (A.R k = r ∧ A.P k = pl)) (h100 : A.n ≤ 100) (hr : r < 10) (hps : pl ≤ sz) (hm : Mid x0 x m A B nn sz r pl) (hs : s = 0 ∨ (pl < s ∧ s ≤ sz + 1 ∧ Pl B (s - 1))) : ∃ x2 m2, tX x (nI A.n) (sI s) = some (sI s, x2) ∧ sM (nI A.n) (nI (41 * r + pl)) (sI s) m = some (sI s, m2) ∧ FX x0 x2 A.n ∧ FM m m2 ∧ RC x2 m2 ∧ x2.2 7 = 0 ∧ Good x2 m2 A nn sz pl (sI s) (sI s) := by
  obtain ⟨hS, hF, hn, hR, hP, hE⟩ := hm
  have hS0 := id hS
  obtain ⟨⟨hG, hT, hM, hC⟩, ⟨hW, hf⟩, ⟨h1, h2, h3, h4⟩, _, hI⟩ := hS
  obtain ⟨⟨_, _, _, _⟩, _, ⟨p1, _, _, _⟩, ⟨hN0, hR0⟩, _⟩ := h0
  have hsz := hT.1
  obtain ⟨a1, a2, a3, a4, a5, a6, a7⟩ := h3 A.n (by omega)
  obtain ⟨b1, b2, b3, b4, b5, b6, b7⟩ := h4 A.n (by omega)
  have hb := hI.1.2 A.n (by omega)
  rw [hR] at a1
  rw [hP] at a2
  have h23 : x0.1 23 (10 * pl + r) = -1 := by
    rcases hN0 r pl hr (by omega) with h | ⟨k, k1, k2, k3, k4⟩
    · exact h.1
    · exact absurd ⟨k2, k3⟩ (hfr k k1)
  have h24 : tb (x0.1 24 pl) r = false := by
    cases hq : tb (x0.1 24 pl) r with
    | false => rfl
    | true =>
      obtain ⟨k, k1, k2, k3⟩ := (hR0 pl (by omega) r).mp hq
      exact absurd ⟨k2, k3⟩ (hfr k k1)
  have hs31 : s < 2 ^ 31 := by omega
  have hgood : ∀ (x2 m2 : jS), Sim x2 m2 B.pop nn sz → Good x2 m2 A nn sz pl (sI s) (sI s) := by
    intro x2 m2 hs2
    refine ⟨rfl, B.pop, s, hs2, hE, rfl, ?_⟩
    rcases hs with hs | ⟨s1, s2, s3⟩
    · exact Or.inl hs
    · refine Or.inr ⟨s1, s2, fun k hk => ?_⟩
      have hk2 : k < B.n - 1 := hk
      exact s3 k (by omega)
  have hIE := hI.2.2.2.1 A.n (by omega)
  by_cases hz : B.Z A.n = false
  · -- it is remembered
    have he : ¬ B.E A.n < A.n := fun h => by
      have := hIE.mpr ⟨A.n, Nat.le_refl _, by omega, h⟩
      rw [hz] at this
      cases this
    have hz0 : m.1 14 A.n = 0 := by rw [b5, hz]; rfl
    have hWL : B.W A.n = B.L A.n := by
      obtain ⟨_, j, j1, j2, j3⟩ := hI.2.2.2.2.1 A.n (by omega) hz
      have : j = A.n := by omega
      rw [← j3, this]
    have hYV : B.Y A.n = B.V A.n := by
      refine tb_ext fun i _ => ?_
      have h5 := hI.2.2.2.2.2 A.n (by omega) i
      have h6 : tb (B.V A.n) i = true ↔ tb (B.Y A.n) i = true := by
        rw [h5]
        constructor
        · rintro ⟨j, j1, j2, j3, j4⟩
          have : j = A.n := by omega
          rw [← this]; exact j4
        · intro h7
          exact ⟨A.n, Nat.le_refl _, by omega, rfl, h7⟩
      cases hv : tb (B.V A.n) i with
      | true => rw [h6.mp hv]
      | false =>
        cases hy : tb (B.Y A.n) i with
        | true => rw [h6.mpr hy] at hv; cases hv
        | false => rfl
    obtain ⟨g20, g21, g22, e1, e2⟩ := end_eq (x := ptX x (10 * pl + r) (sI s) (x.1 20 A.n) (x.1 21 A.n)) (n := A.n) (r := r) (p := pl) (by show x.2 2 = _; rw [h1, hn]) h100 a1 a2 hr (by omega)
    have hfx := FX.pop (y := ptX x (10 * pl + r) (sI s) (x.1 20 A.n) (x.1 21 A.n)) (g20 := g20) (g21 := g21) (g22 := g22) hr p1 h23 h24 hF rfl (fun j j12 j13 j14 => by
      show va_up (va_up (va_up x.1 12 _) 13 _) 14 _ j = _
      rw [va_up_ne _ _ j14, va_up_ne _ _ j13, va_up_ne _ _ j12])
    have hMe : RMe (ptX x (10 * pl + r) (sI s) (x.1 20 A.n) (x.1 21 A.n)) (stM m A.n (41 * r + pl) (sI s)) sz := by
      intro r' p' hr' hp'
      by_cases e : r' = r ∧ p' = pl
      · obtain ⟨rfl, rfl⟩ := e
        refine Or.inr ⟨upd_self _ _ _, hps, (upd_self _ _ _).trans (upd_self _ _ _).symm, ?_, ?_, B.L A.n, ?_, by omega, by omega, ?_⟩
        · refine (upd_self _ _ _).trans (Eq.trans ?_ (upd_self _ _ _).symm)
          rw [a5, b6, hWL]
        · refine (upd_self _ _ _).trans (Eq.trans ?_ (upd_self _ _ _).symm)
          rw [a6, b7, hYV]
        · exact (upd_self _ _ _).trans b6
        · have e7 : (stM m A.n (41 * r' + p') (sI s)).1 7 (41 * r' + p') = sI s := upd_self _ _ _
          rw [e7]
          rcases sI_cases s with ⟨_, h6⟩ | ⟨q, h5, h6⟩
          · exact Or.inl h6
          · rcases hs with hs | ⟨s1, s2, s3⟩
            · omega
            · have := (s3 A.n (by omega)).2 hz
              exact Or.inr ⟨q, h6, by omega, by omega, by omega⟩
      · have n1 : 10 * p' + r' ≠ 10 * pl + r := by omega
        have n2 : 41 * r' + p' ≠ 41 * r + pl := by omega
        have c1 : (ptX x (10 * pl + r) (sI s) (x.1 20 A.n) (x.1 21 A.n)).1 12 (10 * p' + r') = x.1 12 (10 * p' + r') := upd_ne n1
        have c2 : (ptX x (10 * pl + r) (sI s) (x.1 20 A.n) (x.1 21 A.n)).1 13 (10 * p' + r') = x.1 13 (10 * p' + r') := upd_ne n1
        have c3 : (ptX x (10 * pl + r) (sI s) (x.1 20 A.n) (x.1 21 A.n)).1 14 (10 * p' + r') = x.1 14 (10 * p' + r') := upd_ne n1
        have d1 : (stM m A.n (41 * r + pl) (sI s)).1 6 (41 * r' + p') = m.1 6 (41 * r' + p') := upd_ne n2
        have d2 : (stM m A.n (41 * r + pl) (sI s)).1 7 (41 * r' + p') = m.1 7 (41 * r' + p') := upd_ne n2
        have d3 : (stM m A.n (41 * r + pl) (sI s)).1 8 (41 * r' + p') = m.1 8 (41 * r' + p') := upd_ne n2
        have d4 : (stM m A.n (41 * r + pl) (sI s)).1 9 (41 * r' + p') = m.1 9 (41 * r' + p') := upd_ne n2
        unfold RU RK
        rw [c1, c2, c3, d1, d2, d3, d4]
        exact hM r' p' hr' hp'
    have hy : ∀ j, j ≠ 12 → j ≠ 13 → j ≠ 14 → (ptX x (10 * pl + r) (sI s) (x.1 20 A.n) (x.1 21 A.n)).1 j = x.1 j := fun j j12 j13 j14 => by
      show va_up (va_up (va_up x.1 12 _) 13 _) 14 _ j = _
      rw [va_up_ne _ _ j14, va_up_ne _ _ j13, va_up_ne _ _ j12]
    have hs2 : Sim (pX (ptX x (10 * pl + r) (sI s) (x.1 20 A.n) (x.1 21 A.n)) A.n r pl g20 g21 g22) (stM m A.n (41 * r + pl) (sI s)) B.pop nn sz := hS0.pop hn hP rfl hy (fun j j3 => va_up_ne _ _ j3) (va_up_self m.2 3 _) (fun j j6 j7 j8 j9 => by
      show va_up (va_up (va_up (va_up m.1 6 _) 7 _) 8 _) 9 _ j = _
      rw [va_up_ne _ _ j9, va_up_ne _ _ j8, va_up_ne _ _ j7, va_up_ne _ _ j6]) hMe (hN0.fr hfx hE) (hR0.fr hfx hE) e2
    refine ⟨_, _, ?_, sM_store h100 (by omega) hz0 hf, hfx, ⟨⟨rfl, rfl, rfl⟩, rfl, rfl, rfl, rfl, rfl⟩, hC, rfl, hgood _ _ hs2⟩
    unfold tX
    have e22 : jag x 22 (nI A.n) = nI (B.E A.n) := (jag_nI (by omega)).trans a7
    rw [f_X3_finish, if_neg (sI_m2 hs31), f_X2_askedEarlierOne, job_nI (by omega) (by omega), cond_false, e22, if_pos (show nI (B.E A.n) ≥ nI A.n from nI_le (by omega) (by omega)), Option.bind_some, if_pos rfl, cond_false, cond_false, jag_nI (by omega), jag_nI (by omega), a1, a2, cell_eq, Option.bind_some, cond_false, cond_false, jag_nI (by omega), jag_nI (by omega), put_ex (by omega), Option.bind_some, e1, Option.bind_some, Option.bind_some, jl_eq]
    rfl
  · -- it is not
    have hz1 : B.Z A.n = true := by
      cases hq : B.Z A.n with
      | true => rfl
      | false => exact absurd hq hz
    have he : B.E A.n < A.n := by
      obtain ⟨j, j1, j2, j3⟩ := hIE.mp hz1
      have : j = A.n := by omega
      rw [← this]
      rw [this] at j3
      rw [this]; exact j3
    have hz0 : ¬ m.1 14 A.n = 0 := by rw [b5, hz1]; decide
    obtain ⟨g20, g21, g22, e1, e2⟩ := end_eq (x := x) (n := A.n) (r := r) (p := pl) (by rw [h1, hn]) h100 a1 a2 hr (by omega)
    have hfx := FX.pop (y := x) (g20 := g20) (g21 := g21) (g22 := g22) hr p1 h23 h24 hF rfl (fun _ _ _ _ => rfl)
    have hs2 : Sim (pX x A.n r pl g20 g21 g22) (jis m 3 (nI A.n)) B.pop nn sz := hS0.pop hn hP rfl (fun _ _ _ _ => rfl) (fun j j3 => va_up_ne _ _ j3) (va_up_self m.2 3 _) (fun _ _ _ _ _ => rfl) hM (hN0.fr hfx hE) (hR0.fr hfx hE) e2
    refine ⟨_, _, ?_, sM_lean h100 hz0, hfx, ⟨⟨rfl, rfl, rfl⟩, rfl, rfl, rfl, rfl, rfl⟩, hC, rfl, hgood _ _ hs2⟩
    unfold tX
    have e22 : jag x 22 (nI A.n) = nI (B.E A.n) := (jag_nI (by omega)).trans a7
    rw [f_X3_finish, if_neg (sI_m2 hs31), f_X2_askedEarlierOne, job_nI (by omega) (by omega), cond_false, e22, if_neg (show ¬ nI (B.E A.n) ≥ nI A.n from nI_ge he (by omega)), Option.bind_some, if_neg (show ¬ (1 : Int32) = 0 by decide), e1, Option.bind_some, Option.bind_some, jl_eq]
    rfl
end L2U
