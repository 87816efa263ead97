/-! canBeEmpty: the reference's rounds; beginnings -/
section L2Fb
theorem loopM31 {x0 m0 : jS} {n : Nat} {R : Nat → Bool} (hG : RG x0 m0 n) {K : jS → Int32 → Int32 → Option jS} {v1 : Int32} : ∀ (d k N : Nat) (x : jS), k + d = n → d < N → Sm m0 x → (∀ r, r < 10 → x.1 17 r = bI (R r)) → (∀ e, e < k → x.1 18 e = bI (eTab m0 R n e)) → ∃ x', f_X6_findForms_31 K N x v1 (nI k) = K x' v1 (nI n) ∧ Sm m0 x' ∧ (∀ r, r < 10 → x'.1 17 r = bI (R r)) ∧ ∀ e, e < n → x'.1 18 e = bI (eTab m0 R n e) := by
  have hn := hG.1
  intro d
  induction d with
  | zero =>
    intro k N x hk hN hs h7 h6
    obtain ⟨N, rfl⟩ : ∃ z, N = z + 1 := ⟨N - 1, by omega⟩
    have : k = n := by omega
    subst this
    refine ⟨x, ?_, hs, h7, h6⟩
    rw [f_X6_findForms_31, if_pos (show nI k ≥ x.2 1 from by rw [hs.1, hG.2.2.1]; exact Int32.le_refl _)]
  | succ d ih =>
    intro k N x hk hN hs h7 h6
    obtain ⟨N, rfl⟩ : ∃ z, N = z + 1 := ⟨N - 1, by omega⟩
    have e1 := emptyM hG hs h7 (show k < n by omega) h6
    rw [eTab_fix hG (by omega)] at e1
    obtain ⟨x', g1, g2, g3, g4⟩ := ih (k + 1) N (jaf x 18 (upd (x.1 18) k (bI (eTab m0 R n k)))) (by omega) (by omega) (hs.set (by omega)) h7 (by
      intro e he
      show upd (x.1 18) k _ e = _
      by_cases h : e = k
      · subst h; exact upd_self _ _ _
      · rw [upd_ne h]; exact h6 e (by omega))
    refine ⟨x', ?_, g2, g3, g4⟩
    rw [f_X6_findForms_31, if_neg (show ¬ nI k ≥ x.2 1 from by rw [hs.1, hG.2.2.1]; exact nI_ge (by omega) (by omega)), e1]
    simp only [Option.bind_some, jl, job_nI (show k < 80 by omega) (by omega), cond_false, bI_nar]
    rw [nI_1, jas_nI (by omega), g1]
theorem loopM58 {x0 m0 : jS} {n : Nat} {T : Nat → Bool} (hG : RG x0 m0 n) {K : jS → Int32 → Int32 → Option jS} {v1 : Int32} : ∀ (d k N : Nat) (x : jS), k + d = 10 → d < N → Sm m0 x → (∀ e, e < n → x.1 18 e = bI (T e)) → (∀ r, r < k → x.1 17 r = bI (rStep m0 T r)) → ∃ x', f_X6_findForms_58 K N x v1 (nI k) = K x' v1 (nI 10) ∧ Sm m0 x' ∧ (∀ e, e < n → x'.1 18 e = bI (T e)) ∧ ∀ r, r < 10 → x'.1 17 r = bI (rStep m0 T r) := by
  have hn := hG.1
  intro d
  induction d with
  | zero =>
    intro k N x hk hN hs h6 h7
    obtain ⟨N, rfl⟩ : ∃ z, N = z + 1 := ⟨N - 1, by omega⟩
    have : k = 10 := by omega
    subst this
    refine ⟨x, ?_, hs, h6, h7⟩
    rw [f_X6_findForms_58, if_pos (show nI 10 ≥ 10 from by decide)]
  | succ d ih =>
    intro k N x hk hN hs h6 h7
    obtain ⟨N, rfl⟩ : ∃ z, N = z + 1 := ⟨N - 1, by omega⟩
    have j10 : job (nI k) 10 = false := job_nI (by omega) (by omega)
    obtain ⟨r1, r2⟩ := hG.2.2.2.2 k (by omega)
    rw [r1] at r2
    have g5 : jag x 4 (nI k) = m0.1 4 k := by rw [jag_nI (by omega), hs.2 4 (by decide) (by decide) (by decide)]
    have go : f_X6_findForms_58 K (N + 1) x v1 (nI k) = f_X6_findForms_58 K N (jaf x 17 (upd (x.1 17) k (bI (rStep m0 T k)))) v1 (nI (k + 1)) := by
      rw [f_X6_findForms_58, if_neg (show ¬ nI k ≥ 10 from nI_ge (b := 10) (by omega) (by omega))]
      simp only [jl, j10, cond_false, g5, nI_1, nar0, nar1]
      rw [jas_nI (show k < 2 ^ 31 by omega), jas_nI (show k < 2 ^ 31 by omega)]
      rcases r2 with r2 | ⟨e, he, r2⟩
      · rw [if_pos r2]
        have : rStep m0 T k = false := if_pos (Or.inl r2)
        rw [this]; rfl
      · have hst : rStep m0 T k = T e := by
          unfold rStep
          rw [if_neg (by rw [r2]; intro h; rcases h with h | h; exact nI_m1 (by omega) h; omega), r2, nI_clamp (by omega)]
        rw [r2, if_neg (nI_m1 (by omega)), job_nI (show e < 80 by omega) (by omega), jag_nI (by omega), h6 e he, hst]
        cases T e
        · rw [if_pos (by decide)]; rfl
        · rw [if_neg (by decide)]; rfl
    obtain ⟨x', a1, a2, a3, a4⟩ := ih (k + 1) N (jaf x 17 (upd (x.1 17) k (bI (rStep m0 T k)))) (by omega) (by omega) (hs.set (by omega)) h6 (fun r hr => by
      show upd (x.1 17) k _ r = _
      by_cases h : r = k
      · subst h; exact upd_self _ _ _
      · rw [upd_ne h]; exact h7 r (by omega))
    exact ⟨x', go.trans a1, a2, a3, a4⟩
theorem loopM23 {x0 m0 : jS} {n : Nat} (hG : RG x0 m0 n) {K : jS → Int32 → Option jS} : ∀ (d i N : Nat) (x : jS), i + d = 11 → d < N → Sm m0 x → (∀ r, r < 10 → x.1 17 r = bI (rIt m0 n i r)) → (i = 11 → ∀ e, e < n → x.1 18 e = bI (eTab m0 (rIt m0 n 10) n e)) → ∃ x', f_X6_findForms_23 K N x (nI i) = K x' (nI 11) ∧ Sm m0 x' ∧ ∀ e, e < n → x'.1 18 e = bI (eTab m0 (rIt m0 n 10) n e) := by
  have hn := hG.1
  intro d
  induction d with
  | zero =>
    intro i N x hi hN hs h7 h6
    obtain ⟨N, rfl⟩ : ∃ z, N = z + 1 := ⟨N - 1, by omega⟩
    have : i = 11 := by omega
    subst this
    refine ⟨x, ?_, hs, h6 rfl⟩
    rw [f_X6_findForms_23, if_pos (show nI 11 > 10 from by decide)]
  | succ d ih =>
    intro i N x hi hN hs h7 h6
    obtain ⟨N, rfl⟩ : ∃ z, N = z + 1 := ⟨N - 1, by omega⟩
    rw [f_X6_findForms_23, if_neg (show ¬ nI i > 10 from nI_nlt (a := 10) (b := i) (by omega) (by omega))]
    obtain ⟨x1, a1, a2, a3, a4⟩ := loopM31 (R := rIt m0 n i) hG (K := fun s15 y13 y14 =>
      f_X6_findForms_58 (fun s33 y31 y32 =>
        jl (y31 + 1) fun x34 =>
        f_X6_findForms_23 K N s33 x34
        ) jFuel s15 y13 0) (v1 := nI i) n 0 jFuel x (by omega) (jFuel_gt (by omega)) hs h7 (fun e he => absurd he (Nat.not_lt_zero e))
    obtain ⟨x2, c1, c2, c3, c4⟩ := loopM58 hG (T := eTab m0 (rIt m0 n i) n) (K := fun s33 y31 y32 =>
        jl (y31 + 1) fun x34 =>
        f_X6_findForms_23 K N s33 x34) (v1 := nI i) 10 0 jFuel x1 rfl (jFuel_gt (by omega)) a2 a4 (fun r hr => absurd hr (Nat.not_lt_zero r))
    obtain ⟨x3, d1, d2, d3⟩ := ih (i + 1) N x2 (by omega) (by omega) c2 c4 (by
      intro h e he
      have : i = 10 := by omega
      subst this
      exact c3 e he)
    refine ⟨x3, ?_, d2, d3⟩
    refine Eq.trans a1 ?_
    refine Eq.trans c1 ?_
    rw [jl_eq, nI_1]
    exact d1
theorem loopM2 {m0 : jS} {K : jS → Int32 → Option jS} : ∀ (d k N : Nat) (x : jS), k + d = 10 → d < N → Sm m0 x → (∀ r, r < k → x.1 17 r = 0) → ∃ x', f_X6_findForms_2 K N x (nI k) = K x' (nI 10) ∧ Sm m0 x' ∧ ∀ r, r < 10 → x'.1 17 r = 0 := by
  intro d
  induction d with
  | zero =>
    intro k N x hk hN hs h7
    obtain ⟨N, rfl⟩ : ∃ z, N = z + 1 := ⟨N - 1, by omega⟩
    have : k = 10 := by omega
    subst this
    refine ⟨x, ?_, hs, h7⟩
    rw [f_X6_findForms_2, if_pos (show nI 10 ≥ 10 from by decide)]
  | succ d ih =>
    intro k N x hk hN hs h7
    obtain ⟨N, rfl⟩ : ∃ z, N = z + 1 := ⟨N - 1, by omega⟩
    obtain ⟨x', a1, a2, a3⟩ := ih (k + 1) N (jaf x 17 (upd (x.1 17) k 0)) (by omega) (by omega) (hs.set (by omega)) (fun r hr => by
      show upd (x.1 17) k _ r = _
      by_cases h : r = k
      · subst h; exact upd_self _ _ _
      · rw [upd_ne h]; exact h7 r (by omega))
    refine ⟨x', ?_, a2, a3⟩
    rw [f_X6_findForms_2, if_neg (show ¬ nI k ≥ 10 from nI_ge (b := 10) (by omega) (by omega)), job_nI (show k < 10 by omega) (by omega)]
    simp only [jl, cond_false, nI_1, nar0]
    rw [jas_nI (show k < 2 ^ 31 by omega)]
    exact a1
/-- with which rules e begins -/
def bStep (m : jS) (T : Nat → Bool) (B : Nat → Int32) (e : Nat) : Int32 :=
  if m.1 1 e = 0 then 0 else if m.1 1 e = 1 then 0 else if m.1 1 e = 2 then 0 else if m.1 1 e = 3 then 1 <<< (m.1 2 e &&& 31) else if m.1 1 e = 4 then (if T (m.1 2 e).toNatClampNeg = true then B (m.1 2 e).toNatClampNeg ||| B (m.1 3 e).toNatClampNeg else B (m.1 2 e).toNatClampNeg ||| 0) else if m.1 1 e = 5 then B (m.1 2 e).toNatClampNeg ||| B (m.1 3 e).toNatClampNeg else B (m.1 2 e).toNatClampNeg
theorem bStep_congr {x m : jS} {T : Nat → Bool} {B B' : Nat → Int32} {e k : Nat} (he : e < 80) (h : RE x m e k) (hT : ∀ a, a < e → B a = B' a) : bStep m T B e = bStep m T B' e := by
  obtain ⟨h9, hx, hm, h3, h4, h5, h6, h7, _⟩ := h
  unfold bStep
  rw [hm]
  rcases k10 h9 with rfl | rfl | rfl | rfl | rfl | rfl | rfl | rfl | rfl | rfl
  · rfl
  · rfl
  · rfl
  · rfl
  · obtain ⟨a, b, ha, hb, ea, eb⟩ := h6 (by omega)
    rw [ea, eb, nI_clamp (by omega), nI_clamp (by omega), hT a ha, hT b hb]
  · obtain ⟨a, b, ha, hb, ea, eb⟩ := h6 (by omega)
    rw [ea, eb, nI_clamp (by omega), nI_clamp (by omega), hT a ha, hT b hb]
  · obtain ⟨a, ha, ea⟩ := h7 (by omega)
    simp (decide := true) only [if_false]
    rw [ea, nI_clamp (by omega), hT a ha]
  · obtain ⟨a, ha, ea⟩ := h7 (by omega)
    simp (decide := true) only [if_false]
    rw [ea, nI_clamp (by omega), hT a ha]
  · obtain ⟨a, ha, ea⟩ := h7 (by omega)
    simp (decide := true) only [if_false]
    rw [ea, nI_clamp (by omega), hT a ha]
  · obtain ⟨a, ha, ea⟩ := h7 (by omega)
    simp (decide := true) only [if_false]
    rw [ea, nI_clamp (by omega), hT a ha]
/-- two fixed points are one -/
theorem bFix {x m : jS} {n : Nat} {T : Nat → Bool} {B B' : Nat → Int32} (hG : RG x m n) (h : ∀ e, e < n → B e = bStep m T B e) (h' : ∀ e, e < n → B' e = bStep m T B' e) : ∀ e, e < n → B e = B' e := by
  intro e
  induction e using Nat.strongRecOn with
  | ind e ih =>
    intro he
    obtain ⟨k, hk⟩ := hG.2.2.2.1 e he
    rw [h e he, h' e he]
    exact bStep_congr (by have := hG.1; omega) hk (fun a ha => ih a ha (by omega))
theorem beginX {x0 m0 x : jS} {n : Nat} {T : Nat → Bool} (hG : RG x0 m0 n) (hs : Sx x0 x) {k : Nat} (hk : k < n) (h6 : ∀ e, e < n → x.1 6 e = bI (T e)) : f_X0_beginningsByForm x (nI k) = some (bStep m0 T (x.1 8) k, x) := by
  have hn := hG.1
  obtain ⟨j, h9, hx, hm, e3, e4, p3, p4, p6, _⟩ := hG.2.2.2.1 k hk
  have j80 : job (nI k) 80 = false := job_nI (by omega) (by omega)
  have g2 : jag x 2 (nI k) = nI j := by rw [jag_nI (by omega), hs.2 2 (by decide) (by decide) (by decide), hx]
  have g3 : jag x 3 (nI k) = x0.1 3 k := by rw [jag_nI (by omega), hs.2 3 (by decide) (by decide) (by decide)]
  have g4 : jag x 4 (nI k) = x0.1 4 k := by rw [jag_nI (by omega), hs.2 4 (by decide) (by decide) (by decide)]
  have one : 6 ≤ j → f_X0_beginningsByForm x (nI k) = some (bStep m0 T (x.1 8) k, x) := by
    intro hj
    obtain ⟨a, ha, ea⟩ := p6 hj
    have n0 : ¬ nI j = 0 := fun h => absurd (nI_inj (b := 0) (by omega) (by omega) h) (by omega)
    have n1 : ¬ nI j = 1 := fun h => absurd (nI_inj (b := 1) (by omega) (by omega) h) (by omega)
    have n2 : ¬ nI j = 2 := fun h => absurd (nI_inj (b := 2) (by omega) (by omega) h) (by omega)
    have n3 : ¬ nI j = 3 := fun h => absurd (nI_inj (b := 3) (by omega) (by omega) h) (by omega)
    have n4 : ¬ nI j = 4 := fun h => absurd (nI_inj (b := 4) (by omega) (by omega) h) (by omega)
    have n5 : ¬ nI j = 5 := fun h => absurd (nI_inj (b := 5) (by omega) (by omega) h) (by omega)
    simp only [f_X0_beginningsByForm, bStep, jl, j80, cond_false, g2, g3, g4, hm, if_false, n0, n1, n2, n3, n4, n5, e3 (by omega), ea, job_nI (show a < 80 by omega) (show 80 < 2 ^ 31 by omega), jag_nI (show a < 2 ^ 31 by omega), nI_clamp (show a < 2 ^ 31 by omega)]
  rcases k10 h9 with rfl | rfl | rfl | rfl | rfl | rfl | rfl | rfl | rfl | rfl
  · simp (decide := true) only [f_X0_beginningsByForm, bStep, jl, j80, cond_false, g2, g3, g4, hm, if_true, if_false]
  · simp (decide := true) only [f_X0_beginningsByForm, bStep, jl, j80, cond_false, g2, g3, g4, hm, if_true, if_false]
  · simp (decide := true) only [f_X0_beginningsByForm, bStep, jl, j80, cond_false, g2, g3, g4, hm, if_true, if_false]
  · simp (decide := true) only [f_X0_beginningsByForm, f_X5_bit, Option.bind_some, bStep, jl, j80, cond_false, g2, g3, g4, hm, if_true, if_false, e3 (by omega)]
  · obtain ⟨a, b, ha, hb, ea, eb⟩ := p4 (by omega)
    simp (decide := true) only [f_X0_beginningsByForm, bStep, jl, j80, cond_false, g2, g3, g4, hm, if_true, if_false, e3 (by omega), e4 (by omega), ea, eb, job_nI (show a < 80 by omega) (by omega), job_nI (show b < 80 by omega) (by omega), jag_nI (show a < 2 ^ 31 by omega), jag_nI (show b < 2 ^ 31 by omega), h6 a (by omega), nI_clamp (show a < 2 ^ 31 by omega), nI_clamp (show b < 2 ^ 31 by omega)]
    cases T a <;> rfl
  · obtain ⟨a, b, ha, hb, ea, eb⟩ := p4 (by omega)
    simp (decide := true) only [f_X0_beginningsByForm, bStep, jl, j80, cond_false, g2, g3, g4, hm, if_true, if_false, e3 (by omega), e4 (by omega), ea, eb, job_nI (show a < 80 by omega) (by omega), job_nI (show b < 80 by omega) (by omega), jag_nI (show a < 2 ^ 31 by omega), jag_nI (show b < 2 ^ 31 by omega), nI_clamp (show a < 2 ^ 31 by omega), nI_clamp (show b < 2 ^ 31 by omega)]
  · exact one (by omega)
  · exact one (by omega)
  · exact one (by omega)
  · exact one (by omega)
theorem beginM {x0 m0 x : jS} {n : Nat} {T : Nat → Bool} (hG : RG x0 m0 n) (hs : Sm m0 x) {k : Nat} (hk : k < n) (h6 : ∀ e, e < n → x.1 18 e = bI (T e)) : f_X6_beginsWith x (nI k) = some (bStep m0 T (x.1 19) k, x) := by
  have hn := hG.1
  obtain ⟨j, h9, hx, hm, e3, e4, p3, p4, p6, _⟩ := hG.2.2.2.1 k hk
  have j80 : job (nI k) 80 = false := job_nI (by omega) (by omega)
  have g2 : jag x 1 (nI k) = nI j := by rw [jag_nI (by omega), hs.2 1 (by decide) (by decide) (by decide), hm]
  have g3 : jag x 2 (nI k) = m0.1 2 k := by rw [jag_nI (by omega), hs.2 2 (by decide) (by decide) (by decide)]
  have g4 : jag x 3 (nI k) = m0.1 3 k := by rw [jag_nI (by omega), hs.2 3 (by decide) (by decide) (by decide)]
  have one : 6 ≤ j → f_X6_beginsWith x (nI k) = some (bStep m0 T (x.1 19) k, x) := by
    intro hj
    obtain ⟨a, ha, ea⟩ := p6 hj
    have n0 : ¬ nI j = 0 := fun h => absurd (nI_inj (b := 0) (by omega) (by omega) h) (by omega)
    have n1 : ¬ nI j = 1 := fun h => absurd (nI_inj (b := 1) (by omega) (by omega) h) (by omega)
    have n2 : ¬ nI j = 2 := fun h => absurd (nI_inj (b := 2) (by omega) (by omega) h) (by omega)
    have n3 : ¬ nI j = 3 := fun h => absurd (nI_inj (b := 3) (by omega) (by omega) h) (by omega)
    have n4 : ¬ nI j = 4 := fun h => absurd (nI_inj (b := 4) (by omega) (by omega) h) (by omega)
    have n5 : ¬ nI j = 5 := fun h => absurd (nI_inj (b := 5) (by omega) (by omega) h) (by omega)
    simp only [f_X6_beginsWith, bStep, jl, j80, cond_false, g2, g3, g4, hm, if_false, n0, n1, n2, n3, n4, n5, ea, job_nI (show a < 80 by omega) (show 80 < 2 ^ 31 by omega), jag_nI (show a < 2 ^ 31 by omega), nI_clamp (show a < 2 ^ 31 by omega)]
  rcases k10 h9 with rfl | rfl | rfl | rfl | rfl | rfl | rfl | rfl | rfl | rfl
  · simp (decide := true) only [f_X6_beginsWith, bStep, jl, j80, cond_false, g2, g3, g4, hm, if_true, if_false]
  · simp (decide := true) only [f_X6_beginsWith, bStep, jl, j80, cond_false, g2, g3, g4, hm, if_true, if_false]
  · simp (decide := true) only [f_X6_beginsWith, bStep, jl, j80, cond_false, g2, g3, g4, hm, if_true, if_false]
  · simp (decide := true) only [f_X6_beginsWith, bStep, jl, j80, cond_false, g2, g3, g4, hm, if_true, if_false]
  · obtain ⟨a, b, ha, hb, ea, eb⟩ := p4 (by omega)
    simp (decide := true) only [f_X6_beginsWith, bStep, jl, j80, cond_false, g2, g3, g4, hm, if_true, if_false, ea, eb, job_nI (show a < 80 by omega) (by omega), job_nI (show b < 80 by omega) (by omega), jag_nI (show a < 2 ^ 31 by omega), jag_nI (show b < 2 ^ 31 by omega), h6 a (by omega), nI_clamp (show a < 2 ^ 31 by omega), nI_clamp (show b < 2 ^ 31 by omega)]
    cases T a <;> rfl
  · obtain ⟨a, b, ha, hb, ea, eb⟩ := p4 (by omega)
    simp (decide := true) only [f_X6_beginsWith, bStep, jl, j80, cond_false, g2, g3, g4, hm, if_true, if_false, ea, eb, job_nI (show a < 80 by omega) (by omega), job_nI (show b < 80 by omega) (by omega), jag_nI (show a < 2 ^ 31 by omega), jag_nI (show b < 2 ^ 31 by omega), nI_clamp (show a < 2 ^ 31 by omega), nI_clamp (show b < 2 ^ 31 by omega)]
  · exact one (by omega)
  · exact one (by omega)
  · exact one (by omega)
  · exact one (by omega)
end L2Fb
