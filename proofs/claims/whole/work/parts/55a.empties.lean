/-! canBeEmpty: the rounds -/
section L2Fa
theorem jl_eq {α β : Type} (v : α) (k : α → β) : jl v k = k v := rfl
theorem loopX24 {x0 m0 : jS} {n : Nat} {R : Nat → Bool} (hG : RG x0 m0 n) {K : jS → Int32 → Int32 → Int32 → Option jS} {v1 v2 : Int32} : ∀ (d k N : Nat) (x : jS), k + d = n → d < N → Sx x0 x → (∀ r, r < 10 → tb (x.2 8) r = R r) → (∀ e, e < k → x.1 6 e = bI (eTab m0 R n e)) → ∃ x', f_X0_findEmpties_21 K N x v1 v2 (nI k) = K x' v1 v2 (nI n) ∧ Sx x0 x' ∧ (∀ r, r < 10 → tb (x'.2 8) r = R r) ∧ ∀ e, e < n → x'.1 6 e = bI (eTab m0 R n e) := by
  have hn := hG.1
  intro d
  induction d with
  | zero =>
    intro k N x hk hN hs h7 h6
    obtain ⟨N, rfl⟩ : ∃ z, N = z + 1 := ⟨N - 1, by omega⟩
    have : k = n := by omega
    subst this
    refine ⟨x, ?_, hs, h7, h6⟩
    rw [f_X0_findEmpties_21, if_pos (show nI k ≥ x.2 0 from by rw [hs.1 0 (by decide), hG.2.1]; exact Int32.le_refl _)]
  | succ d ih =>
    intro k N x hk hN hs h7 h6
    obtain ⟨N, rfl⟩ : ∃ z, N = z + 1 := ⟨N - 1, by omega⟩
    have e1 := emptyX hG hs h7 (show k < n by omega) h6
    rw [eTab_fix hG (by omega)] at e1
    obtain ⟨x', g1, g2, g3, g4⟩ := ih (k + 1) N (jaf x 6 (upd (x.1 6) k (bI (eTab m0 R n k)))) (by omega) (by omega) (hs.set (by omega)) h7 (by
      intro e he
      show upd (x.1 6) k _ e = _
      by_cases h : e = k
      · subst h; exact upd_self _ _ _
      · rw [upd_ne h]; exact h6 e (by omega))
    refine ⟨x', ?_, g2, g3, g4⟩
    rw [f_X0_findEmpties_21, if_neg (show ¬ nI k ≥ x.2 0 from by rw [hs.1 0 (by decide), hG.2.1]; exact nI_ge (by omega) (by omega)), e1]
    simp only [Option.bind_some, jl, job_nI (show k < 80 by omega) (by omega), cond_false, bI_nar]
    rw [nI_1, jas_nI (by omega), g1]
theorem has_yes {x : jS} {n e : Nat} (hn : n ≤ 80) (h : x.2 0 = nI n) (he : e < n) : f_X0_has x (nI e) = some (1, x) := by
  rw [f_X0_has, if_neg (nI_pos (by omega)), if_neg (by rw [h]; exact nI_ge he (by omega))]
theorem has_no {x : jS} : f_X0_has x (-1) = some (0, x) := by
  rw [f_X0_has, if_pos (by decide)]
theorem loopXr {x0 m0 : jS} {n : Nat} {T Ro : Nat → Bool} (hG : RG x0 m0 n) (hmono : ∀ r, Ro r = true → rStep m0 T r = true) {K : jS → Int32 → Int32 → Option (Int32 × jS)} {v1 : Int32} : ∀ (d k N : Nat) (x : jS), k + d = 10 → d < N → Sx x0 x → (∀ e, e < n → x.1 6 e = bI (T e)) → (∀ r, r < k → tb (x.2 8) r = rStep m0 T r) → (∀ r, k ≤ r → r < 10 → tb (x.2 8) r = Ro r) → ∃ x', f_X0_addEmptyRules_7 K N x v1 (nI k) = K x' v1 (nI 10) ∧ Sx x0 x' ∧ (∀ e, e < n → x'.1 6 e = bI (T e)) ∧ ∀ r, r < 10 → tb (x'.2 8) r = rStep m0 T r := by
  have hn := hG.1
  intro d
  induction d with
  | zero =>
    intro k N x hk hN hs h6 h7 h7'
    obtain ⟨N, rfl⟩ : ∃ z, N = z + 1 := ⟨N - 1, by omega⟩
    have : k = 10 := by omega
    subst this
    refine ⟨x, ?_, hs, h6, h7⟩
    rw [f_X0_addEmptyRules_7, if_pos (show nI 10 ≥ 10 from by decide)]
  | succ d ih =>
    intro k N x hk hN hs h6 h7 h7'
    obtain ⟨N, rfl⟩ : ∃ z, N = z + 1 := ⟨N - 1, by omega⟩
    have j10 : job (nI k) 10 = false := job_nI (by omega) (by omega)
    obtain ⟨r1, r2⟩ := hG.2.2.2.2 k (by omega)
    have g5 : jag x 5 (nI k) = m0.1 4 k := by rw [jag_nI (by omega), hs.2 5 (by decide) (by decide) (by decide), r1]
    rw [r1] at r2
    have same : rStep m0 T k = false → f_X0_addEmptyRules_7 K (N + 1) x v1 (nI k) = f_X0_addEmptyRules_7 K N x v1 (nI (k + 1)) → ∃ x', f_X0_addEmptyRules_7 K (N + 1) x v1 (nI k) = K x' v1 (nI 10) ∧ Sx x0 x' ∧ (∀ e, e < n → x'.1 6 e = bI (T e)) ∧ ∀ r, r < 10 → tb (x'.2 8) r = rStep m0 T r := by
      intro hsame heq
      have hRo : Ro k = false := by
        cases hc : Ro k with
        | false => rfl
        | true => rw [hmono k hc] at hsame; cases hsame
      obtain ⟨x', a1, a2, a3, a4⟩ := ih (k + 1) N x (by omega) (by omega) hs h6 (fun r hr => by
        by_cases h : r = k
        · subst h; rw [h7' r (Nat.le_refl _) (by omega), hsame, hRo]
        · exact h7 r (by omega)) (fun r h1 h2 => h7' r (by omega) h2)
      exact ⟨x', heq.trans a1, a2, a3, a4⟩
    have hdef := f_X0_addEmptyRules_7.eq_2 K x v1 (nI k) N
    rw [if_neg (show ¬ nI k ≥ 10 from nI_ge (b := 10) (by omega) (by omega))] at hdef
    simp only [jl, j10, cond_false, g5, nI_1] at hdef
    rcases r2 with r2 | ⟨e, he, r2⟩
    · rw [r2, has_no] at hdef
      simp only [Option.bind_some, if_true] at hdef
      exact same (if_pos (Or.inl r2)) hdef
    · have hst : rStep m0 T k = T e := by
        unfold rStep
        rw [if_neg (by rw [r2]; intro h; rcases h with h | h; exact nI_m1 (by omega) h; omega), r2, nI_clamp (by omega)]
      rw [r2, has_yes hn (by rw [hs.1 0 (by decide), hG.2.1]) he] at hdef
      simp only [Option.bind_some, job_nI (show e < 80 by omega) (by omega), cond_false, jag_nI (show e < 2 ^ 31 by omega), h6 e he] at hdef
      rw [if_neg (by decide)] at hdef
      cases hTe : T e with
      | false =>
        rw [hTe, if_pos (by decide)] at hdef
        exact same (by rw [hst, hTe]) hdef
      | true =>
        rw [hTe, if_neg (by decide), f_X5_bit, Option.bind_some] at hdef
        obtain ⟨x', a1, a2, a3, a4⟩ := ih (k + 1) N (jis x 8 (x.2 8 ||| (1 : Int32) <<< (nI k &&& 31))) (by omega) (by omega) (hs.int _) h6 (fun r hr => by
          show tb (x.2 8 ||| (1 : Int32) <<< (nI k &&& 31)) r = _
          rw [tb_or, tb_bit (by omega)]
          by_cases h : r = k
          · subst h; rw [hst, hTe]; simp
          · rw [h7 r (by omega)]; simp [h]) (fun r h1 h2 => by
          show tb (x.2 8 ||| (1 : Int32) <<< (nI k &&& 31)) r = _
          rw [tb_or, tb_bit (by omega), h7' r (by omega) h2]
          have hne : r ≠ k := by omega
          simp [hne])
        exact ⟨x', hdef.trans a1, a2, a3, a4⟩
theorem addX {x0 m0 x : jS} {n i : Nat} (hG : RG x0 m0 n) (hs : Sx x0 x) (h6 : ∀ e, e < n → x.1 6 e = bI (eTab m0 (rIt m0 n i) n e)) (h7 : ∀ r, r < 10 → tb (x.2 8) r = rIt m0 n i r) : ∃ x' b, f_X0_addEmptyRules x = some (bI b, x') ∧ Sx x0 x' ∧ (∀ e, e < n → x'.1 6 e = bI (eTab m0 (rIt m0 n i) n e)) ∧ (∀ r, r < 10 → tb (x'.2 8) r = rIt m0 n (i + 1) r) ∧ (b = false → ∀ r, rIt m0 n (i + 1) r = rIt m0 n i r) := by
  obtain ⟨x', a1, a2, a3, a4⟩ := loopXr (T := eTab m0 (rIt m0 n i) n) (Ro := rIt m0 n i) (K := fun s16 y14 y15 => if (s16.2 8) = y14 then some (0, s16) else some (1, s16)) (v1 := x.2 8) hG (fun r hr => rIt_mono i r hr) 10 0 jFuel x rfl (jFuel_gt (by omega)) hs h6 (fun r hr => absurd hr (Nat.not_lt_zero r)) (fun r _ hr => h7 r hr)
  have hz : ∀ r, ¬ r < 10 → ∀ j, rIt m0 n j r = false := by
    intro r hr j
    cases j with
    | zero => rfl
    | succ j => exact if_pos (Or.inr (by omega))
  by_cases hq : x'.2 8 = x.2 8
  · refine ⟨x', false, ?_, a2, a3, a4, fun _ r => ?_⟩
    · rw [f_X0_addEmptyRules, jl_eq]
      refine Eq.trans a1 ?_
      show (if x'.2 8 = x.2 8 then some ((0 : Int32), x') else some (1, x')) = _
      rw [if_pos hq]; rfl
    · by_cases hr : r < 10
      · have e1 := a4 r hr
        rw [hq, h7 r hr] at e1
        exact e1.symm
      · rw [hz r hr, hz r hr]
  · refine ⟨x', true, ?_, a2, a3, a4, fun h => by cases h⟩
    rw [f_X0_addEmptyRules, jl_eq]
    refine Eq.trans a1 ?_
    show (if x'.2 8 = x.2 8 then some ((0 : Int32), x') else some (1, x')) = _
    rw [if_neg hq]; rfl
theorem loopX12 {x0 m0 : jS} {n : Nat} (hG : RG x0 m0 n) : ∀ (d i N : Nat) (x : jS) (b : Bool), i + d = 11 → d < N → Sx x0 x → (∀ r, r < 10 → tb (x.2 8) r = rIt m0 n i r) → (b = false ∨ i = 11 → ∀ e, e < n → x.1 6 e = bI (eTab m0 (rIt m0 n 10) n e)) → ∃ x', f_X0_findEmpties_9 (fun s17 y15 y16 => some s17) N x (bI b) (nI i) = some x' ∧ Sx x0 x' ∧ ∀ e, e < n → x'.1 6 e = bI (eTab m0 (rIt m0 n 10) n e) := by
  have hn := hG.1
  intro d
  induction d with
  | zero =>
    intro i N x b hi hN hs h7 h6
    obtain ⟨N, rfl⟩ : ∃ z, N = z + 1 := ⟨N - 1, by omega⟩
    have : i = 11 := by omega
    subst this
    refine ⟨x, ?_, hs, h6 (Or.inr rfl)⟩
    rw [f_X0_findEmpties_9, if_pos (show nI 11 > 10 from by decide)]
  | succ d ih =>
    intro i N x b hi hN hs h7 h6
    obtain ⟨N, rfl⟩ : ∃ z, N = z + 1 := ⟨N - 1, by omega⟩
    rw [f_X0_findEmpties_9, if_neg (show ¬ nI i > 10 from nI_nlt (a := 10) (b := i) (by omega) (by omega))]
    cases b with
    | false =>
      rw [if_pos (by decide)]
      exact ⟨x, rfl, hs, h6 (Or.inl rfl)⟩
    | true =>
      rw [if_neg (by decide)]
      obtain ⟨x1, a1, a2, a3, a4⟩ := loopX24 (R := rIt m0 n i) hG (K := fun s12 y9 y10 y11 =>
      (f_X0_addEmptyRules s12).bind fun r13 =>
      jl (y10 + 1) fun x14 =>
      f_X0_findEmpties_9 (fun s17 y15 y16 => some s17) N r13.2 r13.1 x14) (v1 := bI true) (v2 := nI i) n 0 jFuel x (by omega) (jFuel_gt (by omega)) hs h7 (fun e he => absurd he (Nat.not_lt_zero e))
      obtain ⟨x2, b2, c1, c2, c3, c4, c5⟩ := addX hG a2 a4 a3
      obtain ⟨x3, d1, d2, d3⟩ := ih (i + 1) N x2 b2 (by omega) (by omega) c2 c4 (by
        intro h e he
        rcases h with h | h
        · have := rIt_stop (c5 h) (10 - i)
          rw [show i + (10 - i) = 10 by omega] at this
          rw [this]; exact c3 e he
        · have : i = 10 := by omega
          subst this
          exact c3 e he)
      refine ⟨x3, ?_, d2, d3⟩
      refine Eq.trans a1 ?_
      show ((f_X0_addEmptyRules x1).bind fun r13 => jl (nI i + 1) fun x14 => f_X0_findEmpties_9 (fun s17 y15 y16 => some s17) N r13.2 r13.1 x14) = _
      rw [c1]
      simp only [Option.bind_some, jl, nI_1]
      exact d1
theorem findX {x m : jS} {n : Nat} (hG : RG x m n) : ∃ x', f_X0_findEmpties x = some x' ∧ Sx x x' ∧ ∀ e, e < n → x'.1 6 e = bI (eTab m (rIt m n 10) n e) := by
  obtain ⟨x', a1, a2, a3⟩ := loopX12 hG 11 0 jFuel (jis x 8 0) true rfl (jFuel_gt (by omega)) (Sx.int ⟨fun _ _ => rfl, fun _ _ _ _ => rfl⟩ 0) (fun r _ => tb_0 r) (by intro h; rcases h with h | h; cases h; omega)
  refine ⟨x', ?_, a2, a3⟩
  rw [f_X0_findEmpties, jl_eq]
  exact a1
end L2Fa
