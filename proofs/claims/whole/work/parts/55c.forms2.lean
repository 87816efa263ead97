/-! canBeEmpty, isLeftRecursive: the calls -/
section L2Fc
theorem loopXb {x0 m0 : jS} {n : Nat} {T : Nat → Bool} (hG : RG x0 m0 n) {K : jS → Int32 → Option jS} : ∀ (d k N : Nat) (x : jS), k + d = n → d < N → Sx x0 x → (∀ e, e < n → x.1 6 e = bI (T e)) → (∀ e, e < k → x.1 8 e = bStep m0 T (x.1 8) e) → ∃ x', f_X0_findBeginnings_2 K N x (nI k) = K x' (nI n) ∧ Sx x0 x' ∧ ∀ e, e < n → x'.1 8 e = bStep m0 T (x'.1 8) e := by
  have hn := hG.1
  intro d
  induction d with
  | zero =>
    intro k N x hk hN hs h6 h8
    obtain ⟨N, rfl⟩ : ∃ z, N = z + 1 := ⟨N - 1, by omega⟩
    have : k = n := by omega
    subst this
    refine ⟨x, ?_, hs, h8⟩
    rw [f_X0_findBeginnings_2, if_pos (show nI k ≥ x.2 0 from by rw [hs.1 0 (by decide), hG.2.1]; exact Int32.le_refl _)]
  | succ d ih =>
    intro k N x hk hN hs h6 h8
    obtain ⟨N, rfl⟩ : ∃ z, N = z + 1 := ⟨N - 1, by omega⟩
    have e1 := beginX hG hs (show k < n by omega) h6
    have cg : ∀ e, e ≤ k → bStep m0 T (upd (x.1 8) k (bStep m0 T (x.1 8) k)) e = bStep m0 T (x.1 8) e := by
      intro e he
      obtain ⟨j, hj⟩ := hG.2.2.2.1 e (by omega)
      exact bStep_congr (by omega) hj (fun a ha => upd_ne (by omega))
    obtain ⟨x', g1, g2, g3⟩ := ih (k + 1) N (jaf x 8 (upd (x.1 8) k (bStep m0 T (x.1 8) k))) (by omega) (by omega) (hs.set (by omega)) h6 (by
      intro e he
      show upd (x.1 8) k _ e = bStep m0 T (upd (x.1 8) k _) e
      rw [cg e (by omega)]
      by_cases h : e = k
      · subst h; exact upd_self _ _ _
      · rw [upd_ne h]; exact h8 e (by omega))
    refine ⟨x', ?_, g2, g3⟩
    rw [f_X0_findBeginnings_2, if_neg (show ¬ nI k ≥ x.2 0 from by rw [hs.1 0 (by decide), hG.2.1]; exact nI_ge (by omega) (by omega)), e1]
    simp only [Option.bind_some, jl, job_nI (show k < 80 by omega) (by omega), cond_false]
    rw [nI_1, jas_nI (by omega), g1]
theorem loopMb {x0 m0 : jS} {n : Nat} {T : Nat → Bool} (hG : RG x0 m0 n) {K : jS → Int32 → Option jS} : ∀ (d k N : Nat) (x : jS), k + d = n → d < N → Sm m0 x → (∀ e, e < n → x.1 18 e = bI (T e)) → (∀ e, e < k → x.1 19 e = bStep m0 T (x.1 19) e) → ∃ x', f_X6_findForms_113 K N x (nI k) = K x' (nI n) ∧ Sm m0 x' ∧ (∀ e, e < n → x'.1 18 e = bI (T e)) ∧ ∀ e, e < n → x'.1 19 e = bStep m0 T (x'.1 19) e := by
  have hn := hG.1
  intro d
  induction d with
  | zero =>
    intro k N x hk hN hs h6 h8
    obtain ⟨N, rfl⟩ : ∃ z, N = z + 1 := ⟨N - 1, by omega⟩
    have : k = n := by omega
    subst this
    refine ⟨x, ?_, hs, h6, h8⟩
    rw [f_X6_findForms_113, if_pos (show nI k ≥ x.2 1 from by rw [hs.1, hG.2.2.1]; exact Int32.le_refl _)]
  | succ d ih =>
    intro k N x hk hN hs h6 h8
    obtain ⟨N, rfl⟩ : ∃ z, N = z + 1 := ⟨N - 1, by omega⟩
    have e1 := beginM hG hs (show k < n by omega) h6
    have cg : ∀ e, e ≤ k → bStep m0 T (upd (x.1 19) k (bStep m0 T (x.1 19) k)) e = bStep m0 T (x.1 19) e := by
      intro e he
      obtain ⟨j, hj⟩ := hG.2.2.2.1 e (by omega)
      exact bStep_congr (by omega) hj (fun a ha => upd_ne (by omega))
    obtain ⟨x', g1, g2, g3, g4⟩ := ih (k + 1) N (jaf x 19 (upd (x.1 19) k (bStep m0 T (x.1 19) k))) (by omega) (by omega) (hs.set (by omega)) h6 (by
      intro e he
      show upd (x.1 19) k _ e = bStep m0 T (upd (x.1 19) k _) e
      rw [cg e (by omega)]
      by_cases h : e = k
      · subst h; exact upd_self _ _ _
      · rw [upd_ne h]; exact h8 e (by omega))
    refine ⟨x', ?_, g2, g3, g4⟩
    rw [f_X6_findForms_113, if_neg (show ¬ nI k ≥ x.2 1 from by rw [hs.1, hG.2.2.1]; exact nI_ge (by omega) (by omega)), e1]
    simp only [Option.bind_some, jl, job_nI (show k < 80 by omega) (by omega), cond_false]
    rw [nI_1, jas_nI (by omega), g1]
theorem findM {x m : jS} {n : Nat} (hG : RG x m n) : ∃ m', f_X6_findForms m = some m' ∧ Sm m m' ∧ (∀ e, e < n → m'.1 18 e = bI (eTab m (rIt m n 10) n e)) ∧ ∀ e, e < n → m'.1 19 e = bStep m (eTab m (rIt m n 10) n) (m'.1 19) e := by
  have hn := hG.1
  obtain ⟨m1, a1, a2, a3⟩ := loopM2 (m0 := m) (K := fun s6 y5 =>
    f_X6_findForms_23 (fun s36 y35 =>
      f_X6_findForms_113 (fun s43 y42 =>
        some s43
        ) jFuel s36 0
      ) jFuel s6 0) 10 0 jFuel m rfl (jFuel_gt (by omega)) ⟨rfl, fun _ _ _ _ => rfl⟩ (fun r hr => absurd hr (Nat.not_lt_zero r))
  obtain ⟨m2, b1, b2, b3⟩ := loopM23 hG (K := fun s36 y35 =>
      f_X6_findForms_113 (fun s43 y42 =>
        some s43
        ) jFuel s36 0) 11 0 jFuel m1 rfl (jFuel_gt (by omega)) a2 (fun r hr => by rw [a3 r hr]; rfl) (fun h => by omega)
  obtain ⟨m3, c1, c2, c3, c4⟩ := loopMb hG (T := eTab m (rIt m n 10) n) (K := fun s43 y42 => some s43) n 0 jFuel m2 (by omega) (jFuel_gt (by omega)) b2 b3 (fun r hr => absurd hr (Nat.not_lt_zero r))
  refine ⟨m3, ?_, c2, c3, c4⟩
  rw [f_X6_findForms]
  exact a1.trans (b1.trans c1)
theorem findXb {x0 m0 x : jS} {n : Nat} {T : Nat → Bool} (hG : RG x0 m0 n) (hs : Sx x0 x) (h6 : ∀ e, e < n → x.1 6 e = bI (T e)) : ∃ x', f_X0_findBeginnings x = some x' ∧ Sx x0 x' ∧ ∀ e, e < n → x'.1 8 e = bStep m0 T (x'.1 8) e := by
  have hn := hG.1
  obtain ⟨x', a1, a2, a3⟩ := loopXb hG (K := fun s7 y6 => some s7) n 0 jFuel x (by omega) (jFuel_gt (by omega)) hs h6 (fun r hr => absurd hr (Nat.not_lt_zero r))
  refine ⟨x', ?_, a2, a3⟩
  rw [f_X0_findBeginnings]
  exact a1
/-- what the forms write is nothing of the relation -/
theorem Rel.forms {x m x' m' : jS} (h : Rel x m) (a : Sx x x') (b : Sm m m') : Rel x' m' := by
  obtain ⟨n, sz, hG, hT, hM, hP, hC⟩ := h
  have x2 := a.2 2 (by decide) (by decide) (by decide)
  have x3 := a.2 3 (by decide) (by decide) (by decide)
  have x4 := a.2 4 (by decide) (by decide) (by decide)
  have x5 := a.2 5 (by decide) (by decide) (by decide)
  have x10 := a.2 10 (by decide) (by decide) (by decide)
  have x12 := a.2 12 (by decide) (by decide) (by decide)
  have x13 := a.2 13 (by decide) (by decide) (by decide)
  have x14 := a.2 14 (by decide) (by decide) (by decide)
  have x23 := a.2 23 (by decide) (by decide) (by decide)
  have x24 := a.2 24 (by decide) (by decide) (by decide)
  have m1 := b.2 1 (by decide) (by decide) (by decide)
  have m2 := b.2 2 (by decide) (by decide) (by decide)
  have m3 := b.2 3 (by decide) (by decide) (by decide)
  have m4 := b.2 4 (by decide) (by decide) (by decide)
  have m5 := b.2 5 (by decide) (by decide) (by decide)
  have m6 := b.2 6 (by decide) (by decide) (by decide)
  have m7 := b.2 7 (by decide) (by decide) (by decide)
  have m8 := b.2 8 (by decide) (by decide) (by decide)
  have m9 := b.2 9 (by decide) (by decide) (by decide)
  refine ⟨n, sz, ?_, ?_, ?_, ?_, ?_⟩
  · unfold RG RE at hG ⊢
    rw [a.1 0 (by decide), b.1, x2, x3, x4, x5, m1, m2, m3, m4]
    exact hG
  · unfold RT at hT ⊢
    rw [a.1 1 (by decide), b.1, x10, m5]
    exact hT
  · unfold RMe RU RK at hM ⊢
    rw [x12, x13, x14, m6, m7, m8, m9]
    exact hM
  · unfold RP at hP ⊢
    rw [a.1 2 (by decide), x23, x24]
    exact hP
  · unfold RC at hC ⊢
    rw [a.1 3 (by decide), a.1 4 (by decide), a.1 5 (by decide), a.1 6 (by decide), b.1]
    exact hC
theorem lhz_ok {x m x' m' : jS} {out : Nat → Int64} {b : Bool} {fx : jSP → Option (Int32 × jSP)} {fm : jS → Option (Int32 × jS)} (h1 : fx (x, out) = some (0, (x', vp_updL out (0 : Int32).toNatClampNeg (if bI b = 0 then 0 else 1)))) (h2 : fm m = some (bI b, m')) (h3 : m'.2 0 = 0) (h4 : Rel x' m') : LHz Rel fx fm x out m :=
  ⟨_, _, h1, h2, h3, fun _ => by
    have e : (if bI b = 0 then (0 : Int64) else 1) = (if (bI b, m').fst = 0 then 0 else 1) := by cases b <;> simp [bI]
    refine Eq.trans ?_ e
    simp [vp_updL], h4⟩
theorem lhz_no {x m m' : jS} {out : Nat → Int64} {c : Int32} {fx : jSP → Option (Int32 × jSP)} {fm : jS → Option (Int32 × jS)} (h1 : fx (x, out) = some (c, (x, out))) (h2 : fm m = some (0, m')) (h3 : m'.2 0 = c) (hc : c ≠ 0) (h4 : Rel x m') : LHz Rel fx fm x out m :=
  ⟨_, _, h1, h2, h3, fun h => absurd h hc, h4⟩
theorem lh_canBeEmpty : LH_canBeEmpty Rel := by
  intro x m out a h
  obtain ⟨n, sz, hG, hT, hM, hP, hC⟩ := id h
  have hn := hG.1
  by_cases ha : ∃ e, e < n ∧ a = nI e
  · obtain ⟨e, he, rfl⟩ := ha
    have hG0 : RG x (jis m 0 0) n := hG
    obtain ⟨x', a1, a2, a3⟩ := findX hG0
    obtain ⟨m', b1, b2, b3, b4⟩ := findM hG0
    have j80 : job (nI e) 80 = false := job_nI (by omega) (by omega)
    have h5 : f_X5_canBeEmpty x (nI e) = some (0, bI (eTab (jis m 0 0) (rIt (jis m 0 0) n 10) n e), x') := by
      rw [f_X5_canBeEmpty, refE_yes hG.1 hG.2.1 he]
      simp only [Option.bind_some, f_X0_succeedsInPlace, a1, j80, cond_false, jag_nI (show e < 2 ^ 31 by omega), a3 e he, bI_jnb, not_true, if_false]
    have h6 : f_X6_canBeEmpty m (nI e) = some (bI (eTab (jis m 0 0) (rIt (jis m 0 0) n 10) n e), m') := by
      rw [f_X6_canBeEmpty, isE_yes hG.1 hG.2.2.1 he, Option.bind_some, if_neg (show ¬ (1 : Int32) = 0 by decide), jl_eq, if_pos (show (jis m 0 0).2 0 = 0 from rfl), b1, Option.bind_some, j80, jag_nI (by omega), b3 e he, bI_jnb]
      rfl
    refine lhz_ok (b := eTab (jis m 0 0) (rIt (jis m 0 0) n 10) n e) (x' := x') ?_ h6 (by rw [b2.1]; rfl) (Rel.forms (m := jis m 0 0) h a2 b2)
    show f_L_canBeEmpty (x, out) (nI e) = _
    rw [f_L_canBeEmpty]
    show ((f_X5_canBeEmpty x (nI e)).bind _) = _
    rw [h5]
    cases eTab (jis m 0 0) (rIt (jis m 0 0) n 10) n e <;> rfl
  · have h5 : f_X5_canBeEmpty x a = some (3, 0, x) := by rw [f_X5_canBeEmpty, refE_no hG.1 hG.2.1 ha]; rfl
    have h6 : f_X6_canBeEmpty m a = some (0, jis m 0 1) := by
      rw [f_X6_canBeEmpty, isE_no hG.1 hG.2.2.1 ha, Option.bind_some, if_pos rfl, jl_eq, if_neg (show ¬ (jis m 0 1).2 0 = 0 from by show ¬ (1 : Int32) = 0; decide)]
    refine lhz_no (c := 1) ?_ h6 rfl (by decide) h
    show f_L_canBeEmpty (x, out) a = _
    rw [f_L_canBeEmpty]
    show ((f_X5_canBeEmpty x a).bind _) = _
    rw [h5]
    rfl
/-- one rule's beginnings join what is reached -/
def gStep (m : jS) (B : Nat → Int32) (v : Int32) (r : Nat) : Int32 := if tb v r = true then (if m.1 4 r = -1 then v else v ||| B (m.1 4 r).toNatClampNeg) else v
def gIn (m : jS) (B : Nat → Int32) : Nat → Nat → Int32 → Int32
  | 0, _, v => v
  | d + 1, k, v => gIn m B d (k + 1) (gStep m B v k)
def gOut (m : jS) (B : Nat → Int32) : Nat → Int32 → Int32
  | 0, v => v
  | d + 1, v => gOut m B d (gIn m B 10 0 v)
theorem gIn_0 (m : jS) (B : Nat → Int32) : ∀ d k, gIn m B d k 0 = 0 := by
  intro d
  induction d with
  | zero => intro k; rfl
  | succ d ih => intro k; show gIn m B d (k + 1) (gStep m B 0 k) = 0; rw [show gStep m B 0 k = 0 from if_neg (by rw [tb_0]; decide)]; exact ih _
theorem gOut_0 (m : jS) (B : Nat → Int32) : ∀ d, gOut m B d 0 = 0 := by
  intro d
  induction d with
  | zero => rfl
  | succ d ih => show gOut m B d (gIn m B 10 0 0) = 0; rw [gIn_0]; exact ih
theorem ofRule {x0 m0 x : jS} {n : Nat} {B : Nat → Int32} (hG : RG x0 m0 n) (hs : Sx x0 x) (h8 : ∀ e, e < n → x.1 8 e = B e) {r : Nat} (hr : r < 10) : f_X0_beginningsOfRule x (nI r) = some (if m0.1 4 r = -1 then 0 else B (m0.1 4 r).toNatClampNeg, x) := by
  have hn := hG.1
  obtain ⟨r1, r2⟩ := hG.2.2.2.2 r hr
  rw [r1] at r2
  have g5 : jag x 5 (nI r) = m0.1 4 r := by rw [jag_nI (by omega), hs.2 5 (by decide) (by decide) (by decide), r1]
  rw [f_X0_beginningsOfRule, job_nI hr (by omega), jl_eq, g5]
  rcases r2 with r2 | ⟨e, he, r2⟩
  · rw [r2, has_no, if_pos rfl]; rfl
  · rw [r2, has_yes hn (by rw [hs.1 0 (by decide), hG.2.1]) he, if_neg (nI_m1 (by omega)), nI_clamp (by omega)]
    simp only [Option.bind_some, job_nI (show e < 80 by omega) (by omega), cond_false, jag_nI (show e < 2 ^ 31 by omega), h8 e he]
    rfl
theorem loopX25 {x0 m0 x : jS} {n : Nat} {B : Nat → Int32} (hG : RG x0 m0 n) (hs : Sx x0 x) (h8 : ∀ e, e < n → x.1 8 e = B e) {K : jS → Int32 → Int32 → Int32 → Int32 → Option (Int32 × jS)} {v1 v3 : Int32} : ∀ (d k N : Nat) (v : Int32), k + d = 10 → d < N → f_X0_beginsWithItself_25 K N x v1 v v3 (nI k) = K x v1 (gIn m0 B d k v) v3 (nI 10) := by
  intro d
  induction d with
  | zero =>
    intro k N v hk hN
    obtain ⟨N, rfl⟩ : ∃ z, N = z + 1 := ⟨N - 1, by omega⟩
    have : k = 10 := by omega
    subst this
    rw [f_X0_beginsWithItself_25, if_pos (show nI 10 ≥ 10 from by decide)]
    rfl
  | succ d ih =>
    intro k N v hk hN
    obtain ⟨N, rfl⟩ : ∃ z, N = z + 1 := ⟨N - 1, by omega⟩
    rw [f_X0_beginsWithItself_25, if_neg (show ¬ nI k ≥ 10 from nI_ge (b := 10) (by omega) (by omega)), f_X5_bit, Option.bind_some]
    show _ = K x v1 (gIn m0 B d (k + 1) (gStep m0 B v k)) v3 (nI 10)
    rw [← ih (k + 1) N _ (by omega) (by omega), ofRule hG hs h8 (by omega)]
    cases ht : tb v k with
    | false =>
      rw [if_pos ((tb_andbit (by omega) v).mpr ht), show gStep m0 B v k = v from if_neg (by rw [ht]; decide)]
      simp only [jl, nI_1]
    | true =>
      rw [if_neg (fun hh => by rw [(tb_andbit (by omega) v).mp hh] at ht; cases ht)]
      simp only [Option.bind_some, jl, nI_1]
      unfold gStep
      rw [if_pos ht]
      by_cases hm : m0.1 4 k = -1
      · rw [if_pos hm, if_pos hm, Int32.or_zero]
      · rw [if_neg hm, if_neg hm]
theorem loopX16 {x0 m0 x : jS} {n : Nat} {B : Nat → Int32} (hG : RG x0 m0 n) (hs : Sx x0 x) (h8 : ∀ e, e < n → x.1 8 e = B e) {K : jS → Int32 → Int32 → Int32 → Option (Int32 × jS)} {v1 : Int32} : ∀ (d k N : Nat) (v : Int32), k + d = 10 → d < N → f_X0_beginsWithItself_16 K N x v1 v (nI k) = K x v1 (gOut m0 B d v) (nI 10) := by
  intro d
  induction d with
  | zero =>
    intro k N v hk hN
    obtain ⟨N, rfl⟩ : ∃ z, N = z + 1 := ⟨N - 1, by omega⟩
    have : k = 10 := by omega
    subst this
    rw [f_X0_beginsWithItself_16, if_pos (show nI 10 ≥ 10 from by decide)]
    rfl
  | succ d ih =>
    intro k N v hk hN
    obtain ⟨N, rfl⟩ : ∃ z, N = z + 1 := ⟨N - 1, by omega⟩
    rw [f_X0_beginsWithItself_16, if_neg (show ¬ nI k ≥ 10 from nI_ge (b := 10) (by omega) (by omega))]
    refine Eq.trans (loopX25 hG hs h8 (K := fun s16 y12 y13 y14 y15 =>
      jl (y14 + 1) fun x17 =>
      f_X0_beginsWithItself_16 K N s16 y12 y13 x17) (v1 := v1) (v3 := nI k) 10 0 jFuel v rfl (jFuel_gt (by omega))) ?_
    rw [jl_eq, nI_1]
    exact ih (k + 1) N _ (by omega) (by omega)
theorem loopM62 {x0 m0 m : jS} {n : Nat} (hG : RG x0 m0 n) (hs : Sm m0 m) {K : jS → Int32 → Int32 → Int32 → Int32 → Option (Int32 × jS)} {v1 v3 : Int32} : ∀ (d k N : Nat) (v : Int32), k + d = 10 → d < N → f_X6_isLeftRecursive_62 K N m v1 v v3 (nI k) = K m v1 (gIn m0 (m.1 19) d k v) v3 (nI 10) := by
  have hn := hG.1
  intro d
  induction d with
  | zero =>
    intro k N v hk hN
    obtain ⟨N, rfl⟩ : ∃ z, N = z + 1 := ⟨N - 1, by omega⟩
    have : k = 10 := by omega
    subst this
    rw [f_X6_isLeftRecursive_62, if_pos (show nI 10 ≥ 10 from by decide)]
    rfl
  | succ d ih =>
    intro k N v hk hN
    obtain ⟨N, rfl⟩ : ∃ z, N = z + 1 := ⟨N - 1, by omega⟩
    obtain ⟨r1, r2⟩ := hG.2.2.2.2 k (by omega)
    rw [r1] at r2
    have g5 : jag m 4 (nI k) = m0.1 4 k := by rw [jag_nI (by omega), hs.2 4 (by decide) (by decide) (by decide)]
    have j10 : job (nI k) 10 = false := job_nI (by omega) (by omega)
    rw [f_X6_isLeftRecursive_62, if_neg (show ¬ nI k ≥ 10 from nI_ge (b := 10) (by omega) (by omega))]
    show _ = K m v1 (gIn m0 (m.1 19) d (k + 1) (gStep m0 (m.1 19) v k)) v3 (nI 10)
    rw [← ih (k + 1) N _ (by omega) (by omega)]
    cases ht : tb v k with
    | false =>
      rw [if_neg (fun hh => by rw [(tb_shr (by omega) v).mp hh] at ht; cases ht), show gStep m0 (m.1 19) v k = v from if_neg (by rw [ht]; decide)]
      simp only [jl, nI_1]
    | true =>
      rw [if_pos ((tb_shr (by omega) v).mpr ht)]
      simp only [jl, nI_1, j10, cond_false, g5]
      unfold gStep
      rw [if_pos ht]
      rcases r2 with r2 | ⟨e, he, r2⟩
      · rw [if_pos r2, if_pos r2]
      · rw [r2, if_neg (nI_m1 (by omega)), if_neg (nI_m1 (by omega)), job_nI (show e < 80 by omega) (by omega), jag_nI (by omega), nI_clamp (by omega)]
        rfl
theorem loopM53 {x0 m0 m : jS} {n : Nat} (hG : RG x0 m0 n) (hs : Sm m0 m) {K : jS → Int32 → Int32 → Int32 → Option (Int32 × jS)} {v1 : Int32} : ∀ (d k N : Nat) (v : Int32), k + d = 10 → d < N → f_X6_isLeftRecursive_53 K N m v1 v (nI k) = K m v1 (gOut m0 (m.1 19) d v) (nI 10) := by
  intro d
  induction d with
  | zero =>
    intro k N v hk hN
    obtain ⟨N, rfl⟩ : ∃ z, N = z + 1 := ⟨N - 1, by omega⟩
    have : k = 10 := by omega
    subst this
    rw [f_X6_isLeftRecursive_53, if_pos (show nI 10 ≥ 10 from by decide)]
    rfl
  | succ d ih =>
    intro k N v hk hN
    obtain ⟨N, rfl⟩ : ∃ z, N = z + 1 := ⟨N - 1, by omega⟩
    rw [f_X6_isLeftRecursive_53, if_neg (show ¬ nI k ≥ 10 from nI_ge (b := 10) (by omega) (by omega))]
    refine Eq.trans (loopM62 hG hs (K := fun s26 y22 y23 y24 y25 =>
      jl (y24 + 1) fun x27 =>
      f_X6_isLeftRecursive_53 K N s26 y22 y23 x27) (v1 := v1) (v3 := nI k) 10 0 jFuel v rfl (jFuel_gt (by omega))) ?_
    rw [jl_eq, nI_1]
    exact ih (k + 1) N _ (by omega) (by omega)
theorem lh_isLeftRecursive : LH_isLeftRecursive Rel := by
  intro x m out a h
  obtain ⟨n, sz, hG, hT, hM, hP, hC⟩ := id h
  have hn := hG.1
  by_cases ha : ∃ r, r < 10 ∧ a = nI r
  · obtain ⟨r, hr, rfl⟩ := ha
    have hG0 : RG x (jis m 0 0) n := hG
    obtain ⟨x1, a1, a2, a3⟩ := findX hG0
    obtain ⟨x2, c1, c2, c3⟩ := findXb hG0 a2 a3
    obtain ⟨m', b1, b2, b3, b4⟩ := findM hG0
    have h8 := bFix hG0 c3 b4
    have j10 : job (nI r) 10 = false := job_nI (by omega) (by omega)
    obtain ⟨r1, r2⟩ := hG0.2.2.2.2 r hr
    rw [r1] at r2
    have h5 : ∃ v, v = gOut (jis m 0 0) (m'.1 19) 10 (if (jis m 0 0).1 4 r = -1 then 0 else m'.1 19 ((jis m 0 0).1 4 r).toNatClampNeg) ∧ f_X5_isLeftRecursive x (nI r) = some (0, bI (tb v r), x2) := by
      refine ⟨_, rfl, ?_⟩
      rw [f_X5_isLeftRecursive, refR_yes hr, Option.bind_some, if_neg (by decide), f_X0_beginsWithItself, a1, Option.bind_some, c1, Option.bind_some, ofRule hG0 c2 h8 hr, Option.bind_some]
      generalize hv : (if (jis m 0 0).1 4 r = -1 then (0 : Int32) else m'.1 19 ((jis m 0 0).1 4 r).toNatClampNeg) = v0
      rw [show f_X0_beginsWithItself_16 (fun s21 y18 y19 y20 => (f_X5_bit y18).bind fun r22 => if (y19 &&& r22) = 0 then some (0, s21) else some (1, s21)) jFuel x2 (nI r) v0 0 = some (bI (tb (gOut (jis m 0 0) (m'.1 19) 10 v0) r), x2) from ?_]
      · rw [Option.bind_some, bI_jnb]; rfl
      · refine Eq.trans (loopX16 hG0 c2 h8 (v1 := nI r) 10 0 jFuel v0 rfl (jFuel_gt (by omega))) ?_
        generalize gOut (jis m 0 0) (m'.1 19) 10 v0 = w
        show (if w &&& (1 : Int32) <<< (nI r &&& 31) = 0 then some ((0 : Int32), x2) else some (1, x2)) = _
        cases ht : tb w r with
        | false => rw [if_pos ((tb_andbit hr w).mpr ht)]; rfl
        | true => rw [if_neg (fun hh => by rw [(tb_andbit hr w).mp hh] at ht; cases ht)]; rfl
    obtain ⟨v, hv, h5⟩ := h5
    have hL : f_L_isLeftRecursive (x, out) (nI r) = some (0, (x2, vp_updL out (0 : Int32).toNatClampNeg (if bI (tb v r) = 0 then 0 else 1))) := by
      rw [f_L_isLeftRecursive]
      show ((f_X5_isLeftRecursive x (nI r)).bind _) = _
      rw [h5]
      cases tb v r <;> rfl
    rcases r2 with r2 | ⟨e, he, r2⟩
    · have h0 : tb v r = false := by
        rw [hv, if_pos r2, gOut_0, tb_0]
      rw [h0] at hL
      have h6 : f_X6_isLeftRecursive m (nI r) = some (bI false, jis m 0 0) := by
        rw [f_X6_isLeftRecursive, isR_yes hr, Option.bind_some, if_neg (show ¬ (1 : Int32) = 0 by decide), jl_eq, if_pos (show (jis m 0 0).2 0 = 0 from rfl), j10, jag_nI (by omega), r2, if_pos rfl]
        rfl
      exact lhz_ok (b := false) hL h6 rfl (Rel.forms (m := jis m 0 0) h c2 ⟨rfl, fun _ _ _ _ => rfl⟩)
    · have h6 : f_X6_isLeftRecursive m (nI r) = some (bI (tb v r), m') := by
        have g4 : jag m' 4 (nI r) = nI e := by rw [jag_nI (by omega), b2.2 4 (by decide) (by decide) (by decide), r2]
        rw [f_X6_isLeftRecursive, isR_yes hr, Option.bind_some, if_neg (show ¬ (1 : Int32) = 0 by decide), jl_eq, if_pos (show (jis m 0 0).2 0 = 0 from rfl), j10, jag_nI (by omega), r2, if_neg (nI_m1 (by omega)), b1, Option.bind_some, g4, job_nI (show e < 80 by omega) (by omega), jl_eq, jag_nI (by omega)]
        repeat rw [cond_false]
        refine Eq.trans (loopM53 hG0 b2 (v1 := nI r) 10 0 jFuel _ rfl (jFuel_gt (by omega))) ?_
        rw [r2, if_neg (nI_m1 (by omega)), nI_clamp (by omega)] at hv
        rw [← hv]
        cases ht : tb v r with
        | true => rw [if_pos ((tb_shr hr v).mpr ht)]; rfl
        | false => rw [if_neg (fun hh => by rw [(tb_shr hr v).mp hh] at ht; cases ht)]; rfl
      exact lhz_ok (b := tb v r) hL h6 (by rw [b2.1]; rfl) (Rel.forms (m := jis m 0 0) h c2 b2)
  · have h5 : f_X5_isLeftRecursive x a = some (3, 0, x) := by rw [f_X5_isLeftRecursive, refR_no ha]; rfl
    have h6 : f_X6_isLeftRecursive m a = some (0, jis m 0 1) := by
      rw [f_X6_isLeftRecursive, isR_no ha, Option.bind_some, if_pos rfl, jl_eq, if_neg (show ¬ (jis m 0 1).2 0 = 0 from by show ¬ (1 : Int32) = 0; decide)]
    refine lhz_no (c := 1) ?_ h6 rfl (by decide) h
    show f_L_isLeftRecursive (x, out) a = _
    rw [f_L_isLeftRecursive]
    show ((f_X5_isLeftRecursive x a).bind _) = _
    rw [h5]
    rfl
end L2Fc
