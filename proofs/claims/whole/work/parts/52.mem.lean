/-! the memory: put, drop, clear, count; forgetAll, countAll; remembered, forget, define, byteAt, result, reach -/
section L2C
def cnt (f : Nat → Nat) : Nat → Nat
  | 0 => 0
  | n + 1 => cnt f n + f n
theorem cnt_add (f : Nat → Nat) (a : Nat) : ∀ b, cnt f (a + b) = cnt f a + cnt (fun j => f (a + j)) b := by
  intro b
  induction b with
  | zero => rfl
  | succ b ih => rw [← Nat.add_assoc]; simp only [cnt]; rw [ih]; omega
theorem cnt_mul (f : Nat → Nat) (a : Nat) : ∀ b, cnt f (a * b) = cnt (fun i => cnt (fun j => f (a * i + j)) a) b := by
  intro b
  induction b with
  | zero => rfl
  | succ b ih => rw [Nat.mul_succ, cnt_add, ih]; rfl
theorem cnt_congr {f g : Nat → Nat} : ∀ n, (∀ i, i < n → f i = g i) → cnt f n = cnt g n := by
  intro n
  induction n with
  | zero => intro _; rfl
  | succ n ih => intro h; simp only [cnt]; rw [ih (fun i hi => h i (by omega)), h n (by omega)]
theorem cnt_plus (f g : Nat → Nat) : ∀ n, cnt (fun i => f i + g i) n = cnt f n + cnt g n := by
  intro n
  induction n with
  | zero => rfl
  | succ n ih => simp only [cnt]; rw [ih]; omega
theorem cnt_zero : ∀ n, cnt (fun _ => 0) n = 0 := by
  intro n
  induction n with
  | zero => rfl
  | succ n ih => simp only [cnt]; rw [ih]
theorem cnt_swap (g : Nat → Nat → Nat) (a : Nat) : ∀ b, cnt (fun i => cnt (fun j => g i j) a) b = cnt (fun j => cnt (fun i => g i j) b) a := by
  intro b
  induction b with
  | zero => simp only [cnt]; rw [cnt_zero]
  | succ b ih => simp only [cnt]; rw [ih, ← cnt_plus]
theorem cnt_le (f : Nat → Nat) (h : ∀ i, f i ≤ 1) : ∀ n, cnt f n ≤ n := by
  intro n
  induction n with
  | zero => exact Nat.le_refl _
  | succ n ih => simp only [cnt]; have := h n; omega
theorem jas_nI {st : jS} {a k : Nat} {v : Int32} (h : k < 2 ^ 31) : jas st a (nI k) v = jaf st a (upd (st.1 a) k v) := by show jaf st a (upd (st.1 a) (nI k).toNatClampNeg v) = _; rw [nI_clamp h]
theorem nar0 : vp_nar .boolean 0 = 0 := by decide
theorem nar1 : vp_nar .boolean 1 = 1 := by decide
theorem jFuel_gt {k : Nat} (h : k < 100000) : k < jFuel := h
def kX (x : jS) (c : Nat) : Nat := if x.1 12 c = -3 then 0 else 1
def kM (m : jS) (c : Nat) : Nat := if m.1 6 c = 0 then 0 else 1
theorem kXM {x m : jS} {sz : Nat} (hsz : sz ≤ 40) (h : RMe x m sz) : cnt (kX x) 410 = cnt (kM m) 410 := by
  rw [show (410 : Nat) = 10 * 41 from rfl, cnt_mul, show (10 * 41 : Nat) = 41 * 10 from rfl, cnt_mul, cnt_swap (fun i j => kM m (41 * i + j))]
  refine cnt_congr 41 (fun p hp => cnt_congr 10 (fun r hr => ?_))
  rcases h r p hr (by omega) with h1 | h1
  · unfold kX kM
    rw [if_pos h1.2.1, if_pos h1.1]
  · obtain ⟨h1, h2, h3, h4, h5, w, hw, h6, h7, h8⟩ := h1
    have e1 : ¬ x.1 12 (10 * p + r) = -3 := by
      rw [h3]
      rcases h8 with h8 | ⟨q, h8, h9, h10, h11⟩
      · rw [h8]; decide
      · rw [h8]; exact nI_m3 (by have := h2; omega)
    have e2 : ¬ m.1 6 (41 * r + p) = 0 := by rw [h1]; decide
    unfold kX kM
    rw [if_neg e1, if_neg e2]
theorem holds_eq {x : jS} {c : Nat} (h : c < 410) : f_X1_holds x (nI c) = some (if x.1 12 c = -3 then 0 else 1, x) := by
  unfold f_X1_holds
  rw [job_nI h (by omega), jag_nI (by omega)]
  by_cases hc : x.1 12 c = -3
  · simp [hc]
  · simp [hc]
theorem count_loop {x : jS} {K : jS → Int32 → Int32 → Option (Int32 × jS)} : ∀ (d k N : Nat), k + d = 410 → d < N → f_X1_count_4 K N x (nI (cnt (kX x) k)) (nI k) = K x (nI (cnt (kX x) 410)) (nI 410) := by
  intro d
  induction d with
  | zero =>
    intro k N hk hN
    obtain ⟨N, rfl⟩ : ∃ z, N = z + 1 := ⟨N - 1, by omega⟩
    have : k = 410 := by omega
    subst this
    rw [f_X1_count_4, if_pos (show nI 410 ≥ 410 from by decide)]
  | succ d ih =>
    intro k N hk hN
    obtain ⟨N, rfl⟩ : ∃ z, N = z + 1 := ⟨N - 1, by omega⟩
    rw [f_X1_count_4, if_neg (show ¬ nI k ≥ 410 from nI_ge (b := 410) (by omega) (by omega)), holds_eq (by omega)]
    have hs : cnt (kX x) (k + 1) = cnt (kX x) k + kX x k := rfl
    by_cases hc : x.1 12 k = -3
    · have : kX x k = 0 := if_pos hc
      have hs : cnt (kX x) (k + 1) = cnt (kX x) k := by show cnt (kX x) k + kX x k = _; rw [this]; rfl
      simp only [hc, Option.bind_some, if_true, jl]
      rw [nI_1, ← ih (k + 1) N (by omega) (by omega), hs]
    · have : kX x k = 1 := if_neg hc
      rw [this] at hs
      simp only [hc, Option.bind_some, if_false, jl]
      rw [if_neg (by decide), nI_1, nI_1, ← ih (k + 1) N (by omega) (by omega), hs]
theorem count_eq (x : jS) : f_X1_count x = some (nI (cnt (kX x) 410), x) := by
  unfold f_X1_count
  have := count_loop (x := x) (K := fun s9 y7 y8 => some (y7, s9)) 410 0 jFuel rfl (jFuel_gt (by omega))
  exact this
theorem countAll_loop {m : jS} {K : jS → Int32 → Int32 → Option (Int32 × jS)} : ∀ (d k N : Nat), k + d = 410 → d < N → f_X6_countAll_4 K N m (nI (cnt (kM m) k)) (nI k) = K m (nI (cnt (kM m) 410)) (nI 410) := by
  intro d
  induction d with
  | zero =>
    intro k N hk hN
    obtain ⟨N, rfl⟩ : ∃ z, N = z + 1 := ⟨N - 1, by omega⟩
    have : k = 410 := by omega
    subst this
    rw [f_X6_countAll_4, if_pos (show nI 410 ≥ 410 from by decide)]
  | succ d ih =>
    intro k N hk hN
    obtain ⟨N, rfl⟩ : ∃ z, N = z + 1 := ⟨N - 1, by omega⟩
    rw [f_X6_countAll_4, if_neg (show ¬ nI k ≥ 410 from nI_ge (b := 410) (by omega) (by omega)), job_nI (by omega) (by omega), jag_nI (by omega)]
    have hs : cnt (kM m) (k + 1) = cnt (kM m) k + kM m k := rfl
    by_cases hc : m.1 6 k = 0
    · have : kM m k = 0 := if_pos hc
      have hs : cnt (kM m) (k + 1) = cnt (kM m) k := by show cnt (kM m) k + kM m k = _; rw [this]; rfl
      simp only [hc, if_true, jl, cond_false]
      rw [nI_1, ← ih (k + 1) N (by omega) (by omega), hs, Int32.add_zero]
    · have : kM m k = 1 := if_neg hc
      rw [this] at hs
      simp only [hc, if_false, jl, cond_false]
      rw [nI_1, nI_1, ← ih (k + 1) N (by omega) (by omega), hs]
theorem countAll_eq (m : jS) : f_X6_countAll m = some (nI (cnt (kM m) 410), m) := by
  unfold f_X6_countAll
  have := countAll_loop (m := m) (K := fun s9 y7 y8 => some (y7, s9)) 410 0 jFuel rfl (jFuel_gt (by omega))
  exact this
theorem lh_remembered : LH_remembered Rel := by
  intro x m h
  obtain ⟨n, sz, hG, hT, hM, hP, hC⟩ := id h
  refine ⟨(nI (cnt (kX x) 410), x), (nI (cnt (kM m) 410), jis m 0 0), ?_, ?_, ?_, h⟩
  · simp [f_X5_remembered, count_eq]
  · have : kM (jis m 0 0) = kM m := rfl
    simp [f_X6_remembered, jl, countAll_eq, this]
  · show nI _ = nI _
    rw [kXM hT.1 hM]
/-- one cell of the class's memory is written -/
theorem put_eq {x : jS} {c : Nat} {a b d : Int32} (h : c < 410) : ∃ x', f_X1_put x (nI c) a b d = some x' ∧ x'.2 = x.2 ∧ (∀ j, j ≠ 12 → j ≠ 13 → j ≠ 14 → x'.1 j = x.1 j) ∧ x'.1 12 = upd (x.1 12) c a ∧ x'.1 13 = upd (x.1 13) c b ∧ x'.1 14 = upd (x.1 14) c d := by
  refine ⟨jaf (jaf (jaf x 12 (upd (x.1 12) c a)) 13 (upd (x.1 13) c b)) 14 (upd (x.1 14) c d), ?_, rfl, ?_, rfl, rfl, rfl⟩
  · unfold f_X1_put
    simp only [jl]
    rw [job_nI h (by omega), jas_nI (by omega), jas_nI (by omega), jas_nI (by omega)]
    rfl
  · intro j h1 h2 h3
    show va_up (va_up (va_up x.1 12 _) 13 _) 14 _ j = _
    rw [va_up_ne _ _ h3, va_up_ne _ _ h2, va_up_ne _ _ h1]
theorem drop_eq {x : jS} {c : Nat} (h : c < 410) : ∃ x', f_X1_drop x (nI c) = some x' ∧ x'.2 = x.2 ∧ (∀ j, j ≠ 12 → j ≠ 13 → j ≠ 14 → x'.1 j = x.1 j) ∧ x'.1 12 = upd (x.1 12) c (-3) ∧ x'.1 13 = upd (x.1 13) c (-1) ∧ x'.1 14 = upd (x.1 14) c 0 := by
  obtain ⟨x', h1, h2⟩ := put_eq (x := x) (a := -3) (b := -1) (d := 0) h
  exact ⟨x', by simp [f_X1_drop, h1], h2⟩
theorem clear_loop {K : jS → Int32 → Option jS} : ∀ (d k N : Nat) (x : jS), k + d = 410 → d < N → ∃ x', f_X1_clear_2 K N x (nI k) = K x' (nI 410) ∧ x'.2 = x.2 ∧ (∀ j, j ≠ 12 → j ≠ 13 → j ≠ 14 → x'.1 j = x.1 j) ∧ (∀ c, k ≤ c → c < 410 → x'.1 12 c = -3 ∧ x'.1 13 c = -1) ∧ ∀ c, c < k → x'.1 12 c = x.1 12 c ∧ x'.1 13 c = x.1 13 c := by
  intro d
  induction d with
  | zero =>
    intro k N x hk hN
    obtain ⟨N, rfl⟩ : ∃ z, N = z + 1 := ⟨N - 1, by omega⟩
    have : k = 410 := by omega
    subst this
    refine ⟨x, ?_, rfl, fun _ _ _ _ => rfl, fun c h1 h2 => by omega, fun c _ => ⟨rfl, rfl⟩⟩
    rw [f_X1_clear_2, if_pos (show nI 410 ≥ 410 from by decide)]
  | succ d ih =>
    intro k N x hk hN
    obtain ⟨N, rfl⟩ : ∃ z, N = z + 1 := ⟨N - 1, by omega⟩
    obtain ⟨x1, e1, e2, e3, e4, e5, e6⟩ := drop_eq (x := x) (c := k) (by omega)
    obtain ⟨x', g1, g2, g3, g4, g5⟩ := ih (k + 1) N x1 (by omega) (by omega)
    refine ⟨x', ?_, g2.trans e2, fun j a b c => (g3 j a b c).trans (e3 j a b c), fun c h1 h2 => ?_, fun c h1 => ?_⟩
    · rw [f_X1_clear_2, if_neg (show ¬ nI k ≥ 410 from nI_ge (b := 410) (by omega) (by omega)), e1]
      simp only [Option.bind_some, jl]
      rw [nI_1, g1]
    · by_cases hc : c = k
      · subst hc
        rw [(g5 c (by omega)).1, (g5 c (by omega)).2, e4, e5, upd_self, upd_self]
        exact ⟨rfl, rfl⟩
      · exact g4 c (by omega) h2
    · rw [(g5 c (by omega)).1, (g5 c (by omega)).2, e4, e5, upd_ne (by omega), upd_ne (by omega)]
      exact ⟨rfl, rfl⟩
theorem clear_eq (x : jS) : ∃ x', f_X1_clear x = some x' ∧ x'.2 = x.2 ∧ (∀ j, j ≠ 12 → j ≠ 13 → j ≠ 14 → x'.1 j = x.1 j) ∧ ∀ c, c < 410 → x'.1 12 c = -3 ∧ x'.1 13 c = -1 := by
  obtain ⟨x', h1, h2, h3, h4, h5⟩ := clear_loop (K := fun s5 y4 => some s5) 410 0 jFuel x rfl (jFuel_gt (by omega))
  exact ⟨x', h1, h2, h3, fun c hc => h4 c (by omega) hc⟩
theorem forgetAll_loop {K : jS → Int32 → Int32 → Option (Int32 × jS)} {v : Int32} : ∀ (d k N : Nat) (m : jS), k + d = 410 → d < N → ∃ m', f_X6_forgetAll_7 K N m v (nI k) = K m' v (nI 410) ∧ m'.2 = m.2 ∧ (∀ j, j ≠ 6 → m'.1 j = m.1 j) ∧ (∀ c, k ≤ c → c < 410 → m'.1 6 c = 0) ∧ ∀ c, c < k → m'.1 6 c = m.1 6 c := by
  intro d
  induction d with
  | zero =>
    intro k N m hk hN
    obtain ⟨N, rfl⟩ : ∃ z, N = z + 1 := ⟨N - 1, by omega⟩
    have : k = 410 := by omega
    subst this
    refine ⟨m, ?_, rfl, fun _ _ => rfl, fun c h1 h2 => by omega, fun c _ => rfl⟩
    rw [f_X6_forgetAll_7, if_pos (show nI 410 ≥ 410 from by decide)]
  | succ d ih =>
    intro k N m hk hN
    obtain ⟨N, rfl⟩ : ∃ z, N = z + 1 := ⟨N - 1, by omega⟩
    obtain ⟨m', g1, g2, g3, g4, g5⟩ := ih (k + 1) N (jaf m 6 (upd (m.1 6) k 0)) (by omega) (by omega)
    refine ⟨m', ?_, g2, fun j a => (g3 j a).trans (va_up_ne _ _ a), fun c h1 h2 => ?_, fun c h1 => ?_⟩
    · rw [f_X6_forgetAll_7, if_neg (show ¬ nI k ≥ 410 from nI_ge (b := 410) (by omega) (by omega)), job_nI (by omega) (by omega)]
      simp only [jl, cond_false]
      rw [nI_1, nar0, jas_nI (by omega)]
      exact g1
    · by_cases hc : c = k
      · subst hc
        rw [g5 c (by omega)]
        exact upd_self _ _ _
      · exact g4 c (by omega) h2
    · rw [g5 c (by omega)]
      exact upd_ne (by omega)
theorem forgetAll_eq (m : jS) : ∃ m', f_X6_forgetAll m = some (nI (cnt (kM m) 410), m') ∧ m'.2 = m.2 ∧ (∀ j, j ≠ 6 → m'.1 j = m.1 j) ∧ ∀ c, c < 410 → m'.1 6 c = 0 := by
  obtain ⟨m', h1, h2, h3, h4, h5⟩ := forgetAll_loop (K := fun s8 y6 y7 => some (y6, s8)) (v := nI (cnt (kM m) 410)) 410 0 jFuel m rfl (jFuel_gt (by omega))
  refine ⟨m', ?_, h2, h3, fun c hc => h4 c (by omega) hc⟩
  unfold f_X6_forgetAll
  rw [countAll_eq]
  simp only [Option.bind_some]
  exact h1
/-- all is forgotten -/
theorem Rel.cleared {x m x' m' : jS} (h : Rel x m) (a2 : x'.2 = x.2) (a3 : ∀ j, j ≠ 12 → j ≠ 13 → j ≠ 14 → x'.1 j = x.1 j) (a4 : ∀ c, c < 410 → x'.1 12 c = -3 ∧ x'.1 13 c = -1) (b2 : m'.2 = m.2) (b3 : ∀ j, j ≠ 6 → m'.1 j = m.1 j) (b4 : ∀ c, c < 410 → m'.1 6 c = 0) : Rel x' m' := by
  obtain ⟨n, sz, hG, hT, hM, hP, hC⟩ := h
  have x2 := a3 2 (by decide) (by decide) (by decide)
  have x3 := a3 3 (by decide) (by decide) (by decide)
  have x4 := a3 4 (by decide) (by decide) (by decide)
  have x5 := a3 5 (by decide) (by decide) (by decide)
  have x10 := a3 10 (by decide) (by decide) (by decide)
  have x23 := a3 23 (by decide) (by decide) (by decide)
  have x24 := a3 24 (by decide) (by decide) (by decide)
  have m1 := b3 1 (by decide)
  have m2 := b3 2 (by decide)
  have m3 := b3 3 (by decide)
  have m4 := b3 4 (by decide)
  have m5 := b3 5 (by decide)
  refine ⟨n, sz, ?_, ?_, ?_, ?_, ?_⟩
  · unfold RG RE at hG ⊢
    rw [a2, b2, x2, x3, x4, x5, m1, m2, m3, m4]
    exact hG
  · unfold RT at hT ⊢
    rw [a2, b2, x10, m5]
    exact hT
  · intro r p hr hp
    exact Or.inl ⟨b4 _ (by omega), (a4 _ (by omega)).1, (a4 _ (by omega)).2⟩
  · unfold RP at hP ⊢
    rw [a2, x23, x24]
    exact hP
  · unfold RC at hC ⊢
    rw [a2, b2]
    exact hC
theorem lh_forget : LH_forget Rel := by
  intro x m h
  obtain ⟨n, sz, hG, hT, hM, hP, hC⟩ := id h
  obtain ⟨x', e1, e2, e3, e4⟩ := clear_eq x
  obtain ⟨m', g1, g2, g3, g4⟩ := forgetAll_eq (jis m 0 0)
  refine ⟨(nI (cnt (kX x) 410), x'), (nI (cnt (kM m) 410), m'), ?_, ?_, ?_, Rel.cleared (m := jis m 0 0) h e2 e3 e4 g2 g3 g4⟩
  · simp [f_X5_forget, count_eq, e1]
  · have : kM (jis m 0 0) = kM m := rfl
    simp [f_X6_forget, jl, g1, this]
  · show nI _ = nI _
    rw [kXM hT.1 hM]
theorem refP_yes {x : jS} {sz p : Nat} (hs : sz ≤ 40) (h : x.2 1 = nI sz) (hp : p ≤ sz) : f_X5_refuseUnknownPlace x (nI p) = some (0, x) := by
  have h1 : ¬ nI p < 0 := nI_pos (by omega)
  have h2 : nI p ≤ nI sz := nI_le hp (by omega)
  simp [f_X5_refuseUnknownPlace, h, h1, h2]
theorem num_no2 {a : Int32} {n : Nat} (hn : n < 2 ^ 31) (h : ¬ ∃ e, e ≤ n ∧ a = nI e) : a < 0 ∨ (¬ a < 0 ∧ nI n < a) := by
  by_cases h0 : a < 0
  · exact Or.inl h0
  · refine Or.inr ⟨h0, ?_⟩
    obtain ⟨j, hj, rfl⟩ := nI_of h0
    refine nI_lt ?_ hj
    exact Nat.lt_of_not_le (fun hl => h ⟨j, hl, rfl⟩)
theorem refP_no {x : jS} {sz : Nat} {a : Int32} (hs : sz ≤ 40) (h : x.2 1 = nI sz) (ha : ¬ ∃ p, p ≤ sz ∧ a = nI p) : f_X5_refuseUnknownPlace x a = some (3, x) := by
  unfold f_X5_refuseUnknownPlace
  rcases num_no2 (by omega) ha with h1 | ⟨h0, h1⟩
  · rw [if_pos h1]
  · rw [if_neg h0, if_neg (by rw [h]; exact Int32.not_le.mpr h1)]
theorem isP_yes {m : jS} {sz p : Nat} (hs : sz ≤ 40) (h : m.2 2 = nI sz) (hp : p ≤ sz) : f_X6_isPlace m (nI p) = some (1, m) := by
  have h1 : ¬ nI p < 0 := nI_pos (by omega)
  have h2 : ¬ nI p > m.2 2 := by rw [h]; exact nI_nlt hp (by omega)
  unfold f_X6_isPlace
  rw [if_neg h1, if_neg h2]
theorem isP_no {m : jS} {sz : Nat} {a : Int32} (hs : sz ≤ 40) (h : m.2 2 = nI sz) (ha : ¬ ∃ p, p ≤ sz ∧ a = nI p) : f_X6_isPlace m a = some (0, m) := by
  unfold f_X6_isPlace
  rcases num_no2 (by omega) ha with h1 | ⟨h0, h1⟩
  · rw [if_pos h1]
  · rw [if_neg h0, if_pos (by rw [h]; exact h1)]
theorem cell_eq (r p : Nat) : f_X5_cell (nI r) (nI p) = some (nI (10 * p + r)) := by
  unfold f_X5_cell
  rw [show (10 : Int32) = nI 10 from rfl, nI_mul, nI_add, Nat.mul_comm]
theorem cellM_eq (r p : Nat) : 41 * nI r + nI p = nI (41 * r + p) := by
  rw [show (41 : Int32) = nI 41 from rfl, nI_mul, nI_add]
theorem lh_result : LH_result Rel := by
  intro x m out a b h
  obtain ⟨n, sz, hG, hT, hM, hP, hC⟩ := id h
  have hm2 : (jis m 0 0).2 2 = nI sz := hT.2.2.1
  by_cases ha : ∃ r, r < 10 ∧ a = nI r
  · obtain ⟨r, hr, rfl⟩ := ha
    by_cases hb : ∃ p, p ≤ sz ∧ b = nI p
    · obtain ⟨p, hp, rfl⟩ := hb
      have hsz := hT.1
      have j1 : job (nI (10 * p + r)) 410 = false := job_nI (by omega) (by omega)
      have j2 : job (nI (41 * r + p)) 410 = false := job_nI (by omega) (by omega)
      have h5 : f_X5_result x (nI r) (nI p) = some (0, x.1 12 (10 * p + r), x) := by
        simp [f_X5_result, refR_yes hr, refP_yes hT.1 hT.2.1 hp, cell_eq, j1, jag_nI (show 10 * p + r < 2 ^ 31 by omega)]
      rcases hM r p hr (by omega) with h1 | h1
      · have h6 : f_X6_result m (nI r) (nI p) = some (-3, jis m 0 0) := by
          simp [f_X6_result, jl, isR_yes hr, isP_yes hT.1 hm2 hp, cellM_eq, j2, jag_nI (show 41 * r + p < 2 ^ 31 by omega), h1.1]
        exact lhw_ok (v := -3) (x' := x) (by simp [f_L_result, h5, h1.2.1]) h6 rfl h
      · have e0 : ¬ m.1 6 (41 * r + p) = 0 := by rw [h1.1]; decide
        have h6 : f_X6_result m (nI r) (nI p) = some (m.1 7 (41 * r + p), jis m 0 0) := by
          simp [f_X6_result, jl, isR_yes hr, isP_yes hT.1 hm2 hp, cellM_eq, j2, jag_nI (show 41 * r + p < 2 ^ 31 by omega), e0]
        exact lhw_ok (v := m.1 7 (41 * r + p)) (x' := x) (by simp [f_L_result, h5, h1.2.2.1]) h6 rfl h
    · have h5 : f_X5_result x (nI r) b = some (3, 0, x) := by simp [f_X5_result, refR_yes hr, refP_no hT.1 hT.2.1 hb]
      have h6 : f_X6_result m (nI r) b = some (0, jis (jis m 0 0) 0 1) := by simp [f_X6_result, jl, isR_yes hr, isP_no hT.1 hm2 hb, f_X6_fail_eq]
      exact lhw_no (c := 1) (by simp [f_L_result, h5]) h6 (by decide) h
  · have h5 : f_X5_result x a b = some (3, 0, x) := by simp [f_X5_result, refR_no ha]
    have h6 : f_X6_result m a b = some (0, jis (jis m 0 0) 0 1) := by simp [f_X6_result, jl, isR_no ha, f_X6_fail_eq]
    exact lhw_no (c := 1) (by simp [f_L_result, h5]) h6 (by decide) h
theorem lh_reach : LH_reach Rel := by
  intro x m out a b h
  obtain ⟨n, sz, hG, hT, hM, hP, hC⟩ := id h
  have hm2 : (jis m 0 0).2 2 = nI sz := hT.2.2.1
  by_cases ha : ∃ r, r < 10 ∧ a = nI r
  · obtain ⟨r, hr, rfl⟩ := ha
    by_cases hb : ∃ p, p ≤ sz ∧ b = nI p
    · obtain ⟨p, hp, rfl⟩ := hb
      have hsz := hT.1
      have j1 : job (nI (10 * p + r)) 410 = false := job_nI (by omega) (by omega)
      have j2 : job (nI (41 * r + p)) 410 = false := job_nI (by omega) (by omega)
      have h5 : f_X5_reach x (nI r) (nI p) = some (0, x.1 13 (10 * p + r), x) := by
        simp [f_X5_reach, refR_yes hr, refP_yes hT.1 hT.2.1 hp, cell_eq, j1, jag_nI (show 10 * p + r < 2 ^ 31 by omega)]
      rcases hM r p hr (by omega) with h1 | h1
      · have h6 : f_X6_reach m (nI r) (nI p) = some (-1, jis m 0 0) := by
          simp [f_X6_reach, jl, isR_yes hr, isP_yes hT.1 hm2 hp, cellM_eq, j2, jag_nI (show 41 * r + p < 2 ^ 31 by omega), h1.1]
        exact lhw_ok (v := -1) (x' := x) (by simp [f_L_reach, h5, h1.2.2]) h6 rfl h
      · have e0 : ¬ m.1 6 (41 * r + p) = 0 := by rw [h1.1]; decide
        have h6 : f_X6_reach m (nI r) (nI p) = some (m.1 8 (41 * r + p), jis m 0 0) := by
          simp [f_X6_reach, jl, isR_yes hr, isP_yes hT.1 hm2 hp, cellM_eq, j2, jag_nI (show 41 * r + p < 2 ^ 31 by omega), e0]
        exact lhw_ok (v := m.1 8 (41 * r + p)) (x' := x) (by simp [f_L_reach, h5, h1.2.2.2.1]) h6 rfl h
    · have h5 : f_X5_reach x (nI r) b = some (3, 0, x) := by simp [f_X5_reach, refR_yes hr, refP_no hT.1 hT.2.1 hb]
      have h6 : f_X6_reach m (nI r) b = some (0, jis (jis m 0 0) 0 1) := by simp [f_X6_reach, jl, isR_yes hr, isP_no hT.1 hm2 hb, f_X6_fail_eq]
      exact lhw_no (c := 1) (by simp [f_L_reach, h5]) h6 (by decide) h
  · have h5 : f_X5_reach x a b = some (3, 0, x) := by simp [f_X5_reach, refR_no ha]
    have h6 : f_X6_reach m a b = some (0, jis (jis m 0 0) 0 1) := by simp [f_X6_reach, jl, isR_no ha, f_X6_fail_eq]
    exact lhw_no (c := 1) (by simp [f_L_reach, h5]) h6 (by decide) h
theorem lh_byteAt : LH_byteAt Rel := by
  intro x m out a h
  obtain ⟨n, sz, hG, hT, hM, hP, hC⟩ := id h
  have hsz := hT.1
  have e1 : va_up m.2 0 0 2 = nI sz := hT.2.2.1
  by_cases ha : ∃ p, p < sz ∧ a = nI p
  · obtain ⟨p, hp, rfl⟩ := ha
    have h1 : ¬ nI p < 0 := nI_pos (by omega)
    have h2 : ¬ nI sz ≤ nI p := nI_ge hp (by omega)
    have j1 : job (nI p) 40 = false := job_nI (by omega) (by omega)
    have h5 : f_X5_byteAt x (nI p) = some (0, x.1 10 p, x) := by
      simp [f_X5_byteAt, f_X4_byteOrNone, f_X4_hasByte, hT.2.1, h1, h2, j1, jag_nI (show p < 2 ^ 31 by omega)]
    have h6 : f_X6_byteAt m (nI p) = some (m.1 5 p, jis m 0 0) := by
      simp [f_X6_byteAt, jl, e1, h1, h2, j1, jag_nI (show p < 2 ^ 31 by omega)]
    exact lhw_ok (v := m.1 5 p) (x' := x) (by simp [f_L_byteAt, h5, hT.2.2.2 p hp]) h6 rfl h
  · have key : f_X5_byteAt x a = some (3, 0, x) ∧ f_X6_byteAt m a = some (0, jis (jis m 0 0) 0 1) := by
      rcases num_no (by omega) ha with h1 | h1
      · exact ⟨by simp [f_X5_byteAt, f_X4_hasByte, h1], by simp [f_X6_byteAt, jl, h1, f_X6_fail_eq]⟩
      · exact ⟨by simp [f_X5_byteAt, f_X4_hasByte, hT.2.1, h1], by simp [f_X6_byteAt, jl, e1, h1, f_X6_fail_eq]⟩
    exact lhw_no (c := 1) (by simp [f_L_byteAt, key.1]) key.2 (by decide) h
end L2C
