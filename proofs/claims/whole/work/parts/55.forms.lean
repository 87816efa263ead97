/-! canBeEmpty, isLeftRecursive: the forms, as tables of truth values -/
section L2F
/-- can e be empty, by the rules R and the table T of the expressions ahead of it -/
def eStep (m : jS) (R T : Nat → Bool) (e : Nat) : Bool :=
  if m.1 1 e = 2 then false else if m.1 1 e = 3 then R (m.1 2 e).toNatClampNeg else if m.1 1 e = 4 then T (m.1 2 e).toNatClampNeg && T (m.1 3 e).toNatClampNeg else if m.1 1 e = 5 then T (m.1 2 e).toNatClampNeg || T (m.1 3 e).toNatClampNeg else true
def eTab (m : jS) (R : Nat → Bool) : Nat → Nat → Bool
  | 0 => fun _ => false
  | k + 1 => fun e => if e = k then eStep m R (eTab m R k) k else eTab m R k e
theorem eStep_mono {m : jS} {R R' T T' : Nat → Bool} {e : Nat} (hR : ∀ r, R r = true → R' r = true) (hT : ∀ r, T r = true → T' r = true) (h : eStep m R T e = true) : eStep m R' T' e = true := by
  unfold eStep at h ⊢
  by_cases h2 : m.1 1 e = 2
  · rw [if_pos h2] at h; cases h
  · rw [if_neg h2] at h ⊢
    by_cases h3 : m.1 1 e = 3
    · rw [if_pos h3] at h ⊢; exact hR _ h
    · rw [if_neg h3] at h ⊢
      by_cases h4 : m.1 1 e = 4
      · rw [if_pos h4] at h ⊢
        rw [Bool.and_eq_true] at h ⊢
        exact ⟨hT _ h.1, hT _ h.2⟩
      · rw [if_neg h4] at h ⊢
        by_cases h5 : m.1 1 e = 5
        · rw [if_pos h5] at h ⊢
          rw [Bool.or_eq_true] at h ⊢
          exact h.imp (hT _) (hT _)
        · rw [if_neg h5]
theorem eTab_mono {m : jS} {R R' : Nat → Bool} (hR : ∀ r, R r = true → R' r = true) : ∀ (k e : Nat), eTab m R k e = true → eTab m R' k e = true := by
  intro k
  induction k with
  | zero => intro e h; cases h
  | succ k ih =>
    intro e h
    show (if e = k then eStep m R' (eTab m R' k) k else eTab m R' k e) = true
    have h : (if e = k then eStep m R (eTab m R k) k else eTab m R k e) = true := h
    by_cases hk : e = k
    · rw [if_pos hk] at h ⊢; exact eStep_mono hR ih h
    · rw [if_neg hk] at h ⊢; exact ih e h
theorem eTab_stay {m : jS} {R : Nat → Bool} {e : Nat} : ∀ (d k : Nat), e < k → eTab m R (k + d) e = eTab m R k e := by
  intro d
  induction d with
  | zero => intro k _; rfl
  | succ d ih =>
    intro k h
    show (if e = k + d then eStep m R (eTab m R (k + d)) (k + d) else eTab m R (k + d) e) = _
    rw [if_neg (by omega), ih k h]
/-- the rules that can be empty, out of the table of the expressions -/
def rStep (m : jS) (T : Nat → Bool) (r : Nat) : Bool := if m.1 4 r = -1 ∨ 10 ≤ r then false else T (m.1 4 r).toNatClampNeg
/-- the rules after i rounds -/
def rIt (m : jS) (n : Nat) : Nat → Nat → Bool
  | 0 => fun _ => false
  | i + 1 => fun r => rStep m (eTab m (rIt m n i) n) r
theorem rStep_mono {m : jS} {T T' : Nat → Bool} {r : Nat} (h : ∀ e, T e = true → T' e = true) (hr : rStep m T r = true) : rStep m T' r = true := by
  unfold rStep at hr ⊢
  by_cases h1 : m.1 4 r = -1 ∨ 10 ≤ r
  · rw [if_pos h1] at hr; cases hr
  · rw [if_neg h1] at hr ⊢; exact h _ hr
theorem rIt_mono {m : jS} {n : Nat} : ∀ (i r : Nat), rIt m n i r = true → rIt m n (i + 1) r = true := by
  intro i
  induction i with
  | zero => intro r h; cases h
  | succ i ih => intro r h; exact rStep_mono (eTab_mono ih n) h
/-- once nothing is added, nothing changes any more -/
theorem rIt_stop {m : jS} {n i : Nat} (h : ∀ r, rIt m n (i + 1) r = rIt m n i r) : ∀ d, rIt m n (i + d) = rIt m n i := by
  intro d
  induction d with
  | zero => rfl
  | succ d ih =>
    funext r
    show rStep m (eTab m (rIt m n (i + d)) n) r = _
    rw [ih]
    exact h r
theorem eStep_congr {x m : jS} {R T T' : Nat → Bool} {e k : Nat} (he : e < 80) (h : RE x m e k) (hT : ∀ a, a < e → T a = T' a) : eStep m R T e = eStep m R T' e := by
  obtain ⟨h9, hx, hm, h3, h4, h5, h6, h7, _⟩ := h
  unfold eStep
  by_cases c4 : k = 4 ∨ k = 5
  · obtain ⟨a, b, ha, hb, ea, eb⟩ := h6 c4
    rw [ea, eb, nI_clamp (by omega), nI_clamp (by omega), hT a ha, hT b hb]
  · have n4 : ¬ m.1 1 e = 4 := by rw [hm]; intro e'; exact c4 (Or.inl (nI_inj (b := 4) (by omega) (by omega) e'))
    have n5 : ¬ m.1 1 e = 5 := by rw [hm]; intro e'; exact c4 (Or.inr (nI_inj (b := 5) (by omega) (by omega) e'))
    simp only [n4, n5, if_false]
theorem eTab_fix {x m : jS} {n : Nat} {R : Nat → Bool} (hG : RG x m n) {e : Nat} (he : e < n) : eStep m R (eTab m R n) e = eTab m R n e := by
  obtain ⟨k, hk⟩ := hG.2.2.2.1 e he
  have hn := hG.1
  have h1 : eTab m R n e = eStep m R (eTab m R e) e := by
    have := eTab_stay (m := m) (R := R) (n - (e + 1)) (e + 1) (Nat.lt_succ_self e)
    rw [show e + 1 + (n - (e + 1)) = n by omega] at this
    rw [this]
    exact if_pos rfl
  rw [h1]
  refine eStep_congr (by omega) hk (fun a ha => ?_)
  have := eTab_stay (m := m) (R := R) (n - e) e ha
  rw [show e + (n - e) = n by omega] at this
  exact this
def Sx (x x' : jS) : Prop := (∀ j, j ≠ 8 → x'.2 j = x.2 j) ∧ ∀ j, j ≠ 6 → j ≠ 7 → j ≠ 8 → x'.1 j = x.1 j
def Sm (m m' : jS) : Prop := m'.2 = m.2 ∧ ∀ j, j ≠ 17 → j ≠ 18 → j ≠ 19 → m'.1 j = m.1 j
theorem Sx.set {x x' : jS} (h : Sx x x') {a : Nat} {f : Nat → Int32} (ha : a = 6 ∨ a = 7 ∨ a = 8) : Sx x (jaf x' a f) := by
  refine ⟨h.1, fun j h6 h7 h8 => ?_⟩
  show va_up x'.1 a f j = _
  rw [va_up_ne _ _ (by omega)]
  exact h.2 j h6 h7 h8
theorem Sx.int {x x' : jS} (h : Sx x x') (v : Int32) : Sx x (jis x' 8 v) := by
  refine ⟨fun j h8 => ?_, h.2⟩
  show va_up x'.2 8 v j = _
  rw [va_up_ne _ _ (by omega)]
  exact h.1 j h8
theorem Sm.set {x x' : jS} (h : Sm x x') {a : Nat} {f : Nat → Int32} (ha : a = 17 ∨ a = 18 ∨ a = 19) : Sm x (jaf x' a f) := by
  refine ⟨h.1, fun j h6 h7 h8 => ?_⟩
  show va_up x'.1 a f j = _
  rw [va_up_ne _ _ (by omega)]
  exact h.2 j h6 h7 h8
theorem k10 {j : Nat} (h : j ≤ 9) : j = 0 ∨ j = 1 ∨ j = 2 ∨ j = 3 ∨ j = 4 ∨ j = 5 ∨ j = 6 ∨ j = 7 ∨ j = 8 ∨ j = 9 := by omega
theorem emptyX {x0 m0 x : jS} {n : Nat} {R T : Nat → Bool} (hG : RG x0 m0 n) (hs : Sx x0 x) (h7 : ∀ r, r < 10 → tb (x.2 8) r = R r) {k : Nat} (hk : k < n) (h6 : ∀ e, e < k → x.1 6 e = bI (T e)) : f_X0_isEmptyByForm x (nI k) = some (bI (eStep m0 R T k), x) := by
  have hn := hG.1
  obtain ⟨j, h9, hx, hm, e3, e4, p3, p4, p6, _⟩ := hG.2.2.2.1 k hk
  have j80 : job (nI k) 80 = false := job_nI (by omega) (by omega)
  have g2 : jag x 2 (nI k) = nI j := by rw [jag_nI (by omega), hs.2 2 (by decide) (by decide) (by decide), hx]
  have g3 : jag x 3 (nI k) = x0.1 3 k := by rw [jag_nI (by omega), hs.2 3 (by decide) (by decide) (by decide)]
  have g4 : jag x 4 (nI k) = x0.1 4 k := by rw [jag_nI (by omega), hs.2 4 (by decide) (by decide) (by decide)]
  rcases k10 h9 with rfl | rfl | rfl | rfl | rfl | rfl | rfl | rfl | rfl | rfl
  · simp (decide := true) only [f_X0_isEmptyByForm, eStep, jl, j80, cond_false, g2, g3, g4, hm, if_true, if_false]; rfl
  · simp (decide := true) only [f_X0_isEmptyByForm, eStep, jl, j80, cond_false, g2, g3, g4, hm, if_true, if_false]; rfl
  · simp (decide := true) only [f_X0_isEmptyByForm, eStep, jl, j80, cond_false, g2, g3, g4, hm, if_true, if_false]; rfl
  · obtain ⟨r, hr, er⟩ := p3 rfl
    simp (decide := true) only [f_X0_isEmptyByForm, f_X5_bit, Option.bind_some, eStep, jl, j80, cond_false, g2, g3, g4, hm, if_true, if_false, e3 (by omega), er, nI_clamp (show r < 2 ^ 31 by omega)]
    have h7r := h7 r hr
    cases ht : R r with
    | false => rw [if_pos ((tb_andbit hr _).mpr (h7r.trans ht))]; rfl
    | true => rw [if_neg (fun hh => by rw [(tb_andbit hr _).mp hh, ht] at h7r; cases h7r)]; rfl
  · obtain ⟨a, b, ha, hb, ea, eb⟩ := p4 (by omega)
    simp (decide := true) only [f_X0_isEmptyByForm, eStep, jl, j80, cond_false, g2, g3, g4, hm, if_true, if_false, e3 (by omega), e4 (by omega), ea, eb, job_nI (show a < 80 by omega) (by omega), job_nI (show b < 80 by omega) (by omega), jag_nI (show a < 2 ^ 31 by omega), jag_nI (show b < 2 ^ 31 by omega), h6 a ha, h6 b hb, nI_clamp (show a < 2 ^ 31 by omega), nI_clamp (show b < 2 ^ 31 by omega)]
    cases T a <;> cases T b <;> rfl
  · obtain ⟨a, b, ha, hb, ea, eb⟩ := p4 (by omega)
    simp (decide := true) only [f_X0_isEmptyByForm, eStep, jl, j80, cond_false, g2, g3, g4, hm, if_true, if_false, e3 (by omega), e4 (by omega), ea, eb, job_nI (show a < 80 by omega) (by omega), job_nI (show b < 80 by omega) (by omega), jag_nI (show a < 2 ^ 31 by omega), jag_nI (show b < 2 ^ 31 by omega), h6 a ha, h6 b hb, nI_clamp (show a < 2 ^ 31 by omega), nI_clamp (show b < 2 ^ 31 by omega)]
    cases T a <;> cases T b <;> rfl
  · simp (decide := true) only [f_X0_isEmptyByForm, eStep, jl, j80, cond_false, g2, g3, g4, hm, if_true, if_false]; rfl
  · simp (decide := true) only [f_X0_isEmptyByForm, eStep, jl, j80, cond_false, g2, g3, g4, hm, if_true, if_false]; rfl
  · simp (decide := true) only [f_X0_isEmptyByForm, eStep, jl, j80, cond_false, g2, g3, g4, hm, if_true, if_false]; rfl
  · simp (decide := true) only [f_X0_isEmptyByForm, eStep, jl, j80, cond_false, g2, g3, g4, hm, if_true, if_false]; rfl
theorem emptyM {x0 m0 x : jS} {n : Nat} {R T : Nat → Bool} (hG : RG x0 m0 n) (hs : Sm m0 x) (h7 : ∀ r, r < 10 → x.1 17 r = bI (R r)) {k : Nat} (hk : k < n) (h6 : ∀ e, e < k → x.1 18 e = bI (T e)) : f_X6_can x (nI k) = some (bI (eStep m0 R T k), x) := by
  have hn := hG.1
  obtain ⟨j, h9, hx, hm, e3, e4, p3, p4, p6, _⟩ := hG.2.2.2.1 k hk
  have j80 : job (nI k) 80 = false := job_nI (by omega) (by omega)
  have g2 : jag x 1 (nI k) = nI j := by rw [jag_nI (by omega), hs.2 1 (by decide) (by decide) (by decide), hm]
  have g3 : jag x 2 (nI k) = m0.1 2 k := by rw [jag_nI (by omega), hs.2 2 (by decide) (by decide) (by decide)]
  have g4 : jag x 3 (nI k) = m0.1 3 k := by rw [jag_nI (by omega), hs.2 3 (by decide) (by decide) (by decide)]
  rcases k10 h9 with rfl | rfl | rfl | rfl | rfl | rfl | rfl | rfl | rfl | rfl
  · simp (decide := true) only [f_X6_can, eStep, jl, j80, cond_false, g2, g3, g4, hm, if_true, if_false]; rfl
  · simp (decide := true) only [f_X6_can, eStep, jl, j80, cond_false, g2, g3, g4, hm, if_true, if_false]; rfl
  · simp (decide := true) only [f_X6_can, eStep, jl, j80, cond_false, g2, g3, g4, hm, if_true, if_false]; rfl
  · obtain ⟨r, hr, er⟩ := p3 rfl
    simp (decide := true) only [f_X6_can, eStep, jl, j80, cond_false, g2, g3, g4, hm, if_true, if_false, er, job_nI (show r < 10 from hr) (by omega), jag_nI (show r < 2 ^ 31 by omega), h7 r hr, bI_jnb, nI_clamp (show r < 2 ^ 31 by omega)]
  · obtain ⟨a, b, ha, hb, ea, eb⟩ := p4 (by omega)
    simp (decide := true) only [f_X6_can, eStep, jl, j80, cond_false, g2, g3, g4, hm, if_true, if_false, ea, eb, job_nI (show a < 80 by omega) (by omega), job_nI (show b < 80 by omega) (by omega), jag_nI (show a < 2 ^ 31 by omega), jag_nI (show b < 2 ^ 31 by omega), h6 a ha, h6 b hb, nI_clamp (show a < 2 ^ 31 by omega), nI_clamp (show b < 2 ^ 31 by omega)]
    cases T a <;> cases T b <;> rfl
  · obtain ⟨a, b, ha, hb, ea, eb⟩ := p4 (by omega)
    simp (decide := true) only [f_X6_can, eStep, jl, j80, cond_false, g2, g3, g4, hm, if_true, if_false, ea, eb, job_nI (show a < 80 by omega) (by omega), job_nI (show b < 80 by omega) (by omega), jag_nI (show a < 2 ^ 31 by omega), jag_nI (show b < 2 ^ 31 by omega), h6 a ha, h6 b hb, nI_clamp (show a < 2 ^ 31 by omega), nI_clamp (show b < 2 ^ 31 by omega)]
    cases T a <;> cases T b <;> rfl
  · simp (decide := true) only [f_X6_can, eStep, jl, j80, cond_false, g2, g3, g4, hm, if_true, if_false]; rfl
  · simp (decide := true) only [f_X6_can, eStep, jl, j80, cond_false, g2, g3, g4, hm, if_true, if_false]; rfl
  · simp (decide := true) only [f_X6_can, eStep, jl, j80, cond_false, g2, g3, g4, hm, if_true, if_false]; rfl
  · simp (decide := true) only [f_X6_can, eStep, jl, j80, cond_false, g2, g3, g4, hm, if_true, if_false]; rfl
end L2F
