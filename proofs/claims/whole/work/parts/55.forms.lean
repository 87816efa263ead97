/-! canBeEmpty, isLeftRecursive: the forms, as tables of truth values -/
section L2F
/-- can e be empty, by the rules R and the table T of the expressions ahead of it -/
def eStep (m : jS) (R T : Nat → Bool) (e : Nat) : Bool :=
  if m.1 1 e = 2 then false else if m.1 1 e = 3 then R (m.1 2 e).toNatClampNeg else if m.1 1 e = 4 then T (m.1 2 e).toNatClampNeg && T (m.1 3 e).toNatClampNeg else if m.1 1 e = 5 then T (m.1 2 e).toNatClampNeg || T (m.1 3 e).toNatClampNeg else true
def eTab (m : jS) (R : Nat → Bool) : Nat → Nat → Bool
  | 0 => fun _ => false
  | k + 1 => fun e => if e = k then eStep m R (eTab m R k) k else eTab m R k e
theorem eStep_mono {m : jS} {R R' T T' : Nat → Bool} {e : Nat} (hR : ∀ r, R r = true → R' r = true) (hT : ∀ r, T r = true → T' r = true) (h : eStep m R T e = true) : eStep m R' T' e = true := by
  unfold eStep at h ⊢
  by_cases h2 : m.1 1 e = 2
  · rw [if_pos h2] at h; cases h
  · rw [if_neg h2] at h ⊢
    by_cases h3 : m.1 1 e = 3
    · rw [if_pos h3] at h ⊢; exact hR _ h
    · rw [if_neg h3] at h ⊢
      by_cases h4 : m.1 1 e = 4
      · rw [if_pos h4] at h ⊢
        rw [Bool.and_eq_true] at h ⊢
        exact ⟨hT _ h.1, hT _ h.2⟩
      · rw [if_neg h4] at h ⊢
        by_cases h5 : m.1 1 e = 5
        · rw [if_pos h5] at h ⊢
          rw [Bool.or_eq_true] at h ⊢
          exact h.imp (hT _) (hT _)
        · rw [if_neg h5]
theorem eTab_mono {m : jS} {R R' : Nat → Bool} (hR : ∀ r, R r = true → R' r = true) : ∀ (k e : Nat), eTab m R k e = true → eTab m R' k e = true := by
  intro k
  induction k with
  | zero => intro e h; cases h
  | succ k ih =>
    intro e h
    show (if e = k then eStep m R' (eTab m R' k) k else eTab m R' k e) = true
    have h : (if e = k then eStep m R (eTab m R k) k else eTab m R k e) = true := h
    by_cases hk : e = k
    · rw [if_pos hk] at h ⊢; exact eStep_mono hR ih h
    · rw [if_neg hk] at h ⊢; exact ih e h
theorem eTab_stay {m : jS} {R : Nat → Bool} {e : Nat} : ∀ (d k : Nat), e < k → eTab m R (k + d) e = eTab m R k e := by
  intro d
  induction d with
  | zero => intro k _; rfl
  | succ d ih =>
    intro k h
    show (if e = k + d then eStep m R (eTab m R (k + d)) (k + d) else eTab m R (k + d) e) = _
    rw [if_neg (by omega), ih k h]
/-- the rules that can be empty, out of the table of the expressions -/
def rStep (m : jS) (T : Nat → Bool) (r : Nat) : Bool := if m.1 4 r = -1 then false else T (m.1 4 r).toNatClampNeg
/-- the rules after i rounds -/
def rIt (m : jS) (n : Nat) : Nat → Nat → Bool
  | 0 => fun _ => false
  | i + 1 => fun r => rStep m (eTab m (rIt m n i) n) r
theorem rStep_mono {m : jS} {T T' : Nat → Bool} {r : Nat} (h : ∀ e, T e = true → T' e = true) (hr : rStep m T r = true) : rStep m T' r = true := by
  unfold rStep at hr ⊢
  by_cases h1 : m.1 4 r = -1
  · rw [if_pos h1] at hr; cases hr
  · rw [if_neg h1] at hr ⊢; exact h _ hr
theorem rIt_mono {m : jS} {n : Nat} : ∀ (i r : Nat), rIt m n i r = true → rIt m n (i + 1) r = true := by
  intro i
  induction i with
  | zero => intro r h; cases h
  | succ i ih => intro r h; exact rStep_mono (eTab_mono ih n) h
/-- once nothing is added, nothing changes any more -/
theorem rIt_stop {m : jS} {n i : Nat} (h : ∀ r, rIt m n (i + 1) r = rIt m n i r) : ∀ d, rIt m n (i + d) = rIt m n i := by
  intro d
  induction d with
  | zero => rfl
  | succ d ih =>
    funext r
    show rStep m (eTab m (rIt m n (i + d)) n) r = _
    rw [ih]
    exact h r
end L2F
