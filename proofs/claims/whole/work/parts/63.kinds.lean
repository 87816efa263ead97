/-! parse: the kinds of an expression -/
section L2Q
def LkEx (lkm : jS → Int32 → Int32 → Int32 → Option (Int32 × jS)) : Prop := ∀ (m : jS) (a b c : Int32), m.2 4 = 1 → lkm m a b c = some (-1, jis (jis m 4 1) 5 0)
theorem Out.trans {x m x1 m1 x' m' : jS} {A B : Ab} {nn sz pl q : Nat} {v w : Int32} (hf : FX x x1 A.n) (hm : FM m m1) (he : Ext A B) (hq : pl ≤ q) (h : Out x1 m1 x' m' B nn sz q v w) : Out x m x' m' A nn sz pl v w := by
  obtain ⟨h1, h2, h3, h4, h5⟩ := h
  rw [he.1] at h1
  refine ⟨hf.trans h1, hm.trans h2, h3, h4, ?_⟩
  rcases h5 with h5 | ⟨h6, h7, C, s, c1, c2, c3, c4⟩
  · exact Or.inl h5
  · exact Or.inr ⟨h6, h7, C, s, c1, he.trans c2, c3, c4.elim Or.inl fun ⟨a1, a2, a3⟩ => Or.inr ⟨by omega, a2, a3⟩⟩
/-- the second, once all is exhausted -/
def Dead (m m' : jS) : Prop := FM m m' ∧ m'.2 4 = 1 ∧ (m'.2 5 = 0 ∨ m'.2 5 = 1) ∧ m'.2 6 = m.2 6 ∧ m'.2 7 = m.2 7 ∧ m'.2 8 = m.2 8 ∧ m'.2 9 = m.2 9
theorem Dead.cut {m : jS} {c : Int32} (h : m.2 4 = 1) (hc : c = 0 ∨ c = 1) : Dead m (jis m 5 c) := ⟨FM.refl m, h, hc, rfl, rfl, rfl, rfl⟩
theorem Dead.cut4 {m : jS} {c : Int32} (hc : c = 0 ∨ c = 1) : Dead m (jis (jis m 4 1) 5 c) := ⟨FM.refl m, rfl, hc, rfl, rfl, rfl, rfl⟩
theorem Dead.cut45 {m : jS} {c c' : Int32} (hc : c = 0 ∨ c = 1) : Dead m (jis (jis (jis m 4 1) 5 c') 5 c) := ⟨FM.refl m, rfl, hc, rfl, rfl, rfl, rfl⟩
theorem Out.dead {x m x' m1 m' : jS} {A : Ab} {nn sz pl : Nat} {u : Int32} (hf : FX x x' A.n) (hm : FM m m1) (hc : RC x' m1) (h : Dead m1 m') : Out x m x' m' A nn sz pl (-2) u := by
  obtain ⟨h1, h2, h3, h6, h7, h8, h9⟩ := h
  refine ⟨hf, hm.trans h1, ?_, h3, Or.inl ⟨rfl, h2⟩⟩
  unfold RC at hc ⊢
  rw [h6, h7, h8, h9]
  exact hc
theorem jnb_ok {c : Int32} (h : c = 0 ∨ c = 1) : jnb c = false := by
  rcases h with rfl | rfl <;> decide
theorem miss_eq {m : jS} {c : Int32} (h : c = 0 ∨ c = 1) : f_X6_miss m c = some (-1, jis m 5 c) := by
  rw [f_X6_miss, jnb_ok h, cond_false, jl_eq]
theorem succ_eq (m : jS) (v : Int32) : f_X6_succeed m v = some (v, jis m 5 0) := rfl
def seqM (lk : jS → Int32 → Int32 → Int32 → Option (Int32 × jS)) (s8 : jS) (a1 x10 a2 a3 : Int32) : Option (Int32 × jS) :=
  (lk s8 x10 a2 (a3 + 1)).bind fun r24 =>
  jl (r24.2.2 5) fun x25 =>
  if r24.1 = (-1) then
    (f_X6_miss r24.2 x25).bind fun r34 =>
    some (r34.1, r34.2)
  else
  bif job a1 80 then none else
  (lk r24.2 (jag r24.2 3 a1) r24.1 (a3 + 1)).bind fun r28 =>
  if (r28.2.2 5) = 0 then
    if x25 = 0 then
      jl (jis r28.2 5 0) fun s32 =>
      some (r28.1, s32)
    else
    jl (jis r28.2 5 1) fun s33 =>
    some (r28.1, s33)
  else
  jl (jis r28.2 5 1) fun s30 =>
  some (r28.1, s30)
theorem seq_sim {lkx lkm : jS → Int32 → Int32 → Int32 → Option (Int32 × jS)} {x m : jS} {A : Ab} {nn sz pl d e a b : Nat} (HL : LkOk lkx lkm nn sz (d + 1)) (HE : LkEx lkm) (h : Sim x m A nn sz) (hpl : Pl A pl) (hps : pl ≤ sz) (hd : A.n ≤ d) (he : e < 80) (ha : a < nn) (hb : b < nn) (hmb : m.1 3 e = nI b) : ∃ v w x' m', f_X3_lookForSequence lkx x (nI a) (nI b) (nI pl) (nI d) = some (v, x') ∧ seqM lkm m (nI e) (nI a) (nI pl) (nI d) = some (w, m') ∧ Out x m x' m' A nn sz pl v w := by
  have hsz := h.1.2.1.1
  obtain ⟨v, w, x1, m1, q1, q2, o1, o2, o3, o4, o5⟩ := HL x m A a pl h hpl hps (by omega) ha
  have je : job (nI e) 80 = false := job_nI (by omega) (by omega)
  have hmb1 : m1.1 3 e = nI b := by rw [o2.2.2.2.1]; exact hmb
  rw [f_X3_lookForSequence, seqM, nI_1, q1, q2, Option.bind_some, Option.bind_some, jl_eq, jl_eq]
  rcases o5 with ⟨hv, hfl⟩ | ⟨o6, o7, B, s, c1, c2, c3, c4⟩
  · subst hv
    rw [if_neg (show ¬ (-2 : Int32) ≥ 0 by decide)]
    by_cases hw : w = -1
    · refine ⟨-2, -1, x1, jis m1 5 (m1.2 5), rfl, ?_, Out.dead o1 o2 o3 (Dead.cut hfl o4)⟩
      rw [if_pos hw, miss_eq o4, Option.bind_some]
    · rw [if_neg hw, je, cond_false, HE _ _ _ _ hfl, Option.bind_some, if_pos (show (jis (jis m1 4 1) 5 0).2 5 = 0 from rfl)]
      by_cases h5 : m1.2 5 = 0
      · rw [if_pos h5, jl_eq]
        exact ⟨-2, -1, x1, _, rfl, rfl, Out.dead o1 o2 o3 (Dead.cut45 (Or.inl rfl))⟩
      · rw [if_neg h5, jl_eq]
        exact ⟨-2, -1, x1, _, rfl, rfl, Out.dead o1 o2 o3 (Dead.cut45 (Or.inr rfl))⟩
  · subst o7
    rcases sI_cases s with ⟨s0, hs0⟩ | ⟨q, s0, hs0⟩
    · rw [c3, hs0, if_neg (show ¬ (-1 : Int32) ≥ 0 by decide), if_pos rfl, miss_eq o4, Option.bind_some]
      exact ⟨-1, -1, x1, jis m1 5 (m1.2 5), rfl, rfl, o1, o2, o3, o4, Or.inr ⟨o6, rfl, B, 0, c1, c2, sI_0.symm, Or.inl rfl⟩⟩
    · obtain ⟨p1, p2, p3⟩ := c4.resolve_left (by omega)
      have hq : s - 1 = q := by omega
      rw [hq] at p3
      rw [c3, hs0, if_pos (show nI q ≥ 0 from nI_pos' (by omega)), if_neg (show ¬ nI q = -1 from nI_m1 (by omega)), je, cond_false, jag_nI (by omega), hmb1]
      obtain ⟨v2, w2, x2, m2, r1, r2, r3⟩ := HL x1 m1 B b q c1 p3 (by omega) (by rw [c2.1]; omega) hb
      rw [r1, r2, Option.bind_some, Option.bind_some, o6]
      obtain ⟨t1, t2, t3, t4, t5⟩ := r3
      rcases t5 with ⟨hv, hfl⟩ | ⟨t6, t7⟩
      · subst hv
        have key : ∀ (c c' : Int32), (c' = 0 ∨ c' = 1) → Out x m (jis x2 7 c) (jis m2 5 c') A nn sz pl (-2) w2 := fun c c' hc => Out.trans o1 o2 c2 (by omega) (Out.dead (x' := jis x2 7 c) t1 t2 t3 (Dead.cut hfl hc))
        have hX : ∃ c, (if x2.2 7 = 0 then (if m1.2 5 = 0 then jl (jis x2 7 0) fun s8 => some ((-2 : Int32), s8) else jl (jis x2 7 1) fun s9 => some ((-2 : Int32), s9)) else jl (jis x2 7 1) fun s6 => some ((-2 : Int32), s6)) = some (-2, jis x2 7 c) := by
          by_cases e1 : x2.2 7 = 0
          · by_cases e2 : m1.2 5 = 0
            · exact ⟨0, by rw [if_pos e1, if_pos e2, jl_eq]⟩
            · exact ⟨1, by rw [if_pos e1, if_neg e2, jl_eq]⟩
          · exact ⟨1, by rw [if_neg e1, jl_eq]⟩
        have hMM : ∃ c, (c = 0 ∨ c = 1) ∧ (if m2.2 5 = 0 then (if m1.2 5 = 0 then jl (jis m2 5 0) fun s32 => some (w2, s32) else jl (jis m2 5 1) fun s33 => some (w2, s33)) else jl (jis m2 5 1) fun s30 => some (w2, s30)) = some (w2, jis m2 5 c) := by
          by_cases e1 : m2.2 5 = 0
          · by_cases e2 : m1.2 5 = 0
            · exact ⟨0, Or.inl rfl, by rw [if_pos e1, if_pos e2, jl_eq]⟩
            · exact ⟨1, Or.inr rfl, by rw [if_pos e1, if_neg e2, jl_eq]⟩
          · exact ⟨1, Or.inr rfl, by rw [if_neg e1, jl_eq]⟩
        obtain ⟨c, hc⟩ := hX
        obtain ⟨c', hc1, hc2⟩ := hMM
        exact ⟨-2, w2, _, _, hc, hc2, key c c' hc1⟩
      · have hg : Good x2 m2 B nn sz q v2 w2 := t7
        have key : ∀ (c : Int32), (c = 0 ∨ c = 1) → Out x m (jis x2 7 c) (jis m2 5 c) A nn sz pl v2 w2 := fun c hc => Out.trans o1 o2 c2 (by omega) ⟨t1, t2, t3, hc, Or.inr ⟨rfl, hg⟩⟩
        rw [t6]
        by_cases e1 : m2.2 5 = 0
        · by_cases e2 : m1.2 5 = 0
          · rw [if_pos e1, if_pos e2, jl_eq, if_pos e1, if_pos e2, jl_eq]
            exact ⟨v2, w2, _, _, rfl, rfl, key 0 (Or.inl rfl)⟩
          · rw [if_pos e1, if_neg e2, jl_eq, if_pos e1, if_neg e2, jl_eq]
            exact ⟨v2, w2, _, _, rfl, rfl, key 1 (Or.inr rfl)⟩
        · rw [if_neg e1, jl_eq, if_neg e1, jl_eq]
          exact ⟨v2, w2, _, _, rfl, rfl, key 1 (Or.inr rfl)⟩
def choM (lk : jS → Int32 → Int32 → Int32 → Option (Int32 × jS)) (s8 : jS) (a1 x10 a2 a3 : Int32) : Option (Int32 × jS) :=
  (lk s8 x10 a2 (a3 + 1)).bind fun r36 =>
  if r36.1 = (-1) then
    if (r36.2.2 5) = 0 then
      bif job a1 80 then none else
      (lk r36.2 (jag r36.2 3 a1) a2 (a3 + 1)).bind fun r42 =>
      jl (jis r42.2 5 0) fun s43 =>
      some (r42.1, s43)
    else
    jl (jis r36.2 5 0) fun s40 =>
    some (r36.1, s40)
  else
  jl (jis r36.2 5 0) fun s38 =>
  some (r36.1, s38)
theorem cho_sim {lkx lkm : jS → Int32 → Int32 → Int32 → Option (Int32 × jS)} {x m : jS} {A : Ab} {nn sz pl d e a b : Nat} (HL : LkOk lkx lkm nn sz (d + 1)) (HE : LkEx lkm) (h : Sim x m A nn sz) (hpl : Pl A pl) (hps : pl ≤ sz) (hd : A.n ≤ d) (he : e < 80) (ha : a < nn) (hb : b < nn) (hmb : m.1 3 e = nI b) : ∃ v w x' m', f_X3_lookForChoice lkx x (nI a) (nI b) (nI pl) (nI d) = some (v, x') ∧ choM lkm m (nI e) (nI a) (nI pl) (nI d) = some (w, m') ∧ Out x m x' m' A nn sz pl v w := by
  have hsz := h.1.2.1.1
  obtain ⟨v, w, x1, m1, q1, q2, o1, o2, o3, o4, o5⟩ := HL x m A a pl h hpl hps (by omega) ha
  have je : job (nI e) 80 = false := job_nI (by omega) (by omega)
  have hmb1 : m1.1 3 e = nI b := by rw [o2.2.2.2.1]; exact hmb
  rw [f_X3_lookForChoice, choM, nI_1, q1, q2, Option.bind_some, Option.bind_some]
  rcases o5 with ⟨hv, hfl⟩ | ⟨o6, o7, B, s, c1, c2, c3, c4⟩
  · subst hv
    rw [if_neg (show ¬ (-2 : Int32) = -1 by decide), jl_eq]
    by_cases hw : w = -1
    · by_cases h5 : m1.2 5 = 0
      · rw [if_pos hw, if_pos h5, je, cond_false, HE _ _ _ _ hfl, Option.bind_some, jl_eq]
        exact ⟨-2, -1, jis x1 7 0, _, rfl, rfl, Out.dead (x' := jis x1 7 0) o1 o2 o3 (Dead.cut45 (Or.inl rfl))⟩
      · rw [if_pos hw, if_neg h5, jl_eq]
        exact ⟨-2, w, jis x1 7 0, _, rfl, rfl, Out.dead (x' := jis x1 7 0) o1 o2 o3 (Dead.cut hfl (Or.inl rfl))⟩
    · rw [if_neg hw, jl_eq]
      exact ⟨-2, w, jis x1 7 0, _, rfl, rfl, Out.dead (x' := jis x1 7 0) o1 o2 o3 (Dead.cut hfl (Or.inl rfl))⟩
  · subst o7
    have hg : Good x1 m1 A nn sz pl v v := ⟨rfl, B, s, c1, c2, c3, c4⟩
    have key : Out x m (jis x1 7 0) (jis m1 5 0) A nn sz pl v v := ⟨o1, o2, o3, Or.inl rfl, Or.inr ⟨rfl, hg⟩⟩
    rw [o6]
    by_cases hv : v = -1
    · rw [if_pos hv, if_pos hv]
      by_cases h5 : m1.2 5 = 0
      · rw [if_pos h5, if_pos h5, je, cond_false, jag_nI (by omega), hmb1]
        obtain ⟨v2, w2, x2, m2, r1, r2, r3⟩ := HL x1 m1 B b pl c1 (hpl.ext c2) hps (by rw [c2.1]; omega) hb
        rw [r1, r2, Option.bind_some, Option.bind_some, jl_eq, jl_eq]
        obtain ⟨t1, t2, t3, t4, t5⟩ := r3
        refine ⟨v2, w2, jis x2 7 0, jis m2 5 0, rfl, rfl, Out.trans o1 o2 c2 (Nat.le_refl _) ?_⟩
        rcases t5 with ⟨hv2, hfl⟩ | ⟨t6, t7⟩
        · subst hv2
          exact Out.dead (x' := jis x2 7 0) t1 t2 t3 (Dead.cut hfl (Or.inl rfl))
        · have hg2 : Good x2 m2 B nn sz pl v2 w2 := t7
          exact ⟨t1, t2, t3, Or.inl rfl, Or.inr ⟨rfl, hg2⟩⟩
      · rw [if_neg h5, if_neg h5, jl_eq, jl_eq]
        exact ⟨v, v, _, _, rfl, rfl, key⟩
    · rw [if_neg hv, if_neg hv, jl_eq, jl_eq]
      exact ⟨v, v, _, _, rfl, rfl, key⟩
def optM (lk : jS → Int32 → Int32 → Int32 → Option (Int32 × jS)) (s8 : jS) (x10 a2 a3 : Int32) : Option (Int32 × jS) :=
  (lk s8 x10 a2 (a3 + 1)).bind fun r47 =>
  if r47.1 = (-1) then
    if (r47.2.2 5) = 0 then
      jl (jis r47.2 5 0) fun s52 =>
      some (a2, s52)
    else
    jl (jis r47.2 5 0) fun s51 =>
    some (r47.1, s51)
  else
  jl (jis r47.2 5 0) fun s49 =>
  some (r47.1, s49)
/-- the place itself is an outcome -/
theorem Good.here {x1 m1 : jS} {A B : Ab} {nn sz pl : Nat} (hpl : Pl A pl) (hps : pl ≤ sz) (c1 : Sim x1 m1 B nn sz) (c2 : Ext A B) : Good x1 m1 A nn sz pl (nI pl) (nI pl) := ⟨rfl, B, pl + 1, c1, c2, (sI_s pl).symm, Or.inr ⟨by omega, by omega, hpl.ext c2⟩⟩
theorem Good.none {x1 m1 : jS} {A B : Ab} {nn sz pl : Nat} (c1 : Sim x1 m1 B nn sz) (c2 : Ext A B) : Good x1 m1 A nn sz pl (-1) (-1) := ⟨rfl, B, 0, c1, c2, sI_0.symm, Or.inl rfl⟩
theorem opt_sim {lkx lkm : jS → Int32 → Int32 → Int32 → Option (Int32 × jS)} {x m : jS} {A : Ab} {nn sz pl d a : Nat} (HL : LkOk lkx lkm nn sz (d + 1)) (h : Sim x m A nn sz) (hpl : Pl A pl) (hps : pl ≤ sz) (hd : A.n ≤ d) (ha : a < nn) : ∃ v w x' m', f_X3_lookForOptional lkx x (nI a) (nI pl) (nI d) = some (v, x') ∧ optM lkm m (nI a) (nI pl) (nI d) = some (w, m') ∧ Out x m x' m' A nn sz pl v w := by
  have hsz := h.1.2.1.1
  obtain ⟨v, w, x1, m1, q1, q2, o1, o2, o3, o4, o5⟩ := HL x m A a pl h hpl hps (by omega) ha
  rw [f_X3_lookForOptional, optM, nI_1, q1, q2, Option.bind_some, Option.bind_some]
  rcases o5 with ⟨hv, hfl⟩ | ⟨o6, o7, B, s, c1, c2, c3, c4⟩
  · subst hv
    rw [if_neg (show ¬ (-2 : Int32) = -1 by decide), jl_eq]
    by_cases hw : w = -1
    · by_cases h5 : m1.2 5 = 0
      · rw [if_pos hw, if_pos h5, jl_eq]
        exact ⟨-2, nI pl, jis x1 7 0, _, rfl, rfl, Out.dead (x' := jis x1 7 0) o1 o2 o3 (Dead.cut hfl (Or.inl rfl))⟩
      · rw [if_pos hw, if_neg h5, jl_eq]
        exact ⟨-2, w, jis x1 7 0, _, rfl, rfl, Out.dead (x' := jis x1 7 0) o1 o2 o3 (Dead.cut hfl (Or.inl rfl))⟩
    · rw [if_neg hw, jl_eq]
      exact ⟨-2, w, jis x1 7 0, _, rfl, rfl, Out.dead (x' := jis x1 7 0) o1 o2 o3 (Dead.cut hfl (Or.inl rfl))⟩
  · subst o7
    have hg : Good x1 m1 A nn sz pl v v := ⟨rfl, B, s, c1, c2, c3, c4⟩
    have key : Out x m (jis x1 7 0) (jis m1 5 0) A nn sz pl v v := ⟨o1, o2, o3, Or.inl rfl, Or.inr ⟨rfl, hg⟩⟩
    rw [o6]
    by_cases hv : v = -1
    · rw [if_pos hv, if_pos hv]
      by_cases h5 : m1.2 5 = 0
      · rw [if_pos h5, if_pos h5, jl_eq, jl_eq]
        have hg2 : Good x1 m1 A nn sz pl (nI pl) (nI pl) := Good.here hpl hps c1 c2
        exact ⟨nI pl, nI pl, jis x1 7 0, jis m1 5 0, rfl, rfl, o1, o2, o3, Or.inl rfl, Or.inr ⟨rfl, hg2⟩⟩
      · rw [if_neg h5, if_neg h5, jl_eq, jl_eq]
        exact ⟨v, v, _, _, rfl, rfl, key⟩
    · rw [if_neg hv, if_neg hv, jl_eq, jl_eq]
      exact ⟨v, v, _, _, rfl, rfl, key⟩
def prdM (lk : jS → Int32 → Int32 → Int32 → Option (Int32 × jS)) (s8 : jS) (a1 x10 a2 a3 : Int32) : Option (Int32 × jS) :=
  (lk s8 x10 a2 (a3 + 1)).bind fun r53 =>
  if r53.1 = (-1) then
    bif job a1 80 then none else
    if (jag r53.2 1 a1) = 8 then
      (f_X6_miss r53.2 0).bind fun r60 =>
      some (r60.1, r60.2)
    else
    (f_X6_succeed r53.2 a2).bind fun r58 =>
    some (r58.1, r58.2)
  else
  bif job a1 80 then none else
  if (jag r53.2 1 a1) = 8 then
    (f_X6_succeed r53.2 a2).bind fun r66 =>
    some (r66.1, r66.2)
  else
  (f_X6_miss r53.2 0).bind fun r64 =>
  some (r64.1, r64.2)
theorem and_sim {lkx lkm : jS → Int32 → Int32 → Int32 → Option (Int32 × jS)} {x m : jS} {A : Ab} {nn sz pl d a e : Nat} (HL : LkOk lkx lkm nn sz (d + 1)) (h : Sim x m A nn sz) (hpl : Pl A pl) (hps : pl ≤ sz) (hd : A.n ≤ d) (ha : a < nn) (he : e < 80) (hk : m.1 1 e = nI 8) : ∃ v w x' m', f_X3_lookForAnd lkx x (nI a) (nI pl) (nI d) = some (v, x') ∧ prdM lkm m (nI e) (nI a) (nI pl) (nI d) = some (w, m') ∧ Out x m x' m' A nn sz pl v w := by
  have hsz := h.1.2.1.1
  obtain ⟨v, w, x1, m1, q1, q2, o1, o2, o3, o4, o5⟩ := HL x m A a pl h hpl hps (by omega) ha
  have je : job (nI e) 80 = false := job_nI (by omega) (by omega)
  have hk1 : m1.1 1 e = nI 8 := by rw [o2.2.1]; exact hk
  rw [f_X3_lookForAnd, prdM, nI_1, q1, q2, Option.bind_some, Option.bind_some, jl_eq, je, cond_false, cond_false, jag_nI (by omega), hk1, if_pos (show nI 8 = 8 by decide), if_pos (show nI 8 = 8 by decide), miss_eq (Or.inl rfl), succ_eq, Option.bind_some, Option.bind_some]
  rcases o5 with ⟨hv, hfl⟩ | ⟨o6, o7, B, s, c1, c2, c3, c4⟩
  · subst hv
    rw [if_neg (show ¬ (-2 : Int32) ≥ 0 by decide)]
    by_cases hw : w = -1
    · rw [if_pos hw]
      exact ⟨-2, -1, jis x1 7 0, jis m1 5 0, rfl, rfl, Out.dead (x' := jis x1 7 0) o1 o2 o3 (Dead.cut hfl (Or.inl rfl))⟩
    · rw [if_neg hw]
      exact ⟨-2, nI pl, jis x1 7 0, jis m1 5 0, rfl, rfl, Out.dead (x' := jis x1 7 0) o1 o2 o3 (Dead.cut hfl (Or.inl rfl))⟩
  · subst o7
    rcases sI_cases s with ⟨s0, hs0⟩ | ⟨q, s0, hs0⟩
    · rw [c3, hs0, if_neg (show ¬ (-1 : Int32) ≥ 0 by decide), if_pos rfl]
      have hg2 : Good x1 m1 A nn sz pl (-1) (-1) := Good.none c1 c2
      exact ⟨-1, -1, jis x1 7 0, jis m1 5 0, rfl, rfl, o1, o2, o3, Or.inl rfl, Or.inr ⟨rfl, hg2⟩⟩
    · rw [c3, hs0, if_pos (show nI q ≥ 0 from nI_pos' (by omega)), if_neg (nI_m1 (by omega))]
      have hg2 : Good x1 m1 A nn sz pl (nI pl) (nI pl) := Good.here hpl hps c1 c2
      exact ⟨nI pl, nI pl, jis x1 7 0, jis m1 5 0, rfl, rfl, o1, o2, o3, Or.inl rfl, Or.inr ⟨rfl, hg2⟩⟩
theorem not_sim {lkx lkm : jS → Int32 → Int32 → Int32 → Option (Int32 × jS)} {x m : jS} {A : Ab} {nn sz pl d a e : Nat} (HL : LkOk lkx lkm nn sz (d + 1)) (h : Sim x m A nn sz) (hpl : Pl A pl) (hps : pl ≤ sz) (hd : A.n ≤ d) (ha : a < nn) (he : e < 80) (hk : m.1 1 e = nI 9) : ∃ v w x' m', f_X3_lookForNot lkx x (nI a) (nI pl) (nI d) = some (v, x') ∧ prdM lkm m (nI e) (nI a) (nI pl) (nI d) = some (w, m') ∧ Out x m x' m' A nn sz pl v w := by
  have hsz := h.1.2.1.1
  obtain ⟨v, w, x1, m1, q1, q2, o1, o2, o3, o4, o5⟩ := HL x m A a pl h hpl hps (by omega) ha
  have je : job (nI e) 80 = false := job_nI (by omega) (by omega)
  have hk1 : m1.1 1 e = nI 9 := by rw [o2.2.1]; exact hk
  rw [f_X3_lookForNot, prdM, nI_1, q1, q2, Option.bind_some, Option.bind_some, jl_eq, je, cond_false, cond_false, jag_nI (by omega), hk1, if_neg (show ¬ nI 9 = 8 by decide), if_neg (show ¬ nI 9 = 8 by decide), miss_eq (Or.inl rfl), succ_eq, Option.bind_some, Option.bind_some]
  rcases o5 with ⟨hv, hfl⟩ | ⟨o6, o7, B, s, c1, c2, c3, c4⟩
  · subst hv
    rw [if_pos rfl]
    by_cases hw : w = -1
    · rw [if_pos hw]
      exact ⟨-2, nI pl, jis x1 7 0, jis m1 5 0, rfl, rfl, Out.dead (x' := jis x1 7 0) o1 o2 o3 (Dead.cut hfl (Or.inl rfl))⟩
    · rw [if_neg hw]
      exact ⟨-2, -1, jis x1 7 0, jis m1 5 0, rfl, rfl, Out.dead (x' := jis x1 7 0) o1 o2 o3 (Dead.cut hfl (Or.inl rfl))⟩
  · subst o7
    rcases sI_cases s with ⟨s0, hs0⟩ | ⟨q, s0, hs0⟩
    · rw [c3, hs0, if_neg (show ¬ (-1 : Int32) = -2 by decide), if_pos rfl, if_pos rfl]
      have hg2 : Good x1 m1 A nn sz pl (nI pl) (nI pl) := Good.here hpl hps c1 c2
      exact ⟨nI pl, nI pl, jis x1 7 0, jis m1 5 0, rfl, rfl, o1, o2, o3, Or.inl rfl, Or.inr ⟨rfl, hg2⟩⟩
    · rw [c3, hs0, if_neg (nI_m2 (by omega)), if_neg (nI_m1 (by omega)), if_neg (nI_m1 (by omega))]
      have hg2 : Good x1 m1 A nn sz pl (-1) (-1) := Good.none c1 c2
      exact ⟨-1, -1, jis x1 7 0, jis m1 5 0, rfl, rfl, o1, o2, o3, Or.inl rfl, Or.inr ⟨rfl, hg2⟩⟩
def stK (s11 : jS) (y8 y9 : Int32) : Option (Int32 × jS) :=
  if y9 = (-1) then
    if (s11.2 7) = 0 then
      jl (jis s11 7 0) fun s16 =>
      some (y8, s16)
    else
    jl (jis s11 7 0) fun s15 =>
    some (y9, s15)
  else
  jl (jis s11 7 0) fun s13 =>
  some (y9, s13)
theorem star_loop {lkx lkm : jS → Int32 → Int32 → Int32 → Option (Int32 × jS)} {nn sz d a : Nat} {v2 : Int32} (HL : LkOk lkx lkm nn sz (d + 1)) (hsz : sz ≤ 40) (ha : a < nn) : ∀ (c i N N' : Nat) (x m : jS) (A : Ab) (pl : Nat) (v5 : Int32), i + c = 41 → c < N → c < N' → Sim x m A nn sz → Pl A pl → pl ≤ sz → A.n ≤ d → i ≤ pl → ∃ v w x' m', f_X3_lookForStar_9 lkx (fun s11 y5 y6 y7 y8 y9 y10 => stK s11 y8 y9) N x (nI a) v2 (nI d) (nI pl) v5 (nI i) = some (v, x') ∧ f_X6_lookAgain_3 lkm (fun s18 y14 y15 y16 y17 =>
    (f_X6_miss s18 0).bind fun r19 =>
    some (r19.1, r19.2)) N' m (nI a) v2 (nI d) (nI pl) = some (w, m') ∧ Out x m x' m' A nn sz pl v w := by
  intro c
  induction c with
  | zero => intro i N N' x m A pl v5 hi hN hN' h hpl hps hd hip; omega
  | succ c ih =>
    intro i N N' x m A pl v5 hi hN hN' h hpl hps hd hip
    obtain ⟨N, rfl⟩ : ∃ z, N = z + 1 := ⟨N - 1, by omega⟩
    obtain ⟨N', rfl⟩ : ∃ z, N' = z + 1 := ⟨N' - 1, by omega⟩
    have hfl0 : m.2 4 = 0 := h.2.1.2
    obtain ⟨v, w, x1, m1, q1, q2, o1, o2, o3, o4, o5⟩ := HL x m A a pl h hpl hps (by omega) ha
    rw [f_X3_lookForStar_9, f_X6_lookAgain_3, if_neg (show ¬ nI i > 40 from nI_nlt (b := i) (a := 40) (by omega) (by omega)), if_pos hfl0, nI_1, q1, q2, Option.bind_some, Option.bind_some]
    rcases o5 with ⟨hv, hfl⟩ | ⟨o6, o7, B, s, c1, c2, c3, c4⟩
    · subst hv
      have hgt : ¬ (-2 : Int32) > nI pl := by
        intro hq
        have hq2 : nI pl < -2 := hq
        rw [Int32.lt_iff_toInt_lt, nI_toInt (by omega), show (-2 : Int32).toInt = -2 from rfl] at hq2
        omega
      have hx : stK x1 (nI pl) (-2) = some (-2, jis x1 7 0) := by
        rw [stK, if_neg (show ¬ (-2 : Int32) = -1 by decide), jl_eq]
      rw [if_neg hgt, hx]
      have key : ∀ u, Out x m (jis x1 7 0) (jis m1 5 0) A nn sz pl (-2) u := fun u => Out.dead (x' := jis x1 7 0) o1 o2 o3 (Dead.cut hfl (Or.inl rfl))
      by_cases hw : w = -1
      · by_cases h5 : m1.2 5 = 0
        · rw [if_pos hw, if_pos h5, if_pos hw, succ_eq, Option.bind_some]
          exact ⟨-2, nI pl, _, _, rfl, rfl, key _⟩
        · rw [if_pos hw, if_neg h5, miss_eq (Or.inl rfl), Option.bind_some]
          exact ⟨-2, -1, _, _, rfl, rfl, key _⟩
      · rw [if_neg hw, if_neg hw]
        by_cases hw2 : w = nI pl
        · rw [if_pos hw2, succ_eq, Option.bind_some]
          exact ⟨-2, nI pl, _, _, rfl, rfl, key _⟩
        · obtain ⟨N', rfl⟩ : ∃ z, N' = z + 1 := ⟨N' - 1, by omega⟩
          rw [if_neg hw2, f_X6_lookAgain_3, if_neg (by rw [hfl]; decide), miss_eq (Or.inl rfl), Option.bind_some]
          exact ⟨-2, -1, _, _, rfl, rfl, key _⟩
    · subst o7
      have hg1 : Good x1 m1 A nn sz pl (-1) (-1) := Good.none c1 c2
      have hg2 : Good x1 m1 A nn sz pl (nI pl) (nI pl) := Good.here hpl hps c1 c2
      have key1 : Out x m (jis x1 7 0) (jis m1 5 0) A nn sz pl (-1) (-1) := ⟨o1, o2, o3, Or.inl rfl, Or.inr ⟨rfl, hg1⟩⟩
      have key2 : Out x m (jis x1 7 0) (jis m1 5 0) A nn sz pl (nI pl) (nI pl) := ⟨o1, o2, o3, Or.inl rfl, Or.inr ⟨rfl, hg2⟩⟩
      rcases sI_cases s with ⟨s0, hs0⟩ | ⟨q, s0, hs0⟩
      · rw [c3, hs0]
        have hgt : ¬ (-1 : Int32) > nI pl := by
          intro hq
          have hq2 : nI pl < -1 := hq
          rw [Int32.lt_iff_toInt_lt, nI_toInt (by omega), show (-1 : Int32).toInt = -1 from rfl] at hq2
          omega
        rw [if_neg hgt, if_pos rfl, if_pos rfl, stK, if_pos rfl, o6]
        by_cases h5 : m1.2 5 = 0
        · rw [if_pos h5, if_pos h5, jl_eq, succ_eq, Option.bind_some]
          exact ⟨nI pl, nI pl, _, _, rfl, rfl, key2⟩
        · rw [if_neg h5, if_neg h5, jl_eq, miss_eq (Or.inl rfl), Option.bind_some]
          exact ⟨-1, -1, _, _, rfl, rfl, key1⟩
      · obtain ⟨p1, p2, p3⟩ := c4.resolve_left (by omega)
        have hq : s - 1 = q := by omega
        rw [hq] at p3
        have hm1 : ¬ nI q = -1 := nI_m1 (by omega)
        rw [c3, hs0, if_neg hm1, if_neg hm1]
        by_cases hqp : q = pl
        · rw [hqp, if_neg (show ¬ nI pl > nI pl from nI_nlt (Nat.le_refl _) (by omega)), if_pos rfl, succ_eq, Option.bind_some, stK, if_neg (nI_m1 (by omega)), jl_eq]
          exact ⟨nI pl, nI pl, _, _, rfl, rfl, key2⟩
        · rw [if_pos (show nI q > nI pl from nI_lt (by omega) (by omega)), if_neg (fun e => hqp (nI_inj (by omega) (by omega) e)), jl_eq, nI_1]
          obtain ⟨v', w', x', m', g1, g2, g3⟩ := ih (i + 1) N N' x1 m1 B q (nI q) (by omega) (by omega) (by omega) c1 p3 (by omega) (by rw [c2.1]; exact hd) (by omega)
          exact ⟨v', w', x', m', g1, g2, Out.trans o1 o2 c2 (by omega) g3⟩
theorem star_sim {lkx lkm : jS → Int32 → Int32 → Int32 → Option (Int32 × jS)} {x m : jS} {A : Ab} {nn sz pl d a : Nat} (HL : LkOk lkx lkm nn sz (d + 1)) (h : Sim x m A nn sz) (hpl : Pl A pl) (hps : pl ≤ sz) (hd : A.n ≤ d) (ha : a < nn) : ∃ v w x' m', f_X3_lookForStar lkx x (nI a) (nI pl) (nI d) = some (v, x') ∧ f_X6_lookAgain lkm m (nI a) (nI pl) (nI d) = some (w, m') ∧ Out x m x' m' A nn sz pl v w := by
  have hsz := h.1.2.1.1
  obtain ⟨v, w, x', m', g1, g2, g3⟩ := star_loop (v2 := nI pl) HL hsz ha 41 0 jFuel jFuel x m A pl (nI pl) rfl (jFuel_gt (by omega)) (jFuel_gt (by omega)) h hpl hps hd (Nat.zero_le _)
  refine ⟨v, w, x', m', ?_, ?_, g3⟩
  · rw [f_X3_lookForStar]
    exact g1
  · rw [f_X6_lookAgain]
    exact g2
end L2Q
