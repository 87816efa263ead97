/-! parse: what is counted, begun, ended -/
section L2O
theorem countLook_eq {x : jS} {n : Nat} (v : Int32) (hn : x.2 2 = nI n) (h101 : n ≤ 101) : ∃ g, f_X2_countLook x v = some (jaf x 20 g) ∧ ∀ k, k < n → g k = if k + 1 = n then (if x.1 20 k < v then v else x.1 20 k) else x.1 20 k := by
  cases n with
  | zero =>
    refine ⟨x.1 20, ?_, fun k hk => by omega⟩
    rw [f_X2_countLook, hn, if_pos (by decide), jaf_same]
  | succ t =>
    refine ⟨upd (x.1 20) t (if x.1 20 t < v then v else x.1 20 t), ?_, fun k hk => ?_⟩
    · rw [f_X2_countLook, hn, if_neg (nI_nle (by omega) (by omega)), nI_pred, job_nI (by omega) (by omega), cond_false, cond_false, jl_eq, jas_nI (by omega), jag_nI (by omega)]
    · by_cases e : k = t
      · subst e; rw [upd_self, if_pos rfl]
      · rw [upd_ne e, if_neg (by omega)]
theorem countNames_eq {x : jS} {n : Nat} (y p : Int32) (hn : x.2 2 = nI n) (h101 : n ≤ 101) : ∃ g, f_X2_countNames x y p = some (jaf x 21 g) ∧ ∀ k, k < n → g k = if k + 1 = n ∧ x.1 17 k = p then x.1 21 k ||| y else x.1 21 k := by
  cases n with
  | zero =>
    refine ⟨x.1 21, ?_, fun k hk => by omega⟩
    rw [f_X2_countNames, hn, if_pos (by decide), jaf_same]
  | succ t =>
    by_cases hp : x.1 17 t = p
    · refine ⟨upd (x.1 21) t (x.1 21 t ||| y), ?_, fun k hk => ?_⟩
      · rw [f_X2_countNames, hn, if_neg (nI_nle (by omega) (by omega)), nI_pred, job_nI (by omega) (by omega), cond_false, jag_nI (by omega), if_pos hp, cond_false, cond_false, jl_eq, jas_nI (by omega), jag_nI (by omega)]
      · by_cases e : k = t
        · subst e; rw [upd_self, if_pos ⟨rfl, hp⟩]
        · rw [upd_ne e, if_neg (fun h => by omega)]
    · refine ⟨x.1 21, ?_, fun k hk => ?_⟩
      · rw [f_X2_countNames, hn, if_neg (nI_nle (by omega) (by omega)), nI_pred, job_nI (by omega) (by omega), cond_false, jag_nI (by omega), if_neg hp, jaf_same]
      · rw [if_neg (fun h => hp (by have : k = t := by omega
                                    rw [← this]; exact h.2))]
theorem countAsked_eq {x : jS} {n : Nat} (v : Int32) (hn : x.2 2 = nI n) (h101 : n ≤ 101) : ∃ g, f_X2_countAsked x v = some (jaf x 22 g) ∧ ∀ k, k < n → g k = if k + 1 = n then (if v < x.1 22 k then v else x.1 22 k) else x.1 22 k := by
  cases n with
  | zero =>
    refine ⟨x.1 22, ?_, fun k hk => by omega⟩
    rw [f_X2_countAsked, hn, if_pos (by decide), jaf_same]
  | succ t =>
    refine ⟨upd (x.1 22) t (if v < x.1 22 t then v else x.1 22 t), ?_, fun k hk => ?_⟩
    · rw [f_X2_countAsked, hn, if_neg (nI_nle (by omega) (by omega)), nI_pred, job_nI (by omega) (by omega), cond_false, cond_false, jl_eq, jas_nI (by omega), jag_nI (by omega)]
    · by_cases e : k = t
      · subst e; rw [upd_self, if_pos rfl]
      · rw [upd_ne e, if_neg (by omega)]
def bgX (x : jS) (n r pl : Nat) : jS := jis (jaf (jaf (jaf (jaf (jaf (jaf (jaf (jaf (jaf x 16 (upd (x.1 16) n (nI r))) 17 (upd (x.1 17) n (nI pl))) 18 (upd (x.1 18) n (-1))) 19 (upd (x.1 19) n 0)) 20 (upd (x.1 20) n (nI pl))) 21 (upd (x.1 21) n (bt r))) 22 (upd (x.1 22) n (nI n))) 23 (upd (x.1 23) (10 * pl + r) (nI n))) 24 (upd (x.1 24) pl (x.1 24 pl ||| bt r))) 2 (nI (n + 1))
theorem begin_eq {x : jS} {n r pl : Nat} (hn : x.2 2 = nI n) (h100 : n ≤ 100) (hr : r < 10) (hpl : pl ≤ 40) : f_X2_begin x (nI r) (nI pl) = some (nI n, bgX x n r pl) := by
  have j1 : job (nI n) 101 = false := job_nI (by omega) (by omega)
  have j2 : job (nI (10 * pl + r)) 410 = false := job_nI (by omega) (by omega)
  have j3 : job (nI pl) 41 = false := job_nI (by omega) (by omega)
  rw [f_X2_begin, jl_eq, hn]
  simp only [jl, j1, j2, j3, cell_eq, cond_false, f_X5_bit, Option.bind_some, jas, nI_clamp (show n < 2 ^ 31 by omega), nI_clamp (show pl < 2 ^ 31 by omega), nI_clamp (show 10 * pl + r < 2 ^ 31 by omega), jag_nI (show pl < 2 ^ 31 by omega), nar0, hn, nI_1]
  rfl
def edX (x : jS) (n r p : Nat) : jS := jaf (jaf (jis x 2 (nI n)) 23 (upd (x.1 23) (10 * p + r) (-1))) 24 (upd (x.1 24) p (x.1 24 p &&& (bt r ^^^ (-1))))
theorem end_eq {x : jS} {n r p : Nat} (hn : x.2 2 = nI (n + 1)) (h100 : n ≤ 100) (hr : x.1 16 n = nI r) (hp : x.1 17 n = nI p) (hr10 : r < 10) (hp40 : p ≤ 40) : ∃ g20 g21 g22, f_X2_end x = some (jaf (jaf (jaf (edX x n r p) 20 g20) 21 g21) 22 g22) ∧ ∀ k, k < n → g20 k = (if k + 1 = n then (if x.1 20 k < x.1 20 n then x.1 20 n else x.1 20 k) else x.1 20 k) ∧ g21 k = (if k + 1 = n ∧ x.1 17 k = nI p then x.1 21 k ||| x.1 21 n else x.1 21 k) ∧ g22 k = (if k + 1 = n then (if x.1 22 n < x.1 22 k then x.1 22 n else x.1 22 k) else x.1 22 k) := by
  have hne : ¬ nI (n + 1) = 0 := nI_ne0 (by omega) (by omega)
  obtain ⟨g20, a1, a2⟩ := countLook_eq (x := edX x n r p) (n := n) (x.1 20 n) (va_up_self x.2 2 _) (by omega)
  obtain ⟨g21, b1, b2⟩ := countNames_eq (x := jaf (edX x n r p) 20 g20) (n := n) (x.1 21 n) (nI p) (va_up_self x.2 2 _) (by omega)
  obtain ⟨g22, c1, c2⟩ := countAsked_eq (x := jaf (jaf (edX x n r p) 20 g20) 21 g21) (n := n) (x.1 22 n) (va_up_self x.2 2 _) (by omega)
  refine ⟨g20, g21, g22, ?_, fun k hk => ⟨a2 k hk, b2 k hk, c2 k hk⟩⟩
  have e2 : (jis x 2 (nI n)).2 2 = nI n := va_up_self x.2 2 _
  have j1 : job (nI n) 101 = false := job_nI (by omega) (by omega)
  have g16 : jag (jis x 2 (nI n)) 16 (nI n) = nI r := (jag_nI (by omega)).trans hr
  have g17 : jag (jis x 2 (nI n)) 17 (nI n) = nI p := (jag_nI (by omega)).trans hp
  have e23 : jas (jis x 2 (nI n)) 23 (nI (10 * p + r)) (-1) = jaf (jis x 2 (nI n)) 23 (upd (x.1 23) (10 * p + r) (-1)) := jas_nI (by omega)
  have g16b : jag (jaf (jis x 2 (nI n)) 23 (upd (x.1 23) (10 * p + r) (-1))) 16 (nI n) = nI r := (jag_nI (by omega)).trans hr
  have e24 : jas (jaf (jis x 2 (nI n)) 23 (upd (x.1 23) (10 * p + r) (-1))) 24 (nI p) (jag (jaf (jis x 2 (nI n)) 23 (upd (x.1 23) (10 * p + r) (-1))) 24 (nI p) &&& (bt r ^^^ (-1))) = edX x n r p := by
    rw [jas_nI (by omega), jag_nI (by omega)]
    rfl
  have g20e : jag (edX x n r p) 20 (nI n) = x.1 20 n := jag_nI (by omega)
  have g21e : jag (jaf (edX x n r p) 20 g20) 21 (nI n) = x.1 21 n := jag_nI (by omega)
  have g22e : jag (jaf (jaf (edX x n r p) 20 g20) 21 g21) 22 (nI n) = x.1 22 n := jag_nI (by omega)
  rw [f_X2_end, hn, if_neg hne, jl_eq, nI_pred, jl_eq, e2, j1, cond_false, jl_eq, g17, cond_false, g16, cell_eq, Option.bind_some, job_nI (by omega) (by omega), cond_false, jl_eq, e23, job_nI (by omega) (by omega), cond_false, cond_false, g16b]
  rw [show f_X5_bit (nI r) = some (bt r) from rfl, Option.bind_some, cond_false, jl_eq, e24, cond_false, g20e, a1, Option.bind_some, cond_false, g21e, b1, Option.bind_some, cond_false, g22e, c1, Option.bind_some]
/-! the same, of what is in progress -/
def Ab.look (A : Ab) (w : Nat) : Ab := mkA A.n A.R A.P A.S A.Q (fun k => if k + 1 = A.n then max (A.W k) w else A.W k) A.E A.Y A.Z (fun k => max (A.L k) w) A.V
theorem Inv.look {A : Ab} {sz w : Nat} (h : Inv A sz) (hw : w ≤ sz + 1) : Inv (A.look w) sz := by
  obtain ⟨hA, hB, hC, hD, hE, hF⟩ := h
  refine ⟨⟨hA.1, fun k hk => ?_⟩, hB, hC, hD, fun k hk hz => ?_, hF⟩
  · obtain ⟨a1, a2, a3, a4, a5, a6, a7⟩ := hA.2 k hk
    refine ⟨a1, a2, ?_, ?_, ?_, a6, a7⟩
    · show A.P k ≤ if k + 1 = A.n then max (A.W k) w else A.W k
      split <;> omega
    · show (if k + 1 = A.n then max (A.W k) w else A.W k) ≤ sz + 1
      split <;> omega
    · show max (A.L k) w ≤ sz + 1
      omega
  · obtain ⟨h1, j0, h2, h3, h4⟩ := hE k hk hz
    refine ⟨fun j hj1 hj2 => ?_, ?_⟩
    · obtain ⟨b1, b2⟩ := h1 j hj1 hj2
      refine ⟨?_, ?_⟩
      · show (if j + 1 = A.n then max (A.W j) w else A.W j) ≤ max (A.L k) w
        split <;> omega
      · show A.S j ≤ max (A.L k) w + 1
        omega
    · by_cases hw2 : w ≤ A.L k
      · refine ⟨j0, h2, h3, ?_⟩
        show (if j0 + 1 = A.n then max (A.W j0) w else A.W j0) = max (A.L k) w
        split <;> omega
      · refine ⟨A.n - 1, by show k ≤ A.n - 1; have : k < A.n := hk; omega, by show A.n - 1 < A.n; have : k < A.n := hk; omega, ?_⟩
        have hk2 : k < A.n := hk
        have := (h1 (A.n - 1) (by omega) (by omega)).1
        show (if A.n - 1 + 1 = A.n then max (A.W (A.n - 1)) w else A.W (A.n - 1)) = max (A.L k) w
        rw [if_pos (by omega)]
        omega
def Ab.names (A : Ab) (y : Int32) (pl : Nat) : Ab := mkA A.n A.R A.P A.S A.Q A.W A.E (fun k => if k + 1 = A.n ∧ A.P k = pl then A.Y k ||| y else A.Y k) A.Z A.L (fun k => if A.P k = pl then A.V k ||| y else A.V k)
theorem Inv.names {A : Ab} {sz pl : Nat} {y : Int32} (h : Inv A sz) (hp : ∀ k, k < A.n → A.P k ≤ pl) : Inv (A.names y pl) sz := by
  obtain ⟨hA, hB, hC, hD, hE, hF⟩ := h
  refine ⟨hA, hB, hC, hD, hE, fun k hk i => ?_⟩
  have hk2 : k < A.n := hk
  show tb (if A.P k = pl then A.V k ||| y else A.V k) i = true ↔ ∃ j, k ≤ j ∧ j < A.n ∧ A.P j = A.P k ∧ tb (if j + 1 = A.n ∧ A.P j = pl then A.Y j ||| y else A.Y j) i = true
  have hf := hF k hk i
  by_cases e : A.P k = pl
  · rw [if_pos e, tb_or, Bool.or_eq_true, hf]
    constructor
    · rintro (⟨j, h1, h2, h3, h4⟩ | h1)
      · refine ⟨j, h1, h2, h3, ?_⟩
        split
        · rw [tb_or, h4]; rfl
        · exact h4
      · have hb := hB k (A.n - 1) (by omega) (by omega)
        have hp2 := hp (A.n - 1) (by omega)
        refine ⟨A.n - 1, by omega, by omega, by omega, ?_⟩
        rw [if_pos ⟨by omega, by omega⟩, tb_or, h1, Bool.or_true]
    · rintro ⟨j, h1, h2, h3, h4⟩
      by_cases e2 : j + 1 = A.n ∧ A.P j = pl
      · rw [if_pos e2, tb_or, Bool.or_eq_true] at h4
        exact h4.elim (fun h5 => Or.inl ⟨j, h1, h2, h3, h5⟩) Or.inr
      · rw [if_neg e2] at h4
        exact Or.inl ⟨j, h1, h2, h3, h4⟩
  · rw [if_neg e, hf]
    constructor
    · rintro ⟨j, h1, h2, h3, h4⟩
      exact ⟨j, h1, h2, h3, by rw [if_neg (fun h5 => e (by omega))]; exact h4⟩
    · rintro ⟨j, h1, h2, h3, h4⟩
      rw [if_neg (fun h5 => e (by omega))] at h4
      exact ⟨j, h1, h2, h3, h4⟩
def Ab.ask (A : Ab) (k0 : Nat) : Ab := mkA A.n A.R A.P A.S (fun k => if k = k0 then 1 else A.Q k) A.W (fun k => if k + 1 = A.n then min (A.E k) k0 else A.E k) A.Y (fun k => A.Z k || decide (k0 < k)) A.L A.V
theorem Inv.ask {A : Ab} {sz k0 : Nat} (h : Inv A sz) (hk0 : k0 < A.n) : Inv (A.ask k0) sz := by
  obtain ⟨hA, hB, hC, hD, hE, hF⟩ := h
  refine ⟨⟨hA.1, fun k hk => ?_⟩, hB, hC, fun k hk => ?_, fun k hk hz => ?_, hF⟩
  · obtain ⟨a1, a2, a3, a4, a5, a6, a7⟩ := hA.2 k hk
    refine ⟨a1, a2, a3, a4, a5, ?_, a7⟩
    show (if k + 1 = A.n then min (A.E k) k0 else A.E k) ≤ 101
    split <;> omega
  · have hk2 : k < A.n := hk
    show (A.Z k || decide (k0 < k)) = true ↔ ∃ j, k ≤ j ∧ j < A.n ∧ (if j + 1 = A.n then min (A.E j) k0 else A.E j) < k
    rw [Bool.or_eq_true, hD k hk, decide_eq_true_eq]
    constructor
    · rintro (⟨j, h1, h2, h3⟩ | h1)
      · refine ⟨j, h1, h2, ?_⟩
        split <;> omega
      · refine ⟨A.n - 1, by omega, by omega, ?_⟩
        rw [if_pos (by omega)]
        omega
    · rintro ⟨j, h1, h2, h3⟩
      by_cases e : j + 1 = A.n
      · rw [if_pos e] at h3
        by_cases e2 : k0 < k
        · exact Or.inr e2
        · exact Or.inl ⟨j, h1, h2, by omega⟩
      · rw [if_neg e] at h3
        exact Or.inl ⟨j, h1, h2, h3⟩
  · have hz2 : (A.Z k || decide (k0 < k)) = false := hz
    rw [Bool.or_eq_false_iff] at hz2
    exact hE k hk hz2.1
def Ab.push (A : Ab) (r pl : Nat) : Ab := mkA (A.n + 1) (fun k => if k = A.n then r else A.R k) (fun k => if k = A.n then pl else A.P k) (fun k => if k = A.n then 0 else A.S k) (fun k => if k = A.n then 0 else A.Q k) (fun k => if k = A.n then pl else A.W k) (fun k => if k = A.n then A.n else A.E k) (fun k => if k = A.n then bt r else A.Y k) (fun k => if k = A.n then false else A.Z k) (fun k => if k = A.n then pl else A.L k) (fun k => if k = A.n then 0 ||| bt r else if A.P k = pl then A.V k ||| bt r else A.V k)
theorem Inv.push {A : Ab} {sz r pl : Nat} (h : Inv A sz) (hpl : Pl A pl) (h100 : A.n ≤ 100) (hr : r < 10) (hps : pl ≤ sz) (hfr : ∀ k, k < A.n → ¬ (A.R k = r ∧ A.P k = pl)) : Inv (A.push r pl) sz := by
  obtain ⟨hA, hB, hC, hD, hE, hF⟩ := h
  refine ⟨⟨by show A.n + 1 ≤ 101; omega, fun k hk => ?_⟩, fun j k hjk hk => ?_, fun j k hjk hk => ?_, fun k hk => ?_, fun k hk hz => ?_, fun k hk i => ?_⟩
  · have hk2 : k < A.n + 1 := hk
    show (if k = A.n then r else A.R k) < 10 ∧ (if k = A.n then pl else A.P k) ≤ sz ∧ (if k = A.n then pl else A.P k) ≤ (if k = A.n then pl else A.W k) ∧ (if k = A.n then pl else A.W k) ≤ sz + 1 ∧ (if k = A.n then pl else A.L k) ≤ sz + 1 ∧ (if k = A.n then A.n else A.E k) ≤ 101 ∧ ((if k = A.n then 0 else A.S k) = 0 ∨ ((if k = A.n then pl else A.P k) < (if k = A.n then 0 else A.S k) ∧ (if k = A.n then 0 else A.S k) ≤ sz + 1))
    by_cases e : k = A.n
    · simp only [if_pos e]
      exact ⟨hr, hps, Nat.le_refl _, by omega, by omega, by omega, Or.inl trivial⟩
    · simp only [if_neg e]
      exact hA.2 k (by omega)
  · have hk2 : k < A.n + 1 := hk
    show (if j = A.n then pl else A.P j) ≤ (if k = A.n then pl else A.P k)
    by_cases e : k = A.n
    · rw [if_pos e]
      by_cases e2 : j = A.n
      · rw [if_pos e2]; exact Nat.le_refl _
      · rw [if_neg e2]; exact (hpl j (by omega)).1
    · rw [if_neg e, if_neg (by omega)]
      exact hB j k hjk (by omega)
  · have hk2 : k < A.n + 1 := hk
    show ¬ ((if j = A.n then r else A.R j) = (if k = A.n then r else A.R k) ∧ (if j = A.n then pl else A.P j) = (if k = A.n then pl else A.P k))
    by_cases e : k = A.n
    · rw [if_pos e, if_pos e, if_neg (by omega), if_neg (by omega)]
      exact hfr j (by omega)
    · rw [if_neg e, if_neg e, if_neg (by omega), if_neg (by omega)]
      exact hC j k hjk (by omega)
  · have hk2 : k < A.n + 1 := hk
    show (if k = A.n then false else A.Z k) = true ↔ ∃ j, k ≤ j ∧ j < A.n + 1 ∧ (if j = A.n then A.n else A.E j) < k
    by_cases e : k = A.n
    · rw [if_pos e]
      constructor
      · intro h; cases h
      · rintro ⟨j, h1, h2, h3⟩
        rw [if_pos (by omega)] at h3
        omega
    · rw [if_neg e, hD k (by omega)]
      constructor
      · rintro ⟨j, h1, h2, h3⟩
        exact ⟨j, h1, by omega, by rw [if_neg (by omega)]; exact h3⟩
      · rintro ⟨j, h1, h2, h3⟩
        by_cases e2 : j = A.n
        · rw [if_pos e2] at h3; omega
        · rw [if_neg e2] at h3; exact ⟨j, h1, by omega, h3⟩
  · have hk2 : k < A.n + 1 := hk
    have hz2 : (if k = A.n then false else A.Z k) = false := hz
    show (∀ j, k ≤ j → j < A.n + 1 → (if j = A.n then pl else A.W j) ≤ (if k = A.n then pl else A.L k) ∧ (if j = A.n then 0 else A.S j) ≤ (if k = A.n then pl else A.L k) + 1) ∧ ∃ j, k ≤ j ∧ j < A.n + 1 ∧ (if j = A.n then pl else A.W j) = (if k = A.n then pl else A.L k)
    by_cases e : k = A.n
    · refine ⟨fun j h1 h2 => ?_, A.n, by omega, by omega, by rw [if_pos rfl, if_pos e]⟩
      have e2 : j = A.n := by omega
      rw [if_pos e2, if_pos e2, if_pos e]
      omega
    · rw [if_neg e] at hz2
      obtain ⟨h1, j0, h2, h3, h4⟩ := hE k (by omega) hz2
      have h5 := (hpl k (by omega)).2 hz2
      refine ⟨fun j h6 h7 => ?_, j0, h2, by omega, by rw [if_neg (by omega), if_neg e]; exact h4⟩
      rw [if_neg e]
      by_cases e2 : j = A.n
      · rw [if_pos e2, if_pos e2]; omega
      · rw [if_neg e2, if_neg e2]; exact h1 j h6 (by omega)
  · have hk2 : k < A.n + 1 := hk
    show tb (if k = A.n then 0 ||| bt r else if A.P k = pl then A.V k ||| bt r else A.V k) i = true ↔ ∃ j, k ≤ j ∧ j < A.n + 1 ∧ (if j = A.n then pl else A.P j) = (if k = A.n then pl else A.P k) ∧ tb (if j = A.n then bt r else A.Y j) i = true
    by_cases e : k = A.n
    · rw [if_pos e, tb_or, tb_0, Bool.false_or]
      constructor
      · intro h1
        exact ⟨A.n, by omega, by omega, by rw [if_pos rfl, if_pos e], by rw [if_pos rfl]; exact h1⟩
      · rintro ⟨j, h1, h2, h3, h4⟩
        rw [if_pos (by omega)] at h4
        exact h4
    · rw [if_neg e]
      have hf := hF k (by omega) i
      by_cases e2 : A.P k = pl
      · rw [if_pos e2, tb_or, Bool.or_eq_true, hf]
        constructor
        · rintro (⟨j, h1, h2, h3, h4⟩ | h1)
          · exact ⟨j, h1, by omega, by rw [if_neg (by omega), if_neg e]; exact h3, by rw [if_neg (by omega)]; exact h4⟩
          · exact ⟨A.n, by omega, by omega, by rw [if_pos rfl, if_neg e]; exact e2.symm, by rw [if_pos rfl]; exact h1⟩
        · rintro ⟨j, h1, h2, h3, h4⟩
          by_cases e3 : j = A.n
          · rw [if_pos e3] at h4; exact Or.inr h4
          · rw [if_neg e3] at h4
            rw [if_neg e3, if_neg e] at h3
            exact Or.inl ⟨j, h1, by omega, h3, h4⟩
      · rw [if_neg e2, hf]
        constructor
        · rintro ⟨j, h1, h2, h3, h4⟩
          exact ⟨j, h1, by omega, by rw [if_neg (by omega), if_neg e]; exact h3, by rw [if_neg (by omega)]; exact h4⟩
        · rintro ⟨j, h1, h2, h3, h4⟩
          by_cases e3 : j = A.n
          · rw [if_pos e3, if_neg e] at h3; omega
          · rw [if_neg e3] at h4
            rw [if_neg e3, if_neg e] at h3
            exact ⟨j, h1, by omega, h3, h4⟩
def Ab.pop (A : Ab) : Ab := mkA (A.n - 1) A.R A.P A.S A.Q (fun k => if k + 2 = A.n then max (A.W k) (A.W (k + 1)) else A.W k) (fun k => if k + 2 = A.n then min (A.E k) (A.E (k + 1)) else A.E k) (fun k => if k + 2 = A.n ∧ A.P k = A.P (k + 1) then A.Y k ||| A.Y (k + 1) else A.Y k) A.Z A.L A.V
theorem Inv.pop {A : Ab} {sz : Nat} (h : Inv A sz) : Inv A.pop sz := by
  obtain ⟨hA, hB, hC, hD, hE, hF⟩ := h
  refine ⟨⟨by show A.n - 1 ≤ 101; have := hA.1; omega, fun k hk => ?_⟩, fun j k hjk hk => hB j k hjk (by have : k < A.n - 1 := hk; omega), fun j k hjk hk => hC j k hjk (by have : k < A.n - 1 := hk; omega), fun k hk => ?_, fun k hk hz => ?_, fun k hk i => ?_⟩
  · have hk2 : k < A.n - 1 := hk
    obtain ⟨a1, a2, a3, a4, a5, a6, a7⟩ := hA.2 k (by omega)
    obtain ⟨b1, b2, b3, b4, b5, b6, b7⟩ := hA.2 (k + 1) (by omega)
    refine ⟨a1, a2, ?_, ?_, a5, ?_, a7⟩
    · show A.P k ≤ if k + 2 = A.n then max (A.W k) (A.W (k + 1)) else A.W k
      split <;> omega
    · show (if k + 2 = A.n then max (A.W k) (A.W (k + 1)) else A.W k) ≤ sz + 1
      split <;> omega
    · show (if k + 2 = A.n then min (A.E k) (A.E (k + 1)) else A.E k) ≤ 101
      split <;> omega
  · have hk2 : k < A.n - 1 := hk
    show A.Z k = true ↔ ∃ j, k ≤ j ∧ j < A.n - 1 ∧ (if j + 2 = A.n then min (A.E j) (A.E (j + 1)) else A.E j) < k
    rw [hD k (by omega)]
    constructor
    · rintro ⟨j, h1, h2, h3⟩
      by_cases e : j + 1 = A.n
      · obtain ⟨t, rfl⟩ : ∃ t, j = t + 1 := ⟨j - 1, by omega⟩
        refine ⟨t, by omega, by omega, ?_⟩
        rw [if_pos (by omega)]
        omega
      · refine ⟨j, h1, by omega, ?_⟩
        split <;> omega
    · rintro ⟨j, h1, h2, h3⟩
      by_cases e : j + 2 = A.n
      · rw [if_pos e] at h3
        by_cases e2 : A.E j < k
        · exact ⟨j, h1, by omega, e2⟩
        · exact ⟨j + 1, by omega, by omega, by omega⟩
      · rw [if_neg e] at h3
        exact ⟨j, h1, by omega, h3⟩
  · have hk2 : k < A.n - 1 := hk
    obtain ⟨h1, j0, h2, h3, h4⟩ := hE k (by omega) hz
    show (∀ j, k ≤ j → j < A.n - 1 → (if j + 2 = A.n then max (A.W j) (A.W (j + 1)) else A.W j) ≤ A.L k ∧ A.S j ≤ A.L k + 1) ∧ ∃ j, k ≤ j ∧ j < A.n - 1 ∧ (if j + 2 = A.n then max (A.W j) (A.W (j + 1)) else A.W j) = A.L k
    refine ⟨fun j h5 h6 => ?_, ?_⟩
    · have b1 := h1 j h5 (by omega)
      have b2 := h1 (j + 1) (by omega) (by omega)
      refine ⟨?_, b1.2⟩
      split <;> omega
    · by_cases e : j0 + 1 = A.n
      · obtain ⟨t, rfl⟩ : ∃ t, j0 = t + 1 := ⟨j0 - 1, by omega⟩
        have b1 := h1 t (by omega) (by omega)
        refine ⟨t, by omega, by omega, ?_⟩
        rw [if_pos (by omega)]
        omega
      · have b2 := h1 (j0 + 1) (by omega) (by omega)
        refine ⟨j0, h2, by omega, ?_⟩
        split <;> omega
  · have hk2 : k < A.n - 1 := hk
    show tb (A.V k) i = true ↔ ∃ j, k ≤ j ∧ j < A.n - 1 ∧ A.P j = A.P k ∧ tb (if j + 2 = A.n ∧ A.P j = A.P (j + 1) then A.Y j ||| A.Y (j + 1) else A.Y j) i = true
    rw [hF k (by omega) i]
    constructor
    · rintro ⟨j, h1, h2, h3, h4⟩
      by_cases e : j + 1 = A.n
      · obtain ⟨t, rfl⟩ : ∃ t, j = t + 1 := ⟨j - 1, by omega⟩
        have b1 := hB k t (by omega) (by omega)
        have b2 := hB t (t + 1) (by omega) (by omega)
        refine ⟨t, by omega, by omega, by omega, ?_⟩
        rw [if_pos ⟨by omega, by omega⟩, tb_or, h4, Bool.or_true]
      · refine ⟨j, h1, by omega, h3, ?_⟩
        split
        · rw [tb_or, h4]; rfl
        · exact h4
    · rintro ⟨j, h1, h2, h3, h4⟩
      by_cases e : j + 2 = A.n ∧ A.P j = A.P (j + 1)
      · rw [if_pos e, tb_or, Bool.or_eq_true] at h4
        rcases h4 with h4 | h4
        · exact ⟨j, h1, by omega, h3, h4⟩
        · exact ⟨j + 1, by omega, by omega, by omega, h4⟩
      · rw [if_neg e] at h4
        exact ⟨j, h1, by omega, h3, h4⟩
def Ab.seed (A : Ab) (t s : Nat) : Ab := mkA A.n A.R A.P (fun k => if k = t then s else A.S k) A.Q A.W A.E A.Y A.Z A.L A.V
theorem Inv.seed {A : Ab} {sz t s : Nat} (h : Inv A sz) (ht : A.n = t + 1) (hs0 : A.P t < s) (hs1 : s ≤ sz + 1) (hpl : Pl A (s - 1)) : Inv (A.seed t s) sz := by
  obtain ⟨hA, hB, hC, hD, hE, hF⟩ := h
  refine ⟨⟨hA.1, fun k hk => ?_⟩, hB, hC, hD, fun k hk hz => ?_, hF⟩
  · obtain ⟨a1, a2, a3, a4, a5, a6, a7⟩ := hA.2 k hk
    refine ⟨a1, a2, a3, a4, a5, a6, ?_⟩
    show (if k = t then s else A.S k) = 0 ∨ (A.P k < (if k = t then s else A.S k) ∧ (if k = t then s else A.S k) ≤ sz + 1)
    by_cases e : k = t
    · rw [if_pos e, e]; exact Or.inr ⟨hs0, hs1⟩
    · rw [if_neg e]; exact a7
  · obtain ⟨h1, h2⟩ := hE k hk hz
    refine ⟨fun j h3 h4 => ?_, h2⟩
    have b := h1 j h3 h4
    refine ⟨b.1, ?_⟩
    show (if j = t then s else A.S j) ≤ A.L k + 1
    have := (hpl k hk).2 hz
    split <;> omega
end L2O
