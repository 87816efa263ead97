/-! parse: what both hold in progress -/
section L2S
/-- a number, or -1 -/
def sI (s : Nat) : Int32 := nI s - 1
theorem sI_0 : sI 0 = -1 := by decide
theorem sI_s (q : Nat) : sI (q + 1) = nI q := nI_pred q
theorem sI_cases (s : Nat) : (s = 0 ∧ sI s = -1) ∨ ∃ q, s = q + 1 ∧ sI s = nI q := by
  cases s with
  | zero => exact Or.inl ⟨rfl, sI_0⟩
  | succ q => exact Or.inr ⟨q, rfl, sI_s q⟩
theorem sI_m2 {s : Nat} (h : s < 2 ^ 31) : sI s ≠ -2 := by
  rcases sI_cases s with ⟨_, h2⟩ | ⟨q, h1, h2⟩
  · rw [h2]; decide
  · rw [h2]; exact nI_m2 (by omega)
theorem sI_m4 {s : Nat} (h : s < 2 ^ 31) : sI s ≠ -4 := by
  rcases sI_cases s with ⟨_, h2⟩ | ⟨q, h1, h2⟩
  · rw [h2]; decide
  · rw [h2]; exact nI_m4 (by omega)
theorem sI_m1 {s : Nat} (h : s < 2 ^ 31) : sI s = -1 ↔ s = 0 := by
  rcases sI_cases s with ⟨h1, h2⟩ | ⟨q, h1, h2⟩
  · exact ⟨fun _ => h1, fun _ => h2⟩
  · rw [h2]; exact ⟨fun e => absurd e (nI_m1 (by omega)), fun e => by omega⟩
theorem sI_toInt {s : Nat} (h : s < 2 ^ 31) : (sI s).toInt = (s : Int) - 1 := by
  rcases sI_cases s with ⟨h1, h2⟩ | ⟨q, h1, h2⟩
  · rw [h2, h1]; decide
  · rw [h2, nI_toInt (by omega)]; omega
theorem sI_le {a b : Nat} (ha : a < 2 ^ 31) (hb : b < 2 ^ 31) : sI a ≤ sI b ↔ a ≤ b := by
  rw [Int32.le_iff_toInt_le, sI_toInt ha, sI_toInt hb]; omega
theorem sI_ge0 {s : Nat} (h : s < 2 ^ 31) : sI s ≥ 0 ↔ s ≠ 0 := by
  show (0 : Int32) ≤ sI s ↔ _
  rw [Int32.le_iff_toInt_le, sI_toInt h, show (0 : Int32).toInt = 0 from rfl]; omega
theorem m2_lt {s : Nat} (h : s < 2 ^ 31) : (-2 : Int32) ≤ sI s := by
  rw [Int32.le_iff_toInt_le, sI_toInt h, show (-2 : Int32).toInt = -2 from rfl]; omega
theorem maxI {a b : Nat} (ha : a < 2 ^ 31) (hb : b < 2 ^ 31) : (if nI a < nI b then nI b else nI a) = nI (max a b) := by
  by_cases h : a < b
  · rw [if_pos (nI_lt h hb), show max a b = b by omega]
  · rw [if_neg (nI_nlt (by omega) ha), show max a b = a by omega]
theorem minI {a b : Nat} (ha : a < 2 ^ 31) (hb : b < 2 ^ 31) : (if nI b < nI a then nI b else nI a) = nI (min a b) := by
  by_cases h : b < a
  · rw [if_pos (nI_lt h ha), show min a b = b by omega]
  · rw [if_neg (nI_nlt (by omega) hb), show min a b = a by omega]
theorem tb_xor1 (v : Int32) (i : Nat) (h : i < 32) : tb (v ^^^ (-1)) i = !tb v i := by
  unfold tb
  rw [Int32.toBitVec_xor, BitVec.getLsbD_xor]
  have h2 : ∀ i, i < 32 → (Int32.toBitVec (-1)).getLsbD i = true := by decide
  rw [h2 i h, Bool.xor_true]
theorem upd_id (f : Nat → Int32) (k : Nat) : upd f k (f k) = f := by
  funext j
  unfold upd
  split
  · rename_i h; rw [h]
  · rfl
theorem upd_val {f : Nat → Int32} {k j : Nat} {v : Int32} : upd f k v j = if j = k then v else f j := rfl
abbrev bt (r : Nat) : Int32 := (1 : Int32) <<< (nI r &&& 31)
/-- how many, rules, places, seeds, asked; reaches, earliest, names of the first; lean, looked, named of the second -/
abbrev Ab : Type := Nat × (Nat → Nat) × (Nat → Nat) × (Nat → Nat) × (Nat → Int32) × (Nat → Nat) × (Nat → Nat) × (Nat → Int32) × (Nat → Bool) × (Nat → Nat) × (Nat → Int32)
def Ab.n (A : Ab) : Nat := A.1
def Ab.R (A : Ab) : Nat → Nat := A.2.1
def Ab.P (A : Ab) : Nat → Nat := A.2.2.1
def Ab.S (A : Ab) : Nat → Nat := A.2.2.2.1
def Ab.Q (A : Ab) : Nat → Int32 := A.2.2.2.2.1
def Ab.W (A : Ab) : Nat → Nat := A.2.2.2.2.2.1
def Ab.E (A : Ab) : Nat → Nat := A.2.2.2.2.2.2.1
def Ab.Y (A : Ab) : Nat → Int32 := A.2.2.2.2.2.2.2.1
def Ab.Z (A : Ab) : Nat → Bool := A.2.2.2.2.2.2.2.2.1
def Ab.L (A : Ab) : Nat → Nat := A.2.2.2.2.2.2.2.2.2.1
def Ab.V (A : Ab) : Nat → Int32 := A.2.2.2.2.2.2.2.2.2.2
def mkA (n : Nat) (R P S : Nat → Nat) (Q : Nat → Int32) (W E : Nat → Nat) (Y : Nat → Int32) (Z : Nat → Bool) (L : Nat → Nat) (V : Nat → Int32) : Ab := (n, R, P, S, Q, W, E, Y, Z, L, V)
def XK (x : jS) (A : Ab) (k : Nat) : Prop := x.1 16 k = nI (A.R k) ∧ x.1 17 k = nI (A.P k) ∧ x.1 18 k = sI (A.S k) ∧ x.1 19 k = A.Q k ∧ x.1 20 k = nI (A.W k) ∧ x.1 21 k = A.Y k ∧ x.1 22 k = nI (A.E k)
def MK (m : jS) (A : Ab) (k : Nat) : Prop := m.1 10 k = nI (A.R k) ∧ m.1 11 k = nI (A.P k) ∧ m.1 12 k = sI (A.S k) ∧ m.1 13 k = A.Q k ∧ m.1 14 k = bI (A.Z k) ∧ m.1 15 k = nI (A.L k) ∧ m.1 16 k = A.V k
def IvA (A : Ab) (sz : Nat) : Prop := A.n ≤ 101 ∧ ∀ k, k < A.n → (A.R k < 10 ∧ A.P k ≤ sz ∧ A.P k ≤ A.W k ∧ A.W k ≤ sz + 1 ∧ A.L k ≤ sz + 1 ∧ A.E k ≤ 101 ∧ (A.S k = 0 ∨ (A.P k < A.S k ∧ A.S k ≤ sz + 1)))
def IvB (A : Ab) : Prop := ∀ j k, j ≤ k → k < A.n → A.P j ≤ A.P k
def IvC (A : Ab) : Prop := ∀ j k, j < k → k < A.n → ¬ (A.R j = A.R k ∧ A.P j = A.P k)
def IvD (A : Ab) : Prop := ∀ k, k < A.n → (A.Z k = true ↔ ∃ j, k ≤ j ∧ j < A.n ∧ A.E j < k)
def IvE (A : Ab) : Prop := ∀ k, k < A.n → A.Z k = false → (∀ j, k ≤ j → j < A.n → A.W j ≤ A.L k ∧ A.S j ≤ A.L k + 1) ∧ ∃ j, k ≤ j ∧ j < A.n ∧ A.W j = A.L k
def IvF (A : Ab) : Prop := ∀ k, k < A.n → ∀ i, (tb (A.V k) i = true ↔ ∃ j, k ≤ j ∧ j < A.n ∧ A.P j = A.P k ∧ tb (A.Y j) i = true)
def Inv (A : Ab) (sz : Nat) : Prop := IvA A sz ∧ IvB A ∧ IvC A ∧ IvD A ∧ IvE A ∧ IvF A
/-- the place that is looked at now -/
def Pl (A : Ab) (pl : Nat) : Prop := ∀ k, k < A.n → A.P k ≤ pl ∧ (A.Z k = false → pl ≤ A.L k)
def Ext (A B : Ab) : Prop := B.n = A.n ∧ ∀ k, k < A.n → B.R k = A.R k ∧ B.P k = A.P k ∧ B.S k = A.S k ∧ (B.Z k = false → A.Z k = false ∧ A.L k ≤ B.L k)
theorem Ext.refl (A : Ab) : Ext A A := ⟨rfl, fun k _ => ⟨rfl, rfl, rfl, fun h => ⟨h, Nat.le_refl _⟩⟩⟩
theorem Ext.trans {A B C : Ab} (h : Ext A B) (g : Ext B C) : Ext A C := by
  refine ⟨g.1.trans h.1, fun k hk => ?_⟩
  obtain ⟨a1, a2, a3, a4⟩ := h.2 k hk
  obtain ⟨b1, b2, b3, b4⟩ := g.2 k (by rw [h.1]; exact hk)
  exact ⟨b1.trans a1, b2.trans a2, b3.trans a3, fun hz => ⟨(a4 (b4 hz).1).1, Nat.le_trans (a4 (b4 hz).1).2 (b4 hz).2⟩⟩
theorem Pl.ext {A B : Ab} {pl : Nat} (h : Pl A pl) (g : Ext A B) : Pl B pl := by
  intro k hk
  rw [g.1] at hk
  obtain ⟨b1, b2, b3, b4⟩ := g.2 k hk
  obtain ⟨a1, a2⟩ := h k hk
  exact ⟨by omega, fun hz => Nat.le_trans (a2 (b4 hz).1) (b4 hz).2⟩
def NB (x : jS) (A : Ab) : Prop := ∀ r p, r < 10 → p ≤ 40 → (x.1 23 (10 * p + r) = -1 ∧ ∀ k, k < A.n → ¬ (A.R k = r ∧ A.P k = p)) ∨ ∃ k, k < A.n ∧ A.R k = r ∧ A.P k = p ∧ x.1 23 (10 * p + r) = nI k
def RA (x : jS) (A : Ab) : Prop := ∀ p, p ≤ 40 → ∀ i, (tb (x.1 24 p) i = true ↔ ∃ k, k < A.n ∧ A.R k = i ∧ A.P k = p)
def Sim (x m : jS) (A : Ab) (nn sz : Nat) : Prop := (RG x m nn ∧ RT x m sz ∧ RMe x m sz ∧ RC x m) ∧ ((∃ w, w ≤ 5000 ∧ x.2 3 = nI w) ∧ m.2 4 = 0) ∧ (x.2 2 = nI A.n ∧ m.2 3 = nI A.n ∧ (∀ k, k < A.n → XK x A k) ∧ (∀ k, k < A.n → MK m A k)) ∧ (NB x A ∧ RA x A) ∧ Inv A sz
/-- what a look leaves of the first, of the second -/
def FX (x y : jS) (n : Nat) : Prop := (y.2 0 = x.2 0 ∧ y.2 1 = x.2 1 ∧ y.2 2 = x.2 2) ∧ (y.1 2 = x.1 2 ∧ y.1 3 = x.1 3 ∧ y.1 4 = x.1 4 ∧ y.1 5 = x.1 5 ∧ y.1 10 = x.1 10) ∧ (y.1 23 = x.1 23 ∧ y.1 24 = x.1 24) ∧ ∀ k, k < n → y.1 16 k = x.1 16 k ∧ y.1 17 k = x.1 17 k ∧ y.1 18 k = x.1 18 k
def FM (m w : jS) : Prop := (w.2 0 = m.2 0 ∧ w.2 1 = m.2 1 ∧ w.2 2 = m.2 2) ∧ w.1 1 = m.1 1 ∧ w.1 2 = m.1 2 ∧ w.1 3 = m.1 3 ∧ w.1 4 = m.1 4 ∧ w.1 5 = m.1 5
theorem FX.refl (x : jS) (n : Nat) : FX x x n := ⟨⟨rfl, rfl, rfl⟩, ⟨rfl, rfl, rfl, rfl, rfl⟩, ⟨rfl, rfl⟩, fun _ _ => ⟨rfl, rfl, rfl⟩⟩
theorem FX.trans {x y z : jS} {n : Nat} (h : FX x y n) (g : FX y z n) : FX x z n := by
  obtain ⟨⟨a1, a2, a3⟩, ⟨a4, a5, a6, a7, a8⟩, ⟨a9, a10⟩, a11⟩ := h
  obtain ⟨⟨b1, b2, b3⟩, ⟨b4, b5, b6, b7, b8⟩, ⟨b9, b10⟩, b11⟩ := g
  exact ⟨⟨b1.trans a1, b2.trans a2, b3.trans a3⟩, ⟨b4.trans a4, b5.trans a5, b6.trans a6, b7.trans a7, b8.trans a8⟩, ⟨b9.trans a9, b10.trans a10⟩, fun k hk => ⟨(b11 k hk).1.trans (a11 k hk).1, (b11 k hk).2.1.trans (a11 k hk).2.1, (b11 k hk).2.2.trans (a11 k hk).2.2⟩⟩
theorem FM.refl (m : jS) : FM m m := ⟨⟨rfl, rfl, rfl⟩, rfl, rfl, rfl, rfl, rfl⟩
theorem FM.trans {x y z : jS} (h : FM x y) (g : FM y z) : FM x z := by
  obtain ⟨⟨a1, a2, a3⟩, a4, a5, a6, a7, a8⟩ := h
  obtain ⟨⟨b1, b2, b3⟩, b4, b5, b6, b7, b8⟩ := g
  exact ⟨⟨b1.trans a1, b2.trans a2, b3.trans a3⟩, b4.trans a4, b5.trans a5, b6.trans a6, b7.trans a7, b8.trans a8⟩
/-- the outcome of a look: v, w the answers -/
def Good (x m : jS) (A : Ab) (nn sz pl : Nat) (v w : Int32) : Prop := v = w ∧ ∃ B s, Sim x m B nn sz ∧ Ext A B ∧ v = sI s ∧ (s = 0 ∨ (pl < s ∧ s ≤ sz + 1 ∧ Pl B (s - 1)))
def Out (x m x' m' : jS) (A : Ab) (nn sz pl : Nat) (v w : Int32) : Prop := FX x x' A.n ∧ FM m m' ∧ RC x' m' ∧ (m'.2 5 = 0 ∨ m'.2 5 = 1) ∧ ((v = -2 ∧ m'.2 4 = 1) ∨ (x'.2 7 = m'.2 5 ∧ Good x' m' A nn sz pl v w))
/-! the loops of the second -/
theorem mlook {n pl : Nat} {v1 v2 : Int32} {L : Nat → Nat} {K : jS → Int32 → Int32 → Int32 → Int32 → Option (Int32 × jS)} (hn : n ≤ 101) (hpl : pl < 1000) : ∀ (d k N : Nat) (m : jS), k + d = n → d < N → m.2 3 = nI n → (∀ j, k ≤ j → j < n → m.1 15 j = nI (L j) ∧ L j < 1000) → ∃ f, f_X6_lookAt_3 K N m v1 v2 (nI pl) (nI k) = K (jaf m 15 f) v1 v2 (nI pl) (nI n) ∧ (∀ j, k ≤ j → j < n → f j = nI (max (L j) (pl + 1))) ∧ ∀ j, j < k → f j = m.1 15 j := by
  intro d
  induction d with
  | zero =>
    intro k N m hk hN h3 hL
    obtain ⟨N, rfl⟩ : ∃ z, N = z + 1 := ⟨N - 1, by omega⟩
    have : k = n := by omega
    subst this
    refine ⟨m.1 15, ?_, fun j h1 h2 => by omega, fun j _ => rfl⟩
    rw [f_X6_lookAt_3, if_pos (show nI k ≥ m.2 3 by rw [h3]; exact Int32.le_refl _), jaf_same]
  | succ d ih =>
    intro k N m hk hN h3 hL
    obtain ⟨N, rfl⟩ : ∃ z, N = z + 1 := ⟨N - 1, by omega⟩
    obtain ⟨hk1, hk2⟩ := hL k (Nat.le_refl _) (by omega)
    obtain ⟨f, g1, g2, g3⟩ := ih (k + 1) N (jaf m 15 (upd (m.1 15) k (nI (max (L k) (pl + 1))))) (by omega) (by omega) h3 (fun j h1 h2 => by
      rw [jaf_self, upd_ne (by omega)]
      exact hL j (by omega) h2)
    rw [jaf_jaf] at g1
    rw [jaf_self] at g3
    refine ⟨f, ?_, fun j h1 h2 => ?_, fun j h1 => ?_⟩
    · rw [f_X6_lookAt_3, if_neg (show ¬ nI k ≥ m.2 3 by rw [h3]; exact nI_ge (by omega) (by omega)), job_nI (by omega) (by omega), cond_false, cond_false, jl_eq, jl_eq, jas_nI (by omega), jag_nI (by omega), hk1, nI_1, maxI (by omega) (by omega), nI_1]
      exact g1
    · by_cases e : j = k
      · rw [g3 j (by omega), e, upd_self]
      · exact g2 j (by omega) h2
    · rw [g3 j (by omega), upd_ne (by omega)]
theorem mreach2 {lk : jS → Int32 → Int32 → Int32 → Option (Int32 × jS)} {n c w : Nat} {v1 v2 v3 : Int32} {L : Nat → Nat} {K : jS → Int32 → Int32 → Int32 → Int32 → Int32 → Option (Int32 × jS)} (hn : n ≤ 101) (hc : c < 410) (hw : w < 1000) : ∀ (d k N : Nat) (m : jS), k + d = n → d < N → m.2 3 = nI n → m.1 8 c = nI w → (∀ j, k ≤ j → j < n → m.1 15 j = nI (L j) ∧ L j < 1000) → ∃ f, f_X6_lookRule_65 lk K N m v1 v2 v3 (nI c) (nI k) = K (jaf m 15 f) v1 v2 v3 (nI c) (nI n) ∧ (∀ j, k ≤ j → j < n → f j = nI (max (L j) w)) ∧ (∀ j, j < k → f j = m.1 15 j) ∧ ∀ j, n ≤ j → f j = m.1 15 j := by
  intro d
  induction d with
  | zero =>
    intro k N m hk hN h3 h8 hL
    obtain ⟨N, rfl⟩ : ∃ z, N = z + 1 := ⟨N - 1, by omega⟩
    have : k = n := by omega
    subst this
    refine ⟨m.1 15, ?_, fun j h1 h2 => by omega, fun j _ => rfl, fun j _ => rfl⟩
    rw [f_X6_lookRule_65, if_pos (show nI k ≥ m.2 3 by rw [h3]; exact Int32.le_refl _), jaf_same]
  | succ d ih =>
    intro k N m hk hN h3 h8 hL
    obtain ⟨N, rfl⟩ : ∃ z, N = z + 1 := ⟨N - 1, by omega⟩
    obtain ⟨hk1, hk2⟩ := hL k (Nat.le_refl _) (by omega)
    obtain ⟨f, g1, g2, g3, g4⟩ := ih (k + 1) N (jaf m 15 (upd (m.1 15) k (nI (max (L k) w)))) (by omega) (by omega) h3 h8 (fun j h1 h2 => by
      rw [jaf_self, upd_ne (by omega)]
      exact hL j (by omega) h2)
    rw [jaf_jaf] at g1
    rw [jaf_self] at g3 g4
    refine ⟨f, ?_, fun j h1 h2 => ?_, fun j h1 => ?_, fun j h1 => ?_⟩
    · rw [f_X6_lookRule_65, if_neg (show ¬ nI k ≥ m.2 3 by rw [h3]; exact nI_ge (by omega) (by omega)), job_nI (by omega) (by omega), job_nI (by omega) (by omega), cond_false, cond_false, cond_false, jl_eq, jl_eq, jas_nI (by omega), jag_nI (by omega), jag_nI (by omega), hk1, h8, maxI (by omega) (by omega), nI_1]
      exact g1
    · by_cases e : j = k
      · rw [g3 j (by omega), e, upd_self]
      · exact g2 j (by omega) h2
    · rw [g3 j (by omega), upd_ne (by omega)]
    · rw [g4 j h1, upd_ne (by omega)]
theorem mname_loop {n pl : Nat} {y : Int32} {P : Nat → Nat} {K : jS → Int32 → Int32 → Int32 → Option jS} (hn : n ≤ 101) (hpl : pl < 1000) : ∀ (d k N : Nat) (m : jS), k + d = n → d < N → m.2 3 = nI n → (∀ j, k ≤ j → j < n → m.1 11 j = nI (P j) ∧ P j < 1000) → ∃ f, f_X6_name_2 K N m y (nI pl) (nI k) = K (jaf m 16 f) y (nI pl) (nI n) ∧ (∀ j, k ≤ j → j < n → f j = if P j = pl then m.1 16 j ||| y else m.1 16 j) ∧ ∀ j, j < k → f j = m.1 16 j := by
  intro d
  induction d with
  | zero =>
    intro k N m hk hN h3 hP
    obtain ⟨N, rfl⟩ : ∃ z, N = z + 1 := ⟨N - 1, by omega⟩
    have : k = n := by omega
    subst this
    refine ⟨m.1 16, ?_, fun j h1 h2 => by omega, fun j _ => rfl⟩
    rw [f_X6_name_2, if_pos (show nI k ≥ m.2 3 by rw [h3]; exact Int32.le_refl _), jaf_same]
  | succ d ih =>
    intro k N m hk hN h3 hP
    obtain ⟨N, rfl⟩ : ∃ z, N = z + 1 := ⟨N - 1, by omega⟩
    obtain ⟨hk1, hk2⟩ := hP k (Nat.le_refl _) (by omega)
    rw [f_X6_name_2, if_neg (show ¬ nI k ≥ m.2 3 by rw [h3]; exact nI_ge (by omega) (by omega)), job_nI (by omega) (by omega), cond_false, jag_nI (by omega), hk1]
    by_cases hp : P k = pl
    · obtain ⟨f, g1, g2, g3⟩ := ih (k + 1) N (jaf m 16 (upd (m.1 16) k (m.1 16 k ||| y))) (by omega) (by omega) h3 (fun j h1 h2 => hP j (by omega) h2)
      rw [jaf_jaf] at g1
      rw [jaf_self] at g2 g3
      refine ⟨f, ?_, fun j h1 h2 => ?_, fun j h1 => ?_⟩
      · rw [if_pos (by rw [hp]), cond_false, cond_false, jl_eq, jl_eq, jas_nI (by omega), jag_nI (by omega), nI_1]
        exact g1
      · by_cases e : j = k
        · rw [g3 j (by omega), e, upd_self, if_pos hp]
        · rw [g2 j (by omega) h2, upd_ne e]
      · rw [g3 j (by omega), upd_ne (by omega)]
    · obtain ⟨f, g1, g2, g3⟩ := ih (k + 1) N m (by omega) (by omega) h3 (fun j h1 h2 => hP j (by omega) h2)
      refine ⟨f, ?_, fun j h1 h2 => ?_, fun j h1 => g3 j (by omega)⟩
      · rw [if_neg (fun e => hp (nI_inj (by omega) (by omega) e)), jl_eq, nI_1]
        exact g1
      · by_cases e : j = k
        · rw [g3 j (by omega), e, if_neg hp]
        · exact g2 j (by omega) h2
theorem mname {n pl : Nat} {y : Int32} {P : Nat → Nat} {m : jS} (hn : n ≤ 101) (hpl : pl < 1000) (h3 : m.2 3 = nI n) (hP : ∀ j, j < n → m.1 11 j = nI (P j) ∧ P j < 1000) : ∃ f, f_X6_name m y (nI pl) = some (jaf m 16 f) ∧ ∀ j, j < n → f j = if P j = pl then m.1 16 j ||| y else m.1 16 j := by
  obtain ⟨f, g1, g2, g3⟩ := mname_loop (y := y) (P := P) (K := fun s12 y9 y10 y11 => some s12) hn hpl n 0 jFuel m (by omega) (jFuel_gt (by omega)) h3 (fun j _ h2 => hP j h2)
  exact ⟨f, g1, fun j h => g2 j (by omega) h⟩
theorem mask_loop {n : Nat} {v1 : Int32} {K : jS → Int32 → Int32 → Option (Int32 × jS)} (hn : n ≤ 101) : ∀ (d k N : Nat) (m : jS), k + d = n → d < N → m.2 3 = nI n → ∃ f, f_X6_ask_11 K N m v1 (nI k) = K (jaf m 14 f) v1 (nI n) ∧ (∀ j, k ≤ j → j < n → f j = 1) ∧ ∀ j, j < k → f j = m.1 14 j := by
  intro d
  induction d with
  | zero =>
    intro k N m hk hN h3
    obtain ⟨N, rfl⟩ : ∃ z, N = z + 1 := ⟨N - 1, by omega⟩
    have : k = n := by omega
    subst this
    refine ⟨m.1 14, ?_, fun j h1 h2 => by omega, fun j _ => rfl⟩
    rw [f_X6_ask_11, if_pos (show nI k ≥ m.2 3 by rw [h3]; exact Int32.le_refl _), jaf_same]
  | succ d ih =>
    intro k N m hk hN h3
    obtain ⟨N, rfl⟩ : ∃ z, N = z + 1 := ⟨N - 1, by omega⟩
    obtain ⟨f, g1, g2, g3⟩ := ih (k + 1) N (jaf m 14 (upd (m.1 14) k 1)) (by omega) (by omega) h3
    rw [jaf_jaf] at g1
    rw [jaf_self] at g3
    refine ⟨f, ?_, fun j h1 h2 => ?_, fun j h1 => ?_⟩
    · rw [f_X6_ask_11, if_neg (show ¬ nI k ≥ m.2 3 by rw [h3]; exact nI_ge (by omega) (by omega)), job_nI (by omega) (by omega), cond_false, jl_eq, jl_eq, nar1, jas_nI (by omega), nI_1]
      exact g1
    · by_cases e : j = k
      · rw [g3 j (by omega), e, upd_self]
      · exact g2 j (by omega) h2
    · rw [g3 j (by omega), upd_ne (by omega)]
theorem mask {n k : Nat} {m : jS} (hn : n ≤ 101) (hk : k < n) (h3 : m.2 3 = nI n) : ∃ f, f_X6_ask m (nI k) = some (m.1 12 k, jaf (jaf m 13 (upd (m.1 13) k 1)) 14 f) ∧ (∀ j, k < j → j < n → f j = 1) ∧ ∀ j, j ≤ k → f j = m.1 14 j := by
  obtain ⟨f, g1, g2, g3⟩ := mask_loop (v1 := nI k) (K := fun s10 y8 y9 =>
    bif job y8 102 then none else
    some ((jag s10 12 y8), s10)) hn (n - (k + 1)) (k + 1) jFuel (jaf m 13 (upd (m.1 13) k 1)) (by omega) (jFuel_gt (by omega)) h3
  refine ⟨f, ?_, fun j h1 h2 => g2 j (by omega) h2, fun j h1 => g3 j (by omega)⟩
  rw [f_X6_ask, job_nI (by omega) (by omega), cond_false, jl_eq, jl_eq, nar1, jas_nI (by omega), nI_1]
  refine Eq.trans g1 ?_
  rw [job_nI (by omega) (by omega), cond_false, jag_nI (by omega)]
  rfl
theorem mprog_loop {n r pl : Nat} {R P : Nat → Nat} {m : jS} {K : jS → Int32 → Int32 → Int32 → Int32 → Option (Int32 × jS)} (hn : n ≤ 101) (hr : r < 1000) (hpl : pl < 1000) (h3 : m.2 3 = nI n) (hR : ∀ j, j < n → m.1 10 j = nI (R j) ∧ R j < 1000) (hP : ∀ j, j < n → m.1 11 j = nI (P j) ∧ P j < 1000) : ∀ (d k N : Nat) (b : Bool), k + d = n → d < N → (b = true ↔ ∃ j, j < k ∧ R j = r ∧ P j = pl) → ∃ c : Bool, f_X6_isInProgress_5 K N m (nI r) (nI pl) (bI b) (nI k) = K m (nI r) (nI pl) (bI c) (nI n) ∧ (c = true ↔ ∃ j, j < n ∧ R j = r ∧ P j = pl) := by
  intro d
  induction d with
  | zero =>
    intro k N b hk hN hb
    obtain ⟨N, rfl⟩ : ∃ z, N = z + 1 := ⟨N - 1, by omega⟩
    have : k = n := by omega
    subst this
    refine ⟨b, ?_, hb⟩
    rw [f_X6_isInProgress_5, if_pos (show nI k ≥ m.2 3 by rw [h3]; exact Int32.le_refl _)]
  | succ d ih =>
    intro k N b hk hN hb
    obtain ⟨N, rfl⟩ : ∃ z, N = z + 1 := ⟨N - 1, by omega⟩
    obtain ⟨hr1, hr2⟩ := hR k (by omega)
    obtain ⟨hp1, hp2⟩ := hP k (by omega)
    rw [f_X6_isInProgress_5, if_neg (show ¬ nI k ≥ m.2 3 by rw [h3]; exact nI_ge (by omega) (by omega))]
    cases b with
    | true =>
      obtain ⟨j0, h0⟩ := hb.mp rfl
      obtain ⟨c, g1, g2⟩ := ih (k + 1) N true (by omega) (by omega) ⟨fun _ => ⟨j0, by omega, h0.2⟩, fun _ => rfl⟩
      refine ⟨c, ?_, g2⟩
      rw [if_neg (by decide), jl_eq, nI_1]
      exact g1
    | false =>
      have hno : ∀ j, j < k → ¬ (R j = r ∧ P j = pl) := fun j h1 h2 => by
        have := hb.mpr ⟨j, h1, h2⟩
        cases this
      rw [if_pos (show bI false = 0 by decide), job_nI (by omega) (by omega), cond_false, jag_nI (by omega), hr1]
      by_cases er : R k = r
      · rw [if_pos (by rw [er]), cond_false, jag_nI (by omega), hp1]
        by_cases ep : P k = pl
        · obtain ⟨c, g1, g2⟩ := ih (k + 1) N true (by omega) (by omega) ⟨fun _ => ⟨k, by omega, er, ep⟩, fun _ => rfl⟩
          refine ⟨c, ?_, g2⟩
          rw [if_pos (by rw [ep]), jl_eq, nI_1]
          exact g1
        · obtain ⟨c, g1, g2⟩ := ih (k + 1) N false (by omega) (by omega) ⟨fun h => (by cases h), fun ⟨j, h1, h2, h3⟩ => by
            by_cases e : j = k
            · exact absurd (e ▸ h3) ep
            · exact absurd ⟨h2, h3⟩ (hno j (by omega))⟩
          refine ⟨c, ?_, g2⟩
          rw [if_neg (fun e => ep (nI_inj (by omega) (by omega) e)), jl_eq, nI_1]
          exact g1
      · obtain ⟨c, g1, g2⟩ := ih (k + 1) N false (by omega) (by omega) ⟨fun h => (by cases h), fun ⟨j, h1, h2, h3⟩ => by
          by_cases e : j = k
          · exact absurd (e ▸ h2) er
          · exact absurd ⟨h2, h3⟩ (hno j (by omega))⟩
        refine ⟨c, ?_, g2⟩
        rw [if_neg (fun e => er (nI_inj (by omega) (by omega) e)), jl_eq, nI_1]
        exact g1
theorem mprog {n r pl : Nat} {R P : Nat → Nat} {m : jS} (hn : n ≤ 101) (hr : r < 1000) (hpl : pl < 1000) (h3 : m.2 3 = nI n) (hR : ∀ j, j < n → m.1 10 j = nI (R j) ∧ R j < 1000) (hP : ∀ j, j < n → m.1 11 j = nI (P j) ∧ P j < 1000) : ∃ c : Bool, f_X6_isInProgress m (nI r) (nI pl) = some (bI c, m) ∧ (c = true ↔ ∃ j, j < n ∧ R j = r ∧ P j = pl) := by
  obtain ⟨c, g1, g2⟩ := mprog_loop (K := fun s15 y11 y12 y13 y14 =>
    bif jnb y13 then none else
    some (y13, s15)) hn hr hpl h3 hR hP n 0 jFuel false (by omega) (jFuel_gt (by omega)) ⟨fun h => (by cases h), fun ⟨j, h, _⟩ => by omega⟩
  refine ⟨c, ?_, g2⟩
  rw [f_X6_isInProgress]
  refine Eq.trans g1 ?_
  rw [bI_jnb, cond_false]
theorem mshut_loop {n c pl : Nat} {R P : Nat → Nat} {m : jS} {K : jS → Int32 → Int32 → Int32 → Int32 → Option (Int32 × jS)} (hn : n ≤ 101) (hc : c < 410) (hpl : pl < 1000) (h3 : m.2 3 = nI n) (hR : ∀ j, j < n → m.1 10 j = nI (R j) ∧ R j < 1000) (hP : ∀ j, j < n → m.1 11 j = nI (P j) ∧ P j < 1000) : ∀ (d k N : Nat) (b : Bool), k + d = 10 → d < N → (b = true ↔ ∃ i, i < k ∧ tb (m.1 9 c) i = true ∧ ∃ j, j < n ∧ R j = i ∧ P j = pl) → ∃ e : Bool, f_X6_isShut_5 K N m (nI c) (nI pl) (bI b) (nI k) = K m (nI c) (nI pl) (bI e) (nI 10) ∧ (e = true ↔ ∃ i, i < 10 ∧ tb (m.1 9 c) i = true ∧ ∃ j, j < n ∧ R j = i ∧ P j = pl) := by
  intro d
  induction d with
  | zero =>
    intro k N b hk hN hb
    obtain ⟨N, rfl⟩ : ∃ z, N = z + 1 := ⟨N - 1, by omega⟩
    have : k = 10 := by omega
    subst this
    refine ⟨b, ?_, hb⟩
    rw [f_X6_isShut_5, if_pos (show nI 10 ≥ 10 by decide)]
  | succ d ih =>
    intro k N b hk hN hb
    obtain ⟨N, rfl⟩ : ∃ z, N = z + 1 := ⟨N - 1, by omega⟩
    rw [f_X6_isShut_5, if_neg (show ¬ nI k ≥ 10 from nI_ge (b := 10) (by omega) (by omega))]
    cases b with
    | true =>
      obtain ⟨j0, h0⟩ := hb.mp rfl
      obtain ⟨e, g1, g2⟩ := ih (k + 1) N true (by omega) (by omega) ⟨fun _ => ⟨j0, by omega, h0.2⟩, fun _ => rfl⟩
      refine ⟨e, ?_, g2⟩
      rw [if_neg (by decide), jl_eq, nI_1]
      exact g1
    | false =>
      have hno : ∀ i, i < k → ¬ (tb (m.1 9 c) i = true ∧ ∃ j, j < n ∧ R j = i ∧ P j = pl) := fun j h1 h2 => by
        have := hb.mpr ⟨j, h1, h2⟩
        cases this
      rw [if_pos (show bI false = 0 by decide), job_nI (by omega) (by omega), cond_false, jag_nI (by omega)]
      by_cases hb1 : tb (m.1 9 c) k = true
      · rw [if_pos ((tb_shr (by omega) _).mpr hb1)]
        obtain ⟨q, p1, p2⟩ := mprog (r := k) (pl := pl) hn (by omega) hpl h3 hR hP
        rw [p1, Option.bind_some]
        cases q with
        | true =>
          obtain ⟨e, g1, g2⟩ := ih (k + 1) N true (by omega) (by omega) ⟨fun _ => ⟨k, by omega, hb1, p2.mp rfl⟩, fun _ => rfl⟩
          refine ⟨e, ?_, g2⟩
          rw [if_neg (show ¬ bI true = 0 by decide), jl_eq, nI_1]
          exact g1
        | false =>
          obtain ⟨e, g1, g2⟩ := ih (k + 1) N false (by omega) (by omega) ⟨fun h => (by cases h), fun ⟨i, h1, h2, h3⟩ => by
            by_cases e : i = k
            · subst e
              have := p2.mpr h3
              cases this
            · exact absurd ⟨h2, h3⟩ (hno i (by omega))⟩
          refine ⟨e, ?_, g2⟩
          rw [if_pos (show bI false = 0 by decide), jl_eq, nI_1]
          exact g1
      · obtain ⟨e, g1, g2⟩ := ih (k + 1) N false (by omega) (by omega) ⟨fun h => (by cases h), fun ⟨i, h1, h2, h3⟩ => by
          by_cases e : i = k
          · exact absurd (e ▸ h2) hb1
          · exact absurd ⟨h2, h3⟩ (hno i (by omega))⟩
        refine ⟨e, ?_, g2⟩
        rw [if_neg (fun h => hb1 ((tb_shr (by omega) _).mp h)), jl_eq, nI_1]
        exact g1
theorem mshut {n c pl : Nat} {R P : Nat → Nat} {m : jS} (hn : n ≤ 101) (hc : c < 410) (hpl : pl < 1000) (h3 : m.2 3 = nI n) (hR : ∀ j, j < n → m.1 10 j = nI (R j) ∧ R j < 1000) (hP : ∀ j, j < n → m.1 11 j = nI (P j) ∧ P j < 1000) : ∃ e : Bool, f_X6_isShut m (nI c) (nI pl) = some (bI e, m) ∧ (e = true ↔ ∃ i, i < 10 ∧ tb (m.1 9 c) i = true ∧ ∃ j, j < n ∧ R j = i ∧ P j = pl) := by
  obtain ⟨e, g1, g2⟩ := mshut_loop (c := c) (K := fun s15 y11 y12 y13 y14 =>
    bif jnb y13 then none else
    some (y13, s15)) hn hc hpl h3 hR hP 10 0 jFuel false (by omega) (jFuel_gt (by omega)) ⟨fun h => (by cases h), fun ⟨j, h, _⟩ => by omega⟩
  refine ⟨e, ?_, g2⟩
  rw [f_X6_isShut]
  refine Eq.trans g1 ?_
  rw [bI_jnb, cond_false]
/-- the search among those in progress -/
theorem mfind_no {lk : jS → Int32 → Int32 → Int32 → Option (Int32 × jS)} {n r pl : Nat} {v3 v4 : Int32} {R P : Nat → Nat} {m : jS} {K : jS → Int32 → Int32 → Int32 → Int32 → Int32 → Option (Int32 × jS)} (hn : n ≤ 101) (hr : r < 1000) (hpl : pl < 1000) (h3 : m.2 3 = nI n) (hR : ∀ j, j < n → m.1 10 j = nI (R j) ∧ R j < 1000) (hP : ∀ j, j < n → m.1 11 j = nI (P j) ∧ P j < 1000) (hno : ∀ j, j < n → ¬ (R j = r ∧ P j = pl)) : ∀ (d k N : Nat), k + d = n → d < N → f_X6_lookRule_115 lk K N m (nI r) (nI pl) v3 v4 (nI k) = K m (nI r) (nI pl) v3 v4 (nI n) := by
  intro d
  induction d with
  | zero =>
    intro k N hk hN
    obtain ⟨N, rfl⟩ : ∃ z, N = z + 1 := ⟨N - 1, by omega⟩
    have : k = n := by omega
    subst this
    rw [f_X6_lookRule_115, if_pos (show nI k ≥ m.2 3 by rw [h3]; exact Int32.le_refl _)]
  | succ d ih =>
    intro k N hk hN
    obtain ⟨N, rfl⟩ : ∃ z, N = z + 1 := ⟨N - 1, by omega⟩
    obtain ⟨hr1, hr2⟩ := hR k (by omega)
    obtain ⟨hp1, hp2⟩ := hP k (by omega)
    rw [f_X6_lookRule_115, if_neg (show ¬ nI k ≥ m.2 3 by rw [h3]; exact nI_ge (by omega) (by omega)), job_nI (by omega) (by omega), cond_false, jag_nI (by omega), hr1]
    by_cases er : R k = r
    · have ep : ¬ P k = pl := fun e => hno k (by omega) ⟨er, e⟩
      rw [if_pos (by rw [er]), cond_false, jag_nI (by omega), hp1, if_neg (fun e => ep (nI_inj (by omega) (by omega) e)), jl_eq, nI_1]
      exact ih (k + 1) N (by omega) (by omega)
    · rw [if_neg (fun e => er (nI_inj (by omega) (by omega) e)), jl_eq, nI_1]
      exact ih (k + 1) N (by omega) (by omega)
theorem mfind_yes {lk : jS → Int32 → Int32 → Int32 → Option (Int32 × jS)} {n r pl k0 : Nat} {v3 v4 : Int32} {R P : Nat → Nat} {m : jS} {K : jS → Int32 → Int32 → Int32 → Int32 → Int32 → Option (Int32 × jS)} {o : Int32 × jS} (hn : n ≤ 101) (hr : r < 1000) (hpl : pl < 1000) (h3 : m.2 3 = nI n) (hR : ∀ j, j < n → m.1 10 j = nI (R j) ∧ R j < 1000) (hP : ∀ j, j < n → m.1 11 j = nI (P j) ∧ P j < 1000) (hk0 : k0 < n) (hrk : R k0 = r) (hpk : P k0 = pl) (hno : ∀ j, j < k0 → ¬ (R j = r ∧ P j = pl)) (ho : f_X6_ask m (nI k0) = some o) : ∀ (d k N : Nat), k + d = k0 → d < N → f_X6_lookRule_115 lk K N m (nI r) (nI pl) v3 v4 (nI k) = some o := by
  intro d
  induction d with
  | zero =>
    intro k N hk hN
    obtain ⟨N, rfl⟩ : ∃ z, N = z + 1 := ⟨N - 1, by omega⟩
    have : k = k0 := by omega
    subst this
    obtain ⟨hr1, hr2⟩ := hR k (by omega)
    obtain ⟨hp1, hp2⟩ := hP k (by omega)
    rw [f_X6_lookRule_115, if_neg (show ¬ nI k ≥ m.2 3 by rw [h3]; exact nI_ge (by omega) (by omega)), job_nI (by omega) (by omega), cond_false, jag_nI (by omega), hr1, if_pos (by rw [hrk]), cond_false, jag_nI (by omega), hp1, if_pos (by rw [hpk]), ho, Option.bind_some]
  | succ d ih =>
    intro k N hk hN
    obtain ⟨N, rfl⟩ : ∃ z, N = z + 1 := ⟨N - 1, by omega⟩
    obtain ⟨hr1, hr2⟩ := hR k (by omega)
    obtain ⟨hp1, hp2⟩ := hP k (by omega)
    rw [f_X6_lookRule_115, if_neg (show ¬ nI k ≥ m.2 3 by rw [h3]; exact nI_ge (by omega) (by omega)), job_nI (by omega) (by omega), cond_false, jag_nI (by omega), hr1]
    by_cases er : R k = r
    · have ep : ¬ P k = pl := fun e => hno k (by omega) ⟨er, e⟩
      rw [if_pos (by rw [er]), cond_false, jag_nI (by omega), hp1, if_neg (fun e => ep (nI_inj (by omega) (by omega) e)), jl_eq, nI_1]
      exact ih (k + 1) N (by omega) (by omega)
    · rw [if_neg (fun e => er (nI_inj (by omega) (by omega) e)), jl_eq, nI_1]
      exact ih (k + 1) N (by omega) (by omega)
end L2S
