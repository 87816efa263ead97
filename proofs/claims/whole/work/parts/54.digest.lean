/-! digest -/
section L2S
/-- F at k, k + 1, .., n times -/
def itf {α : Type} (F : Nat → α → α) : Nat → Nat → α → α
  | _, 0, v => v
  | k, n + 1, v => itf F (k + 1) n (F k v)
theorem itf_add {α : Type} (F : Nat → α → α) : ∀ (a k b : Nat) (v : α), itf F k (a + b) v = itf F (k + a) b (itf F k a v) := by
  intro a
  induction a with
  | zero => intro k b v; rw [Nat.zero_add]; rfl
  | succ a ih =>
    intro k b v
    rw [show a + 1 + b = (a + b) + 1 by omega]
    show itf F (k + 1) (a + b) (F k v) = itf F (k + (a + 1)) b (itf F (k + 1) a (F k v))
    rw [ih, show k + 1 + a = k + (a + 1) by omega]
theorem itf_congr {α : Type} {F G : Nat → α → α} : ∀ (n k : Nat) (v : α), (∀ i, k ≤ i → i < k + n → F i = G i) → itf F k n v = itf G k n v := by
  intro n
  induction n with
  | zero => intro k v _; rfl
  | succ n ih =>
    intro k v h
    show itf F (k + 1) n (F k v) = itf G (k + 1) n (G k v)
    rw [h k (Nat.le_refl k) (by omega), ih (k + 1) _ (fun i h1 h2 => h i (by omega) (by omega))]
theorem itf_id {α : Type} {F : Nat → α → α} : ∀ (n k : Nat) (v : α), (∀ i v, k ≤ i → i < k + n → F i v = v) → itf F k n v = v := by
  intro n
  induction n with
  | zero => intro k v _; rfl
  | succ n ih =>
    intro k v h
    show itf F (k + 1) n (F k v) = v
    rw [h k v (Nat.le_refl k) (by omega), ih (k + 1) _ (fun i v h1 h2 => h i v (by omega) (by omega))]
theorem itf_shift {α : Type} (F : Nat → α → α) (a : Nat) : ∀ (n k : Nat) (v : α), itf F (a + k) n v = itf (fun i => F (a + i)) k n v := by
  intro n
  induction n with
  | zero => intro k v; rfl
  | succ n ih => intro k v; exact ih (k + 1) _
/-- blocks of a -/
theorem itf_mul {α : Type} (F : Nat → α → α) (a : Nat) : ∀ (b k : Nat) (v : α), itf F (a * k) (a * b) v = itf (fun i v => itf (fun j => F (a * i + j)) 0 a v) k b v := by
  intro b
  induction b with
  | zero => intro k v; rfl
  | succ b ih =>
    intro k v
    rw [Nat.mul_succ, Nat.add_comm (a * b) a, itf_add, ← Nat.mul_succ, ih]
    show _ = itf _ (k + 1) b (itf (fun j => F (a * k + j)) 0 a v)
    rw [← itf_shift F (a * k) a 0]
    rfl
def mx (v : Int64) (a : Int32) : Int64 := v * 31 + a.toInt64
theorem mix_eq (v : Int64) (a : Int32) : f_X5_mix v a = some (mx v a) := rfl
theorem nI_div10 {k : Nat} (h : k < 410) : nI k / 10 = nI (k / 10) ∧ nI k - nI k / 10 * 10 = nI (k % 10) := by
  have e : nI k / 10 = nI (k / 10) := by
    apply Int32.toInt_inj.mp
    rw [Int32.toInt_div, nI_toInt (by omega), nI_toInt (by omega)]
    show Int.bmod ((k : Int).tdiv 10) (2 ^ 32) = _
    have e2 : (k : Int).tdiv 10 = ((k / 10 : Nat) : Int) := rfl
    rw [e2]
    exact Int.bmod_eq_of_le (by omega) (by omega)
  refine ⟨e, ?_⟩
  rw [e, show (10 : Int32) = nI 10 from rfl, nI_mul]
  have e3 : nI k = nI (k % 10) + nI (k / 10 * 10) := by rw [nI_add]; congr 1; omega
  rw [e3]
  exact Int32.add_sub_cancel _ _
end L2S
