/-! digest -/
section L2S
/-- F at k, k + 1, .., n times -/
def itf {α : Type} (F : Nat → α → α) : Nat → Nat → α → α
  | _, 0, v => v
  | k, n + 1, v => itf F (k + 1) n (F k v)
theorem itf_add {α : Type} (F : Nat → α → α) : ∀ (a k b : Nat) (v : α), itf F k (a + b) v = itf F (k + a) b (itf F k a v) := by
  intro a
  induction a with
  | zero => intro k b v; rw [Nat.zero_add]; rfl
  | succ a ih =>
    intro k b v
    rw [show a + 1 + b = (a + b) + 1 by omega]
    show itf F (k + 1) (a + b) (F k v) = itf F (k + (a + 1)) b (itf F (k + 1) a (F k v))
    rw [ih, show k + 1 + a = k + (a + 1) by omega]
theorem itf_congr {α : Type} {F G : Nat → α → α} : ∀ (n k : Nat) (v : α), (∀ i, k ≤ i → i < k + n → F i = G i) → itf F k n v = itf G k n v := by
  intro n
  induction n with
  | zero => intro k v _; rfl
  | succ n ih =>
    intro k v h
    show itf F (k + 1) n (F k v) = itf G (k + 1) n (G k v)
    rw [h k (Nat.le_refl k) (by omega), ih (k + 1) _ (fun i h1 h2 => h i (by omega) (by omega))]
theorem itf_id {α : Type} {F : Nat → α → α} : ∀ (n k : Nat) (v : α), (∀ i v, k ≤ i → i < k + n → F i v = v) → itf F k n v = v := by
  intro n
  induction n with
  | zero => intro k v _; rfl
  | succ n ih =>
    intro k v h
    show itf F (k + 1) n (F k v) = v
    rw [h k v (Nat.le_refl k) (by omega), ih (k + 1) _ (fun i v h1 h2 => h i v (by omega) (by omega))]
theorem itf_shift {α : Type} (F : Nat → α → α) (a : Nat) : ∀ (n k : Nat) (v : α), itf F (a + k) n v = itf (fun i => F (a + i)) k n v := by
  intro n
  induction n with
  | zero => intro k v; rfl
  | succ n ih => intro k v; exact ih (k + 1) _
/-- blocks of a -/
theorem itf_mul {α : Type} (F : Nat → α → α) (a : Nat) : ∀ (b k : Nat) (v : α), itf F (a * k) (a * b) v = itf (fun i v => itf (fun j => F (a * i + j)) 0 a v) k b v := by
  intro b
  induction b with
  | zero => intro k v; rfl
  | succ b ih =>
    intro k v
    rw [Nat.mul_succ, Nat.add_comm (a * b) a, itf_add, ← Nat.mul_succ, ih]
    show _ = itf _ (k + 1) b (itf (fun j => F (a * k + j)) 0 a v)
    rw [← itf_shift F (a * k) a 0]
    rfl
def mx (v : Int64) (a : Int32) : Int64 := v * 31 + a.toInt64
theorem mix_eq (v : Int64) (a : Int32) : f_X5_mix v a = some (mx v a) := rfl
theorem nI_div10 {k : Nat} (h : k < 410) : nI k / 10 = nI (k / 10) ∧ nI k - nI k / 10 * 10 = nI (k % 10) := by
  have e : nI k / 10 = nI (k / 10) := by
    apply Int32.toInt_inj.mp
    rw [Int32.toInt_div, nI_toInt (by omega), nI_toInt (by omega)]
    show Int.bmod ((k : Int).tdiv 10) (2 ^ 32) = _
    have e2 : (k : Int).tdiv 10 = ((k / 10 : Nat) : Int) := rfl
    rw [e2]
    exact Int.bmod_eq_of_le (by omega) (by omega)
  refine ⟨e, ?_⟩
  rw [e, show (10 : Int32) = nI 10 from rfl, nI_mul]
  have e3 : nI k = nI (k % 10) + nI (k / 10 * 10) := by rw [nI_add]; congr 1; omega
  rw [e3]
  exact Int32.add_sub_cancel _ _
def dR (x : jS) (a : Nat) (r : Nat) (v : Int64) : Int64 := mx v (x.1 a r)
theorem dgX0 {x : jS} {K : jS → Int64 → Int64 → Int32 → Option (Int64 × jS)} {v1 : Int64} : ∀ (d k N : Nat) (v : Int64), k + d = 10 → d < N → f_X0_addToDigest_12 K N x v1 v (nI k) = K x v1 (itf (dR x 5) k d v) (nI 10) := by
  intro d
  induction d with
  | zero =>
    intro k N v hk hN
    obtain ⟨N, rfl⟩ : ∃ z, N = z + 1 := ⟨N - 1, by omega⟩
    have : k = 10 := by omega
    subst this
    rw [f_X0_addToDigest_12, if_pos (show nI 10 ≥ 10 from by decide)]
    rfl
  | succ d ih =>
    intro k N v hk hN
    obtain ⟨N, rfl⟩ : ∃ z, N = z + 1 := ⟨N - 1, by omega⟩
    rw [f_X0_addToDigest_12, if_neg (show ¬ nI k ≥ 10 from nI_ge (b := 10) (by omega) (by omega)), job_nI (by omega) (by omega), jag_nI (by omega), mix_eq]
    simp only [cond_false, Option.bind_some, jl]
    rw [nI_1, ih (k + 1) N _ (by omega) (by omega)]
    rfl
theorem dgX4 {x : jS} {sz : Nat} (hs : sz ≤ 40) (h : x.2 1 = nI sz) {K : jS → Int64 → Int64 → Int32 → Option (Int64 × jS)} {v1 : Int64} : ∀ (d k N : Nat) (v : Int64), k + d = sz → d < N → f_X4_addToDigest_12 K N x v1 v (nI k) = K x v1 (itf (dR x 10) k d v) (nI sz) := by
  intro d
  induction d with
  | zero =>
    intro k N v hk hN
    obtain ⟨N, rfl⟩ : ∃ z, N = z + 1 := ⟨N - 1, by omega⟩
    have : k = sz := by omega
    subst this
    rw [f_X4_addToDigest_12, if_pos (show nI k ≥ x.2 1 from by rw [h]; exact nI_le (Nat.le_refl k) (by omega))]
    rfl
  | succ d ih =>
    intro k N v hk hN
    obtain ⟨N, rfl⟩ : ∃ z, N = z + 1 := ⟨N - 1, by omega⟩
    rw [f_X4_addToDigest_12, if_neg (show ¬ nI k ≥ x.2 1 from by rw [h]; exact nI_ge (show k < sz by omega) (by omega)), job_nI (by omega) (by omega), jag_nI (by omega), mix_eq]
    simp only [cond_false, Option.bind_some, jl]
    rw [nI_1, ih (k + 1) N _ (by omega) (by omega)]
    rfl
def dX (x : jS) (c : Nat) (v : Int64) : Int64 := if x.1 12 c = -3 then v else mx (mx (mx (mx v (nI (c / 10))) (nI (c % 10))) (x.1 12 c)) (x.1 13 c)
theorem dgX1 {x : jS} {K : jS → Int64 → Int64 → Int32 → Option (Int64 × jS)} {v1 : Int64} : ∀ (d k N : Nat) (v : Int64), k + d = 410 → d < N → f_X1_addToDigest_5 K N x v1 v (nI k) = K x v1 (itf (dX x) k d v) (nI 410) := by
  intro d
  induction d with
  | zero =>
    intro k N v hk hN
    obtain ⟨N, rfl⟩ : ∃ z, N = z + 1 := ⟨N - 1, by omega⟩
    have : k = 410 := by omega
    subst this
    rw [f_X1_addToDigest_5, if_pos (show nI 410 ≥ 410 from by decide)]
    rfl
  | succ d ih =>
    intro k N v hk hN
    obtain ⟨N, rfl⟩ : ∃ z, N = z + 1 := ⟨N - 1, by omega⟩
    rw [f_X1_addToDigest_5, if_neg (show ¬ nI k ≥ 410 from nI_ge (b := 410) (by omega) (by omega)), holds_eq (by omega)]
    simp only [Option.bind_some, jl, mix_eq, job_nI (show k < 410 by omega) (by omega), cond_false, jag_nI (show k < 2 ^ 31 by omega), (nI_div10 (show k < 410 by omega)).1, (nI_div10 (show k < 410 by omega)).2]
    have hd := (nI_div10 (show k < 410 by omega)).2
    rw [(nI_div10 (show k < 410 by omega)).1] at hd
    rw [hd]
    have hs : itf (dX x) k (d + 1) v = itf (dX x) (k + 1) d (dX x k v) := rfl
    rw [hs]
    by_cases hc : x.1 12 k = -3
    · have e : dX x k v = v := if_pos hc
      rw [if_pos (by rw [if_pos hc]), nI_1, ih (k + 1) N _ (by omega) (by omega), e]
    · have e : dX x k v = mx (mx (mx (mx v (nI (k / 10))) (nI (k % 10))) (x.1 12 k)) (x.1 13 k) := if_neg hc
      rw [if_neg (by rw [if_neg hc]; decide), nI_1, ih (k + 1) N _ (by omega) (by omega), e]
theorem dgM17 {m : jS} {K : jS → Int64 → Int32 → Option (Int64 × jS)} : ∀ (d k N : Nat) (v : Int64), k + d = 10 → d < N → f_X6_digest_17 K N m v (nI k) = K m (itf (dR m 4) k d v) (nI 10) := by
  intro d
  induction d with
  | zero =>
    intro k N v hk hN
    obtain ⟨N, rfl⟩ : ∃ z, N = z + 1 := ⟨N - 1, by omega⟩
    have : k = 10 := by omega
    subst this
    rw [f_X6_digest_17, if_pos (show nI 10 ≥ 10 from by decide)]
    rfl
  | succ d ih =>
    intro k N v hk hN
    obtain ⟨N, rfl⟩ : ∃ z, N = z + 1 := ⟨N - 1, by omega⟩
    rw [f_X6_digest_17, if_neg (show ¬ nI k ≥ 10 from nI_ge (b := 10) (by omega) (by omega)), job_nI (by omega) (by omega), jag_nI (by omega)]
    simp only [cond_false, jl]
    rw [nI_1, ih (k + 1) N _ (by omega) (by omega)]
    rfl
theorem dgM57 {m : jS} {sz : Nat} (hs : sz ≤ 40) (h : m.2 2 = nI sz) {K : jS → Int64 → Int32 → Option (Int64 × jS)} : ∀ (d k N : Nat) (v : Int64), k + d = sz → d < N → f_X6_digest_57 K N m v (nI k) = K m (itf (dR m 5) k d v) (nI sz) := by
  intro d
  induction d with
  | zero =>
    intro k N v hk hN
    obtain ⟨N, rfl⟩ : ∃ z, N = z + 1 := ⟨N - 1, by omega⟩
    have : k = sz := by omega
    subst this
    rw [f_X6_digest_57, if_pos (show nI k ≥ m.2 2 from by rw [h]; exact nI_le (Nat.le_refl k) (by omega))]
    rfl
  | succ d ih =>
    intro k N v hk hN
    obtain ⟨N, rfl⟩ : ∃ z, N = z + 1 := ⟨N - 1, by omega⟩
    rw [f_X6_digest_57, if_neg (show ¬ nI k ≥ m.2 2 from by rw [h]; exact nI_ge (show k < sz by omega) (by omega)), job_nI (by omega) (by omega), jag_nI (by omega)]
    simp only [cond_false, jl]
    rw [nI_1, ih (k + 1) N _ (by omega) (by omega)]
    rfl
def dM (m : jS) (p r : Nat) (v : Int64) : Int64 := if m.1 6 (41 * r + p) = 0 then v else mx (mx (mx (mx v (nI p)) (nI r)) (m.1 7 (41 * r + p))) (m.1 8 (41 * r + p))
theorem dgM98 {m : jS} {p : Nat} (hp : p ≤ 40) {K : jS → Int64 → Int32 → Int32 → Option (Int64 × jS)} : ∀ (d k N : Nat) (v : Int64), k + d = 10 → d < N → f_X6_digest_98 K N m v (nI p) (nI k) = K m (itf (dM m p) k d v) (nI p) (nI 10) := by
  intro d
  induction d with
  | zero =>
    intro k N v hk hN
    obtain ⟨N, rfl⟩ : ∃ z, N = z + 1 := ⟨N - 1, by omega⟩
    have : k = 10 := by omega
    subst this
    rw [f_X6_digest_98, if_pos (show nI 10 ≥ 10 from by decide)]
    rfl
  | succ d ih =>
    intro k N v hk hN
    obtain ⟨N, rfl⟩ : ∃ z, N = z + 1 := ⟨N - 1, by omega⟩
    rw [f_X6_digest_98, if_neg (show ¬ nI k ≥ 10 from nI_ge (b := 10) (by omega) (by omega))]
    simp only [jl, cellM_eq, job_nI (show 41 * k + p < 410 by omega) (by omega), cond_false, jag_nI (show 41 * k + p < 2 ^ 31 by omega)]
    have hs : itf (dM m p) k (d + 1) v = itf (dM m p) (k + 1) d (dM m p k v) := rfl
    rw [hs]
    by_cases hc : m.1 6 (41 * k + p) = 0
    · have e : dM m p k v = v := if_pos hc
      rw [if_pos hc, nI_1, ih (k + 1) N _ (by omega) (by omega), e]
    · have e : dM m p k v = mx (mx (mx (mx v (nI p)) (nI k)) (m.1 7 (41 * k + p))) (m.1 8 (41 * k + p)) := if_neg hc
      rw [if_neg hc, nI_1, ih (k + 1) N _ (by omega) (by omega), e]
      rfl
def dMp (m : jS) (p : Nat) (v : Int64) : Int64 := itf (dM m p) 0 10 v
theorem dgM87 {m : jS} {sz : Nat} (hs : sz ≤ 40) (h : m.2 2 = nI sz) {K : jS → Int64 → Int32 → Option (Int64 × jS)} : ∀ (d k N : Nat) (v : Int64), k + d = sz + 1 → d < N → f_X6_digest_87 K N m v (nI k) = K m (itf (dMp m) k d v) (nI (sz + 1)) := by
  intro d
  induction d with
  | zero =>
    intro k N v hk hN
    obtain ⟨N, rfl⟩ : ∃ z, N = z + 1 := ⟨N - 1, by omega⟩
    have : k = sz + 1 := by omega
    subst this
    rw [f_X6_digest_87, if_pos (show nI (sz + 1) > m.2 2 from by rw [h]; exact nI_lt (by omega) (by omega))]
    rfl
  | succ d ih =>
    intro k N v hk hN
    obtain ⟨N, rfl⟩ : ∃ z, N = z + 1 := ⟨N - 1, by omega⟩
    rw [f_X6_digest_87, if_neg (show ¬ nI k > m.2 2 from by rw [h]; exact nI_nlt (show k ≤ sz by omega) (by omega))]
    have e := dgM98 (m := m) (p := k) (by omega) (K := fun s31 y28 y29 y30 => jl (y29 + 1) fun x32 => f_X6_digest_87 K N s31 y28 x32) 10 0 jFuel v (by omega) (jFuel_gt (by omega))
    refine e.trans ?_
    simp only [jl]
    rw [nI_1, ih (k + 1) N _ (by omega) (by omega)]
    rfl
theorem dg_mem {x m : jS} {sz : Nat} (hs : sz ≤ 40) (h : RMe x m sz) (v : Int64) : itf (dX x) 0 410 v = itf (dMp m) 0 (sz + 1) v := by
  have e1 : itf (dX x) 0 410 v = itf (fun p v => itf (fun r => dX x (10 * p + r)) 0 10 v) 0 41 v := itf_mul (dX x) 10 41 0 v
  have e2 : itf (fun p v => itf (fun r => dX x (10 * p + r)) 0 10 v) 0 41 v = itf (dMp m) 0 41 v := by
    refine itf_congr 41 0 v (fun p _ hp => ?_)
    funext v
    refine itf_congr 10 0 v (fun r _ hr => ?_)
    funext v
    have d1 : (10 * p + r) / 10 = p := by omega
    have d2 : (10 * p + r) % 10 = r := by omega
    unfold dX dM
    rw [d1, d2]
    rcases h r p (by omega) (by omega) with h1 | h1
    · rw [if_pos h1.2.1, if_pos h1.1]
    · obtain ⟨h1, h2, h3, h4, h5, w, hw, h6, h7, h8⟩ := h1
      have q1 : ¬ x.1 12 (10 * p + r) = -3 := by
        rw [h3]
        rcases h8 with h8 | ⟨q, h8, h9, h10, h11⟩
        · rw [h8]; decide
        · rw [h8]; exact nI_m3 (by omega)
      have q2 : ¬ m.1 6 (41 * r + p) = 0 := by rw [h1]; decide
      rw [if_neg q1, if_neg q2, h3, h4]
  have e3 : itf (dMp m) 0 41 v = itf (dMp m) 0 (sz + 1) v := by
    rw [show 41 = (sz + 1) + (40 - sz) by omega, itf_add]
    refine itf_id _ _ _ (fun p v hp1 hp2 => itf_id _ _ _ (fun r v _ hr => ?_))
    unfold dM
    rcases h r p (by omega) (by omega) with h1 | h1
    · rw [if_pos h1.1]
    · exact absurd h1.2.1 (by omega)
  rw [e1, e2, e3]
theorem mx107 (a : Int32) : mx 107 a = 3317 + a.toInt64 := by
  unfold mx
  rw [show (107 : Int64) * 31 = 3317 from by decide]
theorem digX {x : jS} {sz : Nat} (hs : sz ≤ 40) (h : x.2 1 = nI sz) : f_X5_digest x = some (mx (mx (mx (itf (dX x) 0 410 (itf (dR x 10) 0 sz (mx (itf (dR x 5) 0 10 (mx 107 (x.2 0))) (x.2 1)))) (x.2 3)) (x.2 4)) (x.2 5), x) := by
  have a1 : f_X0_addToDigest x 107 = some (itf (dR x 5) 0 10 (mx 107 (x.2 0)), x) := by
    unfold f_X0_addToDigest
    have hN : 999 < jFuel := jFuel_gt (by omega)
    generalize jFuel = N at hN ⊢
    rw [mix_eq, Option.bind_some, ← nI_0, dgX0 10 0 N _ rfl (by omega)]
  have a2 : ∀ v, f_X4_addToDigest x v = some (itf (dR x 10) 0 sz (mx v (x.2 1)), x) := by
    intro v
    unfold f_X4_addToDigest
    have hN : 999 < jFuel := jFuel_gt (by omega)
    generalize jFuel = N at hN ⊢
    rw [mix_eq, Option.bind_some, ← nI_0, dgX4 hs h sz 0 N _ (by omega) (by omega)]
  have a3 : ∀ v, f_X1_addToDigest x v = some (itf (dX x) 0 410 v, x) := by
    intro v
    unfold f_X1_addToDigest
    have hN : 999 < jFuel := jFuel_gt (by omega)
    generalize jFuel = N at hN ⊢
    rw [← nI_0, dgX1 410 0 N _ rfl (by omega)]
  unfold f_X5_digest
  rw [a1, Option.bind_some, a2, Option.bind_some, a3, Option.bind_some, mix_eq, Option.bind_some, mix_eq, Option.bind_some, mix_eq, Option.bind_some]
theorem digM0 {m0 : jS} {sz N : Nat} (hs : sz ≤ 40) (h : m0.2 2 = nI sz) (hN : 999 < N) (v : Int64) : f_X6_digest_17 (fun s9 y7 _ =>
    jl ((y7 * (31 : Int64)) + ((s9.2 2)).toInt64) fun x10 =>
    f_X6_digest_57 (fun s17 y15 _ =>
      f_X6_digest_87 (fun s35 y33 _ =>
        some (((((((y33 * (31 : Int64)) + ((s35.2 6)).toInt64) * (31 : Int64)) + ((s35.2 7)).toInt64) * (31 : Int64)) + ((s35.2 8)).toInt64), s35)
        ) N s17 y15 (nI 0)
      ) N s9 x10 (nI 0)
    ) N m0 v (nI 0) = some (mx (mx (mx (itf (dMp m0) 0 (sz + 1) (itf (dR m0 5) 0 sz (mx (itf (dR m0 4) 0 10 v) (m0.2 2)))) (m0.2 6)) (m0.2 7)) (m0.2 8), m0) := by
  rw [dgM17 10 0 N v rfl (by omega)]
  simp only [jl]
  rw [dgM57 hs h sz 0 N _ (by omega) (by omega)]
  rw [dgM87 hs h (sz + 1) 0 N _ (by omega) (by omega)]
  rw [show itf (dR m0 4) 0 10 v * 31 + (m0.2 2).toInt64 = mx (itf (dR m0 4) 0 10 v) (m0.2 2) from by generalize itf (dR m0 4) 0 10 v = z; rfl]
  generalize itf (dMp m0) 0 (sz + 1) (itf (dR m0 5) 0 sz (mx (itf (dR m0 4) 0 10 v) (m0.2 2))) = z
  rfl
theorem digM {m : jS} {sz : Nat} (hs : sz ≤ 40) (h : m.2 2 = nI sz) : f_X6_digest m = some (mx (mx (mx (itf (dMp (jis m 0 0)) 0 (sz + 1) (itf (dR (jis m 0 0) 5) 0 sz (mx (itf (dR (jis m 0 0) 4) 0 10 (3317 + ((jis m 0 0).2 1).toInt64)) ((jis m 0 0).2 2)))) ((jis m 0 0).2 6)) ((jis m 0 0).2 7)) ((jis m 0 0).2 8), jis m 0 0) := by
  have e := digM0 (m0 := jis m 0 0) (N := jFuel) hs h (jFuel_gt (by omega)) (3317 + ((jis m 0 0).2 1).toInt64)
  rw [nI_0] at e
  rw [f_X6_digest, jl, jl]
  exact e
theorem lh_digest : LH_digest Rel := by
  intro x m h
  obtain ⟨n, sz, hG, hT, hM, hP, hC⟩ := id h
  have hrules : ∀ v, itf (dR x 5) 0 10 v = itf (dR (jis m 0 0) 4) 0 10 v := fun v => itf_congr 10 0 v (fun r _ hr => by
    funext v
    unfold dR
    rw [(hG.2.2.2.2 r (by omega)).1])
  have htext : ∀ v, itf (dR x 10) 0 sz v = itf (dR (jis m 0 0) 5) 0 sz v := fun v => itf_congr sz 0 v (fun r _ hr => by
    funext v
    unfold dR
    rw [hT.2.2.2 r (by omega)])
  have hM0 : RMe x (jis m 0 0) sz := hM
  have q1 : (jis m 0 0).2 1 = nI n := hG.2.2.1
  have q2 : (jis m 0 0).2 2 = nI sz := hT.2.2.1
  have q6 : x.2 3 = (jis m 0 0).2 6 := hC.1
  have q7 : x.2 4 = (jis m 0 0).2 7 := hC.2.1
  have q8 : x.2 5 = (jis m 0 0).2 8 := hC.2.2.1
  refine ⟨_, _, digX hT.1 hT.2.1, digM hT.1 hT.2.2.1, ?_, h⟩
  show mx _ _ = mx _ _
  rw [dg_mem hT.1 hM0, hrules, htext, q6, q7, q8, hT.2.1, q2, hG.2.1, q1, mx107]
end L2S
