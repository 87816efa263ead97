/-! LEVEL 2: pure. The relation between the class's state x and the reference's state m, between calls. -/
section L2A
theorem job_nI {k n : Nat} (h : k < n) (hn : n < 2 ^ 31) : job (nI k) n = false := job_of (vp_in_nI h hn)
theorem jag_nI {st : jS} {a k : Nat} (h : k < 2 ^ 31) : jag st a (nI k) = st.1 a k := by unfold jag; rw [nI_clamp h]
theorem upd_self (f : Nat → Int32) (k : Nat) (v : Int32) : upd f k v k = v := if_pos rfl
theorem upd_ne {f : Nat → Int32} {k j : Nat} {v : Int32} (h : j ≠ k) : upd f k v j = f j := if_neg h
theorem nI_neg {q : Nat} {v : Int32} (h : q < 2 ^ 31) (hv : v.toInt < 0) : nI q ≠ v := by
  intro e
  have h1 := nI_toInt h
  rw [e] at h1
  omega
theorem nI_m1 {q : Nat} (h : q < 2 ^ 31) : nI q ≠ -1 := nI_neg h (by decide)
theorem nI_m2 {q : Nat} (h : q < 2 ^ 31) : nI q ≠ -2 := nI_neg h (by decide)
theorem nI_m3 {q : Nat} (h : q < 2 ^ 31) : nI q ≠ -3 := nI_neg h (by decide)
theorem nI_m4 {q : Nat} (h : q < 2 ^ 31) : nI q ≠ -4 := nI_neg h (by decide)
theorem nI_mul (a b : Nat) : nI a * nI b = nI (a * b) := (Int32.ofNat_mul a b).symm
theorem nI_inj {a b : Nat} (ha : a < 2 ^ 31) (hb : b < 2 ^ 31) (h : nI a = nI b) : a = b := (nI_eq ha hb).mp h
/-- an int that is no negative number below N -/
theorem nI_lt_of {x : Int32} {N : Nat} (hN : N < 2 ^ 31) (h0 : ¬ x < 0) (h1 : x < nI N) : ∃ j : Nat, j < N ∧ x = nI j := by
  obtain ⟨j, hj, rfl⟩ := nI_of h0
  exact ⟨j, (nI_ltI hj hN).mp h1, rfl⟩
theorem vp_updL_self (f : Nat → Int64) (k : Nat) (v : Int64) : vp_updL f k v k = v := by simp [vp_updL]
end L2A
section L2R
/-- an expression e of kind k -/
def RE (x m : jS) (e k : Nat) : Prop :=
  k ≤ 9 ∧ x.1 2 e = nI k ∧ m.1 1 e = nI k ∧ (2 ≤ k → x.1 3 e = m.1 2 e) ∧ (k = 2 ∨ k = 4 ∨ k = 5 → x.1 4 e = m.1 3 e) ∧ (k = 3 → ∃ r, r < 10 ∧ m.1 2 e = nI r) ∧ (k = 4 ∨ k = 5 → ∃ a b, a < e ∧ b < e ∧ m.1 2 e = nI a ∧ m.1 3 e = nI b) ∧ (6 ≤ k → ∃ a, a < e ∧ m.1 2 e = nI a) ∧ (k = 2 → ¬ m.1 2 e < 0)
def RG (x m : jS) (n : Nat) : Prop :=
  n ≤ 80 ∧ x.2 0 = nI n ∧ m.2 1 = nI n ∧ (∀ e, e < n → ∃ k, RE x m e k) ∧ ∀ r, r < 10 → x.1 5 r = m.1 4 r ∧ (x.1 5 r = -1 ∨ ∃ e, e < n ∧ x.1 5 r = nI e)
def RT (x m : jS) (sz : Nat) : Prop := sz ≤ 40 ∧ x.2 1 = nI sz ∧ m.2 2 = nI sz ∧ ∀ i, i < sz → x.1 10 i = m.1 5 i
/-- what is remembered of rule r at place p: the result v, the reach w, the names y -/
def RK (x m : jS) (sz r p : Nat) : Prop :=
  m.1 6 (41 * r + p) = 1 ∧ p ≤ sz ∧ x.1 12 (10 * p + r) = m.1 7 (41 * r + p) ∧ x.1 13 (10 * p + r) = m.1 8 (41 * r + p) ∧ x.1 14 (10 * p + r) = m.1 9 (41 * r + p) ∧ ∃ w, m.1 8 (41 * r + p) = nI w ∧ p ≤ w ∧ w ≤ sz + 1 ∧ (m.1 7 (41 * r + p) = -1 ∨ ∃ q, m.1 7 (41 * r + p) = nI q ∧ p ≤ q ∧ q ≤ sz ∧ q ≤ w)
def RU (x m : jS) (r p : Nat) : Prop := m.1 6 (41 * r + p) = 0 ∧ x.1 12 (10 * p + r) = -3 ∧ x.1 13 (10 * p + r) = -1
def RMe (x m : jS) (sz : Nat) : Prop := ∀ r p, r < 10 → p ≤ 40 → RU x m r p ∨ RK x m sz r p
def RP (x : jS) : Prop := x.2 2 = 0 ∧ (∀ c, c < 410 → x.1 23 c = -1) ∧ ∀ p, p ≤ 40 → x.1 24 p = 0
def RC (x m : jS) : Prop := x.2 3 = m.2 6 ∧ x.2 4 = m.2 7 ∧ x.2 5 = m.2 8 ∧ x.2 6 = m.2 9
def Rel (x m : jS) : Prop := ∃ n sz, RG x m n ∧ RT x m sz ∧ RMe x m sz ∧ RP x ∧ RC x m
theorem Rel.thrown {x m : jS} (h : Rel x m) (v : Int32) : Rel x (jis m 0 v) := h
end L2R
section L2G
theorem lh_expressionCount : LH_expressionCount Rel := by
  intro x m h
  obtain ⟨n, sz, hG, h2⟩ := id h
  exact ⟨(x.2 0, x), ((jis m 0 0).2 1, jis m 0 0), rfl, rfl, hG.2.1.trans hG.2.2.1.symm, h⟩
theorem lh_size : LH_size Rel := by
  intro x m h
  obtain ⟨n, sz, hG, hT, h2⟩ := id h
  exact ⟨(x.2 1, x), ((jis m 0 0).2 2, jis m 0 0), rfl, rfl, hT.2.1.trans hT.2.2.1.symm, h⟩
theorem lh_work : LH_work Rel := by
  intro x m h
  obtain ⟨n, sz, hG, hT, hM, hP, hC⟩ := id h
  exact ⟨(x.2 3, x), ((jis m 0 0).2 6, jis m 0 0), rfl, rfl, hC.1, h⟩
theorem lh_hits : LH_hits Rel := by
  intro x m h
  obtain ⟨n, sz, hG, hT, hM, hP, hC⟩ := id h
  exact ⟨(x.2 4, x), ((jis m 0 0).2 7, jis m 0 0), rfl, rfl, hC.2.1, h⟩
theorem lh_growths : LH_growths Rel := by
  intro x m h
  obtain ⟨n, sz, hG, hT, hM, hP, hC⟩ := id h
  exact ⟨(x.2 5, x), ((jis m 0 0).2 8, jis m 0 0), rfl, rfl, hC.2.2.1, h⟩
theorem lh_farthest : LH_farthest Rel := by
  intro x m h
  obtain ⟨n, sz, hG, hT, hM, hP, hC⟩ := id h
  exact ⟨(x.2 6, x), ((jis m 0 0).2 9, jis m 0 0), rfl, rfl, hC.2.2.2, h⟩
/-- the start -/
theorem rel_0 : Rel stX0 stM0 := by
  refine ⟨0, 0, ⟨by omega, rfl, rfl, fun e he => absurd he (Nat.not_lt_zero e), ?_⟩, ⟨by omega, rfl, rfl, fun i hi => absurd hi (Nat.not_lt_zero i)⟩, ?_, ⟨rfl, ?_, fun p _ => rfl⟩, ⟨rfl, rfl, rfl, rfl⟩⟩
  · intro r hr
    have h1 : stX0.1 5 r = -1 := by show jfill 10 (-1) (fun _ => 0) r = -1; unfold jfill; rw [if_pos hr]
    have h2 : stM0.1 4 r = -1 := by
      have hr' : r = 0 ∨ r = 1 ∨ r = 2 ∨ r = 3 ∨ r = 4 ∨ r = 5 ∨ r = 6 ∨ r = 7 ∨ r = 8 ∨ r = 9 := by omega
      rcases hr' with rfl | rfl | rfl | rfl | rfl | rfl | rfl | rfl | rfl | rfl <;> rfl
    exact ⟨h1.trans h2.symm, Or.inl h1⟩
  · intro r p hr hp
    refine Or.inl ⟨rfl, ?_, ?_⟩
    · show jfill 410 (-3) (fun _ => 0) (10 * p + r) = -3
      unfold jfill; rw [if_pos (by omega)]
    · show jfill 410 (-1) (fun _ => 0) (10 * p + r) = -1
      unfold jfill; rw [if_pos (by omega)]
  · intro c hc
    show jfill 410 (-1) (fun _ => 0) c = -1
    unfold jfill; rw [if_pos hc]
end L2G
section L2E
def xAdd (x : jS) (n : Nat) (k a b : Int32) : jS := jis (jaf (jaf (jaf x 2 (upd (x.1 2) n k)) 3 (upd (x.1 3) n a)) 4 (upd (x.1 4) n b)) 0 (nI (n + 1))
def mAdd (m : jS) (n : Nat) (k a b : Int32) : jS := jis (jaf (jaf (jaf m 1 (upd (m.1 1) n k)) 2 (upd (m.1 2) n a)) 3 (upd (m.1 3) n b)) 1 (nI (n + 1))
theorem f_X0_add_eq {x : jS} {n : Nat} {k a b : Int32} (hn : n < 80) (h : x.2 0 = nI n) : f_X0_add x k a b = some (nI n, xAdd x n k a b) := by
  unfold f_X0_add
  simp only [jl]
  rw [h, job_nI hn (by omega)]
  show some (nI n, jis (jaf (jaf (jaf x 2 (upd (x.1 2) (nI n).toNatClampNeg k)) 3 (upd (x.1 3) (nI n).toNatClampNeg a)) 4 (upd (x.1 4) (nI n).toNatClampNeg b)) 0 (nI n + 1)) = _
  rw [nI_clamp (by omega), nI_1]
  rfl
theorem f_X6_add_eq {m : jS} {n : Nat} {k a b : Int32} (hn : n < 80) (h : m.2 1 = nI n) : f_X6_add m k a b = some (nI n, mAdd m n k a b) := by
  unfold f_X6_add
  simp only [jl]
  rw [h]
  rw [job_nI hn (by omega)]
  show some (nI n + 1 - 1, jis (jaf (jaf (jaf m 1 (upd (m.1 1) (nI n).toNatClampNeg k)) 2 (upd (m.1 2) (nI n).toNatClampNeg a)) 3 (upd (m.1 3) (nI n).toNatClampNeg b)) 1 (nI n + 1)) = _
  rw [nI_clamp (by omega), nI_1, nI_pred]
  rfl
theorem f_X5_refuseIfFull_eq {x : jS} {n : Nat} (hn : n ≤ 80) (h : x.2 0 = nI n) : f_X5_refuseIfFull x = some (if n < 80 then 0 else 2, x) := by
  unfold f_X5_refuseIfFull f_X0_isFull
  rw [h]
  by_cases hl : n < 80
  · rw [if_pos (show nI n < 80 from nI_lt (b := 80) hl (by omega)), if_pos hl]
    rfl
  · rw [if_neg (show ¬ nI n < 80 from nI_nlt (b := 80) (by omega) (by omega)), if_neg hl]
    rfl
theorem RE.add {x m : jS} {n e k : Nat} {c1 a1 b1 c2 a2 b2 : Int32} (he : e < n) (h : RE x m e k) : RE (xAdd x n c1 a1 b1) (mAdd m n c2 a2 b2) e k := by
  have hne : e ≠ n := Nat.ne_of_lt he
  have e1 : (xAdd x n c1 a1 b1).1 2 e = x.1 2 e := upd_ne hne
  have e2 : (xAdd x n c1 a1 b1).1 3 e = x.1 3 e := upd_ne hne
  have e3 : (xAdd x n c1 a1 b1).1 4 e = x.1 4 e := upd_ne hne
  have e4 : (mAdd m n c2 a2 b2).1 1 e = m.1 1 e := upd_ne hne
  have e5 : (mAdd m n c2 a2 b2).1 2 e = m.1 2 e := upd_ne hne
  have e6 : (mAdd m n c2 a2 b2).1 3 e = m.1 3 e := upd_ne hne
  unfold RE
  rw [e1, e2, e3, e4, e5, e6]
  exact h
theorem Rel.add {x m : jS} {n sz k : Nat} {c1 a1 b1 c2 a2 b2 : Int32} (hn : n < 80) (hG : RG x m n) (hT : RT x m sz) (hM : RMe x m sz) (hP : RP x) (hC : RC x m) (hnew : RE (xAdd x n c1 a1 b1) (mAdd m n c2 a2 b2) n k) : Rel (xAdd x n c1 a1 b1) (mAdd m n c2 a2 b2) := by
  refine ⟨n + 1, sz, ⟨by omega, rfl, rfl, fun e he => ?_, fun r hr => ?_⟩, hT, hM, hP, hC⟩
  · by_cases h : e = n
    · subst h; exact ⟨k, hnew⟩
    · obtain ⟨k2, h2⟩ := hG.2.2.2.1 e (by omega)
      exact ⟨k2, h2.add (by omega)⟩
  · obtain ⟨h1, h2⟩ := hG.2.2.2.2 r hr
    refine ⟨h1, h2.elim Or.inl fun ⟨e, he, h3⟩ => Or.inr ⟨e, by omega, h3⟩⟩
end L2E
