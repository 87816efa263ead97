/-! Arrays.fill over one array of n places: all of them hold v behind it. -/
abbrev rm_fill : Room := { frames := 0, cells := 0, slots := 0, locals := 0 }
abbrev wOne (a : Nat) (cA : ClassId) (n : Nat) : (Nat → Int32) → va_W := fun z => [(a, .inl (cA, n, .inl z))]
theorem jfill_0 (v : Int32) (f : Nat → Int32) : f = jfill 0 v f := by funext k; simp [jfill]
theorem jfill_s (k : Nat) (v : Int32) (f : Nat → Int32) (hk : k < 2 ^ 31) : upd (jfill k v f) (nI k).toNatClampNeg v = jfill (k + 1) v f := by
  rw [nI_clamp hk]
  funext j
  unfold jfill upd
  by_cases h1 : j = k
  · subst h1; simp
  · by_cases h2 : j < k
    · have h3 : j < k + 1 := by omega
      simp [h1, h2, h3]
    · have h3 : ¬ j < k + 1 := by omega
      simp [h1, h2, h3]
set_option maxHeartbeats 4000000 in
set_option maxRecDepth 100000 in
theorem c_fillI {l : Launch} {D : va_G} {tys : List (ClassId × FieldType)} {a n : Nat} {cA : ClassId} {f : Nat → Int32} {v : Int32} {t0 : Nat} (ht : tys[t0]? = some (cA, .int)) (hn : n < 1000) : CtV l D tys (wOne a cA n) yJ7_fill_53178 wsJ7_fill_53178 rm_fill [.ref a, .int v] f (jfill n v f) := by
  refine ctV_of (o := jfill n v f) (cc := cJ7_fill_53178) (nL := 4) (own := RJ7) (by decide) rfl rfl (Nat.le_of_ble_eq_true rfl) (lv0 := [(0, .ref a), (1, .int v)]) rfl ?_
  intro p e s m args below meth c A E hr
  have loop : ∀ (q k : Nat), n = k + q → J p l e rm_fill s m args below meth c 4 D A (wOne a cA n) (jZV D (wOne a cA n) A below args s (jfill n v f)) 0 0 (jfill k v f) 5 [(3, .int (nI n)), (2, .int (nI k)), (0, .ref a), (1, .int v)] [] := by
    intro q
    induction q with
    | zero =>
      intro k hk
      have hk2 : k = n := by omega
      subst hk2
      refine j_iload_n E 1 rfl rfl dJ7_fill_53178_5 ?_
      refine j_iload_n E 0 rfl rfl dJ7_fill_53178_6 ?_
      refine j_icmp_ge E (tgt := 20) (by decide) dJ7_fill_53178_7 (fun c1 => ?_) (fun c1 => absurd (nI_le (Nat.le_refl k) (by omega)) c1)
      exact j_vret E hr rfl dJ7_fill_53178_20
    | succ q ih =>
      intro k hk
      refine j_iload_n E 1 rfl rfl dJ7_fill_53178_5 ?_
      refine j_iload_n E 0 rfl rfl dJ7_fill_53178_6 ?_
      refine j_icmp_ge E (tgt := 20) (by decide) dJ7_fill_53178_7 (fun c1 => absurd c1 (nI_ge (show k < n by omega) (by omega))) (fun c1 => ?_)
      refine j_aload_n E 2 rfl rfl dJ7_fill_53178_10 ?_
      refine j_iload_n E 1 rfl rfl dJ7_fill_53178_11 ?_
      refine j_iload_n E 3 rfl rfl dJ7_fill_53178_12 ?_
      refine j_iast E (st' := jfill (k + 1) v f) 0 t0 rfl ht (by rw [jfill_s k v f (by omega)]; rfl) (vp_in_nI (show k < n by omega) (by omega)) dJ7_fill_53178_13 ?_
      refine j_iinc E 1 rfl kc_1 (nI_1 k) (by decide) (lv' := [(2, .int (nI (k + 1))), (3, .int (nI n)), (0, .ref a), (1, .int v)]) rfl dJ7_fill_53178_14 ?_
      refine j_goto E (tgt := 5) (by decide) dJ7_fill_53178_17 ?_
      refine j_sub [1, 0, 2, 3] (lv' := [(3, .int (nI n)), (2, .int (nI (k + 1))), (0, .ref a), (1, .int v)]) rfl ?_
      exact ih (k + 1) (by omega)
  refine j_iconst E kc_0 dJ7_fill_53178_0 ?_
  refine j_istore_n E rfl (by decide) (lv' := [(2, .int 0), (0, .ref a), (1, .int v)]) rfl dJ7_fill_53178_1 ?_
  refine j_aload_n E 1 rfl rfl dJ7_fill_53178_2 ?_
  refine j_alen E 0 t0 rfl ht (v := nI n) rfl dJ7_fill_53178_3 ?_
  refine j_istore_n E rfl (by decide) (lv' := [(3, .int (nI n)), (2, .int 0), (0, .ref a), (1, .int v)]) rfl dJ7_fill_53178_4 ?_
  refine j_st (jfill_0 v f) ?_
  rw [← nI_0]
  exact loop n 0 (by omega)
