abbrev rm_X6_succeed : Room := { frames := 0, cells := 0, slots := 0, locals := 0 }
theorem in_X6_succeed_X6 : ∀ w ∈ u_ws RX6 TX6 29, w ∈ wsX6_succeed := fun w h => (List.mem_cons_of_mem _ (List.mem_append_right _ h))
def f_X6_succeed (st : jS) (a1 : Int32) : Option (Int32 × jS) :=
  jl (jis st 5 0) fun s1 =>
  some (a1, s1)
set_option maxHeartbeats 4000000 in
set_option maxRecDepth 100000 in
theorem c_X6_succeed {l : Launch} {D : va_G} {ad : Nat → Nat} {cI cZ : ClassId} {st : jS} {a1 : Int32} {o : (Int32 × jS)} (h : f_X6_succeed st a1 = some o) : CtI l D (jT cI cZ) (wM ad cI cZ) yX6_succeed wsX6_succeed (rm_X6_succeed) [.ref (ad 0), .int a1] st o.1 o.2 := by
  refine ctI_of (o := o) (cc := cX6_succeed) (nL := 2) (own := RX6) (by decide) rfl rfl (Nat.le_of_ble_eq_true rfl) (lv0 := [(0, .ref (ad 0)), (1, .int a1)]) rfl ?_
  intro p e s m args below meth c A E hr
  rw [f_X6_succeed] at h
  refine j_aload_n E 0 rfl rfl dX6_succeed_0 ?_
  refine j_iconst E (kc_0) dX6_succeed_1 ?_
  obtain ⟨s1, es1, h⟩ := jle h
  refine j_put E 0 (wM_g0 ad cI cZ _) rfl 21 (ty := .boolean) (wM_p0_21 ad cI cZ _ _) tyX6_ok nmX6 in_X6_succeed_X6 (by decide) (List.mem_of_getElem? (i := 1) rfl) (fun _ h9 => h9) rfl (tyX6_ok 21 (by decide)) rfl rfl (Nat.le_of_ble_eq_true rfl) dX6_succeed_2 ?_
  refine j_st es1 ?_
  refine j_iload_n E 1 rfl rfl dX6_succeed_5 ?_
  exact j_iret E hr rfl (Option.some.inj h) dX6_succeed_6
abbrev rm_X6_miss : Room := { frames := 0, cells := 0, slots := 0, locals := 0 }
theorem in_X6_miss_X6 : ∀ w ∈ u_ws RX6 TX6 29, w ∈ wsX6_miss := fun w h => (List.mem_cons_of_mem _ (List.mem_append_right _ h))
def f_X6_miss (st : jS) (a1 : Int32) : Option (Int32 × jS) :=
  bif jnb a1 then none else
  jl (jis st 5 a1) fun s2 =>
  some ((-1), s2)
set_option maxHeartbeats 4000000 in
set_option maxRecDepth 100000 in
theorem c_X6_miss {l : Launch} {D : va_G} {ad : Nat → Nat} {cI cZ : ClassId} {st : jS} {a1 : Int32} {o : (Int32 × jS)} (h : f_X6_miss st a1 = some o) : CtI l D (jT cI cZ) (wM ad cI cZ) yX6_miss wsX6_miss (rm_X6_miss) [.ref (ad 0), .int a1] st o.1 o.2 := by
  refine ctI_of (o := o) (cc := cX6_miss) (nL := 2) (own := RX6) (by decide) rfl rfl (Nat.le_of_ble_eq_true rfl) (lv0 := [(0, .ref (ad 0)), (1, .int a1)]) rfl ?_
  intro p e s m args below meth c A E hr
  rw [f_X6_miss] at h
  refine j_aload_n E 0 rfl rfl dX6_miss_0 ?_
  refine j_iload_n E 1 rfl rfl dX6_miss_1 ?_
  obtain ⟨b1, h⟩ := jnb_else h
  obtain ⟨s2, es2, h⟩ := jle h
  refine j_put E 0 (wM_g0 ad cI cZ _) rfl 21 (ty := .boolean) (wM_p0_21 ad cI cZ _ _) tyX6_ok nmX6 in_X6_miss_X6 (by decide) (List.mem_of_getElem? (i := 1) rfl) (fun _ h9 => h9) rfl (tyX6_ok 21 (by decide)) b1 (jfit b1) (Nat.le_of_ble_eq_true rfl) dX6_miss_2 ?_
  refine j_st es2 ?_
  refine j_iconst E (kc_m1) dX6_miss_5 ?_
  exact j_iret E hr rfl (Option.some.inj h) dX6_miss_6
abbrev rm_X6_lookAt : Room := { frames := 1, cells := 0, slots := 0, locals := 24 }
theorem in_X6_lookAt_X6 : ∀ w ∈ u_ws RX6 TX6 29, w ∈ wsX6_lookAt := fun w h => (List.mem_cons_of_mem _ (List.mem_append_right _ h))
def f_X6_lookAt_3 (K : jS → Int32 → Int32 → Int32 → Int32 → Option (Int32 × jS)) : Nat → jS → Int32 → Int32 → Int32 → Int32 → Option (Int32 × jS)
  | 0, _, _, _, _, _ => none
  | n + 1, st, v1, v2, v3, v4 =>
    if v4 ≥ (st.2 3) then
      K st v1 v2 v3 v4
    else
    bif job v4 102 then none else
    bif job v4 102 then none else
    jl (jas st 15 v4 (if (jag st 15 v4) < (v3 + 1) then (v3 + 1) else (jag st 15 v4))) fun s4 =>
    jl (v4 + 1) fun x5 =>
    f_X6_lookAt_3 K n s4 v1 v2 v3 x5
def f_X6_lookAt (st : jS) (a1 : Int32) (a2 : Int32) (a3 : Int32) : Option (Int32 × jS) :=
  f_X6_lookAt_3 (fun s10 y6 y7 y8 y9 =>
    if y8 ≥ (s10.2 2) then
      jl (jis s10 9 (if (s10.2 9) < y8 then y8 else (s10.2 9))) fun s12 =>
      (f_X6_miss s12 0).bind fun r13 =>
      some (r13.1, r13.2)
    else
    bif job y8 40 then none else
    if (jag s10 5 y8) < y6 then
      jl (jis s10 9 (if (s10.2 9) < y8 then y8 else (s10.2 9))) fun s16 =>
      (f_X6_miss s16 0).bind fun r17 =>
      some (r17.1, r17.2)
    else
    bif job y8 40 then none else
    if (jag s10 5 y8) > y7 then
      jl (jis s10 9 (if (s10.2 9) < y8 then y8 else (s10.2 9))) fun s20 =>
      (f_X6_miss s20 0).bind fun r21 =>
      some (r21.1, r21.2)
    else
    (f_X6_succeed s10 (y8 + 1)).bind fun r22 =>
    some (r22.1, r22.2)
    ) jFuel st a1 a2 a3 0
set_option maxHeartbeats 4000000 in
set_option maxRecDepth 100000 in
theorem w_X6_lookAt_3 {ad : Nat → Nat} {cI cZ : ClassId} {p : Program} {l : Launch} {e : Env} {s : State} {m : MethodId} {args : Array Value} {below : List Frame} {meth : Method} {c : Code} {D : va_G} {A : Nat → Prop} {o : (Int32 × jS)} (E : jE p s m args meth c cX6_lookAt 5 RX6 wsX6_lookAt D (jT cI cZ) A) (hr : meth.sig.returnType = (some .int)) {K : jS → Int32 → Int32 → Int32 → Int32 → Option (Int32 × jS)} (hK : ∀ (st : jS) (v1 : Int32) (v2 : Int32) (v3 : Int32) (v4 : Int32), K st v1 v2 v3 v4 = some o → J p l e (rm_X6_lookAt) s m args below meth c 5 D A (wM ad cI cZ) (jZI D (wM ad cI cZ) A below args s o) 0 0 st 38 [(0, .ref (ad 0)), (1, .int v1), (2, .int v2), (3, .int v3), (4, .int v4)] []) :
    ∀ (n : Nat) (st : jS) (v1 : Int32) (v2 : Int32) (v3 : Int32) (v4 : Int32), f_X6_lookAt_3 K n st v1 v2 v3 v4 = some o → J p l e (rm_X6_lookAt) s m args below meth c 5 D A (wM ad cI cZ) (jZI D (wM ad cI cZ) A below args s o) 0 0 st 3 [(0, .ref (ad 0)), (1, .int v1), (2, .int v2), (3, .int v3), (4, .int v4)] [] := by
  intro n
  induction n with
  | zero => intro st v1 v2 v3 v4 h; cases h
  | succ n ih =>
    intro st v1 v2 v3 v4 h
    rw [f_X6_lookAt_3] at h
    refine j_iload E 4 rfl dX6_lookAt_3 ?_
    refine j_aload_n E 0 rfl rfl dX6_lookAt_5 ?_
    refine j_get E 0 (wM_g0 ad cI cZ _) rfl 12 rfl in_X6_lookAt_X6 (by decide) (List.mem_of_getElem? (i := 1) rfl) (fun _ h9 => h9) dX6_lookAt_6 ?_
    refine j_icmp_ge E (tgt := 38) (by decide) dX6_lookAt_9 (fun c1 => ?_) (fun c1 => ?_)
    · have h := jit h c1
      refine j_sub [0, 1, 2, 3, 4] (lv' := [(0, .ref (ad 0)), (1, .int v1), (2, .int v2), (3, .int v3), (4, .int v4)]) rfl ?_
      exact hK _ _ _ _ _ h
    · have h := jif h c1
      refine j_aload_n E 0 rfl rfl dX6_lookAt_12 ?_
      refine j_get E 0 (wM_g0 ad cI cZ _) rfl 18 rfl in_X6_lookAt_X6 (by decide) (List.mem_of_getElem? (i := 2) rfl) (fun _ h9 => h9) dX6_lookAt_13 ?_
      refine j_iload E 4 rfl dX6_lookAt_16 ?_
      refine j_aload_n E 0 rfl rfl dX6_lookAt_18 ?_
      refine j_get E 0 (wM_g0 ad cI cZ _) rfl 18 rfl in_X6_lookAt_X6 (by decide) (List.mem_of_getElem? (i := 2) rfl) (fun _ h9 => h9) dX6_lookAt_19 ?_
      refine j_iload E 4 rfl dX6_lookAt_22 ?_
      obtain ⟨b2, h⟩ := job_else h
      refine j_iald E 15 0 (wM_g15 ad cI cZ _) rfl b2 dX6_lookAt_24 ?_
      refine j_iload_n E 3 rfl rfl dX6_lookAt_25 ?_
      refine j_iconst E (kc_1) dX6_lookAt_26 ?_
      refine j_iadd E dX6_lookAt_27 ?_
      refine j_mmax E (List.mem_of_getElem? (i := 3) rfl) (List.mem_of_getElem? (i := 4) rfl) (List.mem_of_getElem? (i := 5) rfl) (List.mem_of_getElem? (i := 6) rfl) (Nat.le_of_ble_eq_true rfl) (Nat.le_of_ble_eq_true rfl) ⟨Nat.zero_le _, Nat.zero_le _⟩ dX6_lookAt_28 ?_
      obtain ⟨b3, h⟩ := job_else h
      obtain ⟨s4, es4, h⟩ := jle h
      refine j_iast E 15 0 (wM_g15 ad cI cZ _) rfl (wM_s15 ad cI cZ _ _) b3 dX6_lookAt_31 ?_
      refine j_st es4 ?_
      obtain ⟨x5, ex5, h⟩ := jle h
      refine j_iinc E 4 rfl kc_1 ex5 (by decide) (lv' := [(4, .int x5), (0, .ref (ad 0)), (1, .int v1), (2, .int v2), (3, .int v3)]) rfl dX6_lookAt_32 ?_
      refine j_goto E (tgt := 3) (by decide) dX6_lookAt_35 ?_
      refine j_sub [1, 2, 3, 4, 0] (lv' := [(0, .ref (ad 0)), (1, .int v1), (2, .int v2), (3, .int v3), (4, .int x5)]) rfl ?_
      exact ih _ _ _ _ _ h
set_option maxHeartbeats 4000000 in
set_option maxRecDepth 100000 in
theorem c_X6_lookAt {l : Launch} {D : va_G} {ad : Nat → Nat} {cI cZ : ClassId} {st : jS} {a1 : Int32} {a2 : Int32} {a3 : Int32} {o : (Int32 × jS)} (h : f_X6_lookAt st a1 a2 a3 = some o) : CtI l D (jT cI cZ) (wM ad cI cZ) yX6_lookAt wsX6_lookAt (rm_X6_lookAt) [.ref (ad 0), .int a1, .int a2, .int a3] st o.1 o.2 := by
  refine ctI_of (o := o) (cc := cX6_lookAt) (nL := 5) (own := RX6) (by decide) rfl rfl (Nat.le_of_ble_eq_true rfl) (lv0 := [(0, .ref (ad 0)), (1, .int a1), (2, .int a2), (3, .int a3)]) rfl ?_
  intro p e s m args below meth c A E hr
  rw [f_X6_lookAt] at h
  refine j_iconst E (kc_0) dX6_lookAt_0 ?_
  refine j_istore E (by decide) (lv' := [(4, .int 0), (0, .ref (ad 0)), (1, .int a1), (2, .int a2), (3, .int a3)]) rfl dX6_lookAt_1 ?_
  refine j_sub [1, 2, 3, 4, 0] (lv' := [(0, .ref (ad 0)), (1, .int a1), (2, .int a2), (3, .int a3), (4, .int 0)]) rfl ?_
  refine w_X6_lookAt_3 E hr (fun s10 y6 y7 y8 y9 h => ?_) _ _ _ _ _ _ h
  refine j_iload_n E 3 rfl rfl dX6_lookAt_38 ?_
  refine j_aload_n E 0 rfl rfl dX6_lookAt_39 ?_
  refine j_get E 0 (wM_g0 ad cI cZ _) rfl 6 rfl in_X6_lookAt_X6 (by decide) (List.mem_of_getElem? (i := 7) rfl) (fun _ h9 => h9) dX6_lookAt_40 ?_
  refine j_icmp_ge E (tgt := 74) (by decide) dX6_lookAt_43 (fun c11 => ?_) (fun c11 => ?_)
  · have h := jit h c11
    refine j_aload_n E 0 rfl rfl dX6_lookAt_74 ?_
    refine j_aload_n E 0 rfl rfl dX6_lookAt_75 ?_
    refine j_get E 0 (wM_g0 ad cI cZ _) rfl 25 rfl in_X6_lookAt_X6 (by decide) (List.mem_of_getElem? (i := 9) rfl) (fun _ h9 => h9) dX6_lookAt_76 ?_
    refine j_iload_n E 3 rfl rfl dX6_lookAt_79 ?_
    refine j_mmax E (List.mem_of_getElem? (i := 3) rfl) (List.mem_of_getElem? (i := 4) rfl) (List.mem_of_getElem? (i := 5) rfl) (List.mem_of_getElem? (i := 6) rfl) (Nat.le_of_ble_eq_true rfl) (Nat.le_of_ble_eq_true rfl) ⟨Nat.zero_le _, Nat.zero_le _⟩ dX6_lookAt_80 ?_
    obtain ⟨s12, es12, h⟩ := jle h
    refine j_put E 0 (wM_g0 ad cI cZ _) rfl 25 (ty := .int) (wM_p0_25 ad cI cZ _ _) tyX6_ok nmX6 in_X6_lookAt_X6 (by decide) (List.mem_of_getElem? (i := 9) rfl) (fun _ h9 => h9) rfl (tyX6_ok 25 (by decide)) rfl rfl (Nat.le_of_ble_eq_true rfl) dX6_lookAt_83 ?_
    refine j_st es12 ?_
    refine j_aload_n E 0 rfl rfl dX6_lookAt_86 ?_
    refine j_iconst E (kc_0) dX6_lookAt_87 ?_
    obtain ⟨r13, er13, h⟩ := jbd h
    refine j_callVi E (As := [.int 0]) (c_X6_miss er13) (cwV 1 E.1.2.2.2.2 gX6_lookAt_X6_miss rfl rfl rfl (by decide +kernel) ⟨Nat.le_of_ble_eq_true rfl, Nat.le_of_ble_eq_true rfl⟩) (wM_g0 ad cI cZ _) rfl rfl rfl (Nat.le_of_ble_eq_true rfl) ⟨Nat.zero_le _, Nat.zero_le _⟩ dX6_lookAt_88 ?_
    exact j_iret E hr rfl (Option.some.inj h) dX6_lookAt_91
  · have h := jif h c11
    refine j_aload_n E 0 rfl rfl dX6_lookAt_46 ?_
    refine j_get E 0 (wM_g0 ad cI cZ _) rfl 7 rfl in_X6_lookAt_X6 (by decide) (List.mem_of_getElem? (i := 8) rfl) (fun _ h9 => h9) dX6_lookAt_47 ?_
    refine j_iload_n E 3 rfl rfl dX6_lookAt_50 ?_
    obtain ⟨b14, h⟩ := job_else h
    refine j_iald E 5 0 (wM_g5 ad cI cZ _) rfl b14 dX6_lookAt_51 ?_
    refine j_iload_n E 1 rfl rfl dX6_lookAt_52 ?_
    refine j_icmp_lt E (tgt := 74) (by decide) dX6_lookAt_53 (fun c15 => ?_) (fun c15 => ?_)
    · have h := jit h c15
      refine j_aload_n E 0 rfl rfl dX6_lookAt_74 ?_
      refine j_aload_n E 0 rfl rfl dX6_lookAt_75 ?_
      refine j_get E 0 (wM_g0 ad cI cZ _) rfl 25 rfl in_X6_lookAt_X6 (by decide) (List.mem_of_getElem? (i := 9) rfl) (fun _ h9 => h9) dX6_lookAt_76 ?_
      refine j_iload_n E 3 rfl rfl dX6_lookAt_79 ?_
      refine j_mmax E (List.mem_of_getElem? (i := 3) rfl) (List.mem_of_getElem? (i := 4) rfl) (List.mem_of_getElem? (i := 5) rfl) (List.mem_of_getElem? (i := 6) rfl) (Nat.le_of_ble_eq_true rfl) (Nat.le_of_ble_eq_true rfl) ⟨Nat.zero_le _, Nat.zero_le _⟩ dX6_lookAt_80 ?_
      obtain ⟨s16, es16, h⟩ := jle h
      refine j_put E 0 (wM_g0 ad cI cZ _) rfl 25 (ty := .int) (wM_p0_25 ad cI cZ _ _) tyX6_ok nmX6 in_X6_lookAt_X6 (by decide) (List.mem_of_getElem? (i := 9) rfl) (fun _ h9 => h9) rfl (tyX6_ok 25 (by decide)) rfl rfl (Nat.le_of_ble_eq_true rfl) dX6_lookAt_83 ?_
      refine j_st es16 ?_
      refine j_aload_n E 0 rfl rfl dX6_lookAt_86 ?_
      refine j_iconst E (kc_0) dX6_lookAt_87 ?_
      obtain ⟨r17, er17, h⟩ := jbd h
      refine j_callVi E (As := [.int 0]) (c_X6_miss er17) (cwV 1 E.1.2.2.2.2 gX6_lookAt_X6_miss rfl rfl rfl (by decide +kernel) ⟨Nat.le_of_ble_eq_true rfl, Nat.le_of_ble_eq_true rfl⟩) (wM_g0 ad cI cZ _) rfl rfl rfl (Nat.le_of_ble_eq_true rfl) ⟨Nat.zero_le _, Nat.zero_le _⟩ dX6_lookAt_88 ?_
      exact j_iret E hr rfl (Option.some.inj h) dX6_lookAt_91
    · have h := jif h c15
      refine j_aload_n E 0 rfl rfl dX6_lookAt_56 ?_
      refine j_get E 0 (wM_g0 ad cI cZ _) rfl 7 rfl in_X6_lookAt_X6 (by decide) (List.mem_of_getElem? (i := 8) rfl) (fun _ h9 => h9) dX6_lookAt_57 ?_
      refine j_iload_n E 3 rfl rfl dX6_lookAt_60 ?_
      obtain ⟨b18, h⟩ := job_else h
      refine j_iald E 5 0 (wM_g5 ad cI cZ _) rfl b18 dX6_lookAt_61 ?_
      refine j_iload_n E 2 rfl rfl dX6_lookAt_62 ?_
      refine j_icmp_gt E (tgt := 74) (by decide) dX6_lookAt_63 (fun c19 => ?_) (fun c19 => ?_)
      · have h := jit h c19
        refine j_aload_n E 0 rfl rfl dX6_lookAt_74 ?_
        refine j_aload_n E 0 rfl rfl dX6_lookAt_75 ?_
        refine j_get E 0 (wM_g0 ad cI cZ _) rfl 25 rfl in_X6_lookAt_X6 (by decide) (List.mem_of_getElem? (i := 9) rfl) (fun _ h9 => h9) dX6_lookAt_76 ?_
        refine j_iload_n E 3 rfl rfl dX6_lookAt_79 ?_
        refine j_mmax E (List.mem_of_getElem? (i := 3) rfl) (List.mem_of_getElem? (i := 4) rfl) (List.mem_of_getElem? (i := 5) rfl) (List.mem_of_getElem? (i := 6) rfl) (Nat.le_of_ble_eq_true rfl) (Nat.le_of_ble_eq_true rfl) ⟨Nat.zero_le _, Nat.zero_le _⟩ dX6_lookAt_80 ?_
        obtain ⟨s20, es20, h⟩ := jle h
        refine j_put E 0 (wM_g0 ad cI cZ _) rfl 25 (ty := .int) (wM_p0_25 ad cI cZ _ _) tyX6_ok nmX6 in_X6_lookAt_X6 (by decide) (List.mem_of_getElem? (i := 9) rfl) (fun _ h9 => h9) rfl (tyX6_ok 25 (by decide)) rfl rfl (Nat.le_of_ble_eq_true rfl) dX6_lookAt_83 ?_
        refine j_st es20 ?_
        refine j_aload_n E 0 rfl rfl dX6_lookAt_86 ?_
        refine j_iconst E (kc_0) dX6_lookAt_87 ?_
        obtain ⟨r21, er21, h⟩ := jbd h
        refine j_callVi E (As := [.int 0]) (c_X6_miss er21) (cwV 1 E.1.2.2.2.2 gX6_lookAt_X6_miss rfl rfl rfl (by decide +kernel) ⟨Nat.le_of_ble_eq_true rfl, Nat.le_of_ble_eq_true rfl⟩) (wM_g0 ad cI cZ _) rfl rfl rfl (Nat.le_of_ble_eq_true rfl) ⟨Nat.zero_le _, Nat.zero_le _⟩ dX6_lookAt_88 ?_
        exact j_iret E hr rfl (Option.some.inj h) dX6_lookAt_91
      · have h := jif h c19
        refine j_aload_n E 0 rfl rfl dX6_lookAt_66 ?_
        refine j_iload_n E 3 rfl rfl dX6_lookAt_67 ?_
        refine j_iconst E (kc_1) dX6_lookAt_68 ?_
        refine j_iadd E dX6_lookAt_69 ?_
        obtain ⟨r22, er22, h⟩ := jbd h
        refine j_callVi E (As := [.int (y8 + 1)]) (c_X6_succeed er22) (cwV 1 E.1.2.2.2.2 gX6_lookAt_X6_succeed rfl rfl rfl (by decide +kernel) ⟨Nat.le_of_ble_eq_true rfl, Nat.le_of_ble_eq_true rfl⟩) (wM_g0 ad cI cZ _) rfl rfl rfl (Nat.le_of_ble_eq_true rfl) ⟨Nat.zero_le _, Nat.zero_le _⟩ dX6_lookAt_70 ?_
        exact j_iret E hr rfl (Option.some.inj h) dX6_lookAt_73
abbrev rm_X6_isInProgress : Room := { frames := 0, cells := 0, slots := 0, locals := 0 }
theorem in_X6_isInProgress_X6 : ∀ w ∈ u_ws RX6 TX6 29, w ∈ wsX6_isInProgress := fun w h => (List.mem_cons_of_mem _ (List.mem_append_right _ h))
def f_X6_isInProgress_5 (K : jS → Int32 → Int32 → Int32 → Int32 → Option (Int32 × jS)) : Nat → jS → Int32 → Int32 → Int32 → Int32 → Option (Int32 × jS)
  | 0, _, _, _, _, _ => none
  | n + 1, st, v1, v2, v3, v4 =>
    if v4 ≥ (st.2 3) then
      K st v1 v2 v3 v4
    else
    if v3 = 0 then
      bif job v4 102 then none else
      if (jag st 10 v4) = v1 then
        bif job v4 102 then none else
        if (jag st 11 v4) = v2 then
          jl (v4 + 1) fun x10 =>
          f_X6_isInProgress_5 K n st v1 v2 1 x10
        else
        jl (v4 + 1) fun x9 =>
        f_X6_isInProgress_5 K n st v1 v2 0 x9
      else
      jl (v4 + 1) fun x6 =>
      f_X6_isInProgress_5 K n st v1 v2 0 x6
    else
    jl (v4 + 1) fun x3 =>
    f_X6_isInProgress_5 K n st v1 v2 1 x3
def f_X6_isInProgress (st : jS) (a1 : Int32) (a2 : Int32) : Option (Int32 × jS) :=
  f_X6_isInProgress_5 (fun s15 y11 y12 y13 y14 =>
    bif jnb y13 then none else
    some (y13, s15)
    ) jFuel st a1 a2 0 0
set_option maxHeartbeats 4000000 in
set_option maxRecDepth 100000 in
theorem w_X6_isInProgress_5 {ad : Nat → Nat} {cI cZ : ClassId} {p : Program} {l : Launch} {e : Env} {s : State} {m : MethodId} {args : Array Value} {below : List Frame} {meth : Method} {c : Code} {D : va_G} {A : Nat → Prop} {o : (Int32 × jS)} (E : jE p s m args meth c cX6_isInProgress 5 RX6 wsX6_isInProgress D (jT cI cZ) A) (hr : meth.sig.returnType = (some .boolean)) {K : jS → Int32 → Int32 → Int32 → Int32 → Option (Int32 × jS)} (hK : ∀ (st : jS) (v1 : Int32) (v2 : Int32) (v3 : Int32) (v4 : Int32), K st v1 v2 v3 v4 = some o → J p l e (rm_X6_isInProgress) s m args below meth c 5 D A (wM ad cI cZ) (jZI D (wM ad cI cZ) A below args s o) 0 0 st 52 [(0, .ref (ad 0)), (1, .int v1), (2, .int v2), (3, .int v3), (4, .int v4)] []) :
    ∀ (n : Nat) (st : jS) (v1 : Int32) (v2 : Int32) (v3 : Int32) (v4 : Int32), f_X6_isInProgress_5 K n st v1 v2 v3 v4 = some o → J p l e (rm_X6_isInProgress) s m args below meth c 5 D A (wM ad cI cZ) (jZI D (wM ad cI cZ) A below args s o) 0 0 st 5 [(0, .ref (ad 0)), (1, .int v1), (2, .int v2), (3, .int v3), (4, .int v4)] [] := by
  intro n
  induction n with
  | zero => intro st v1 v2 v3 v4 h; cases h
  | succ n ih =>
    intro st v1 v2 v3 v4 h
    rw [f_X6_isInProgress_5] at h
    refine j_iload E 4 rfl dX6_isInProgress_5 ?_
    refine j_aload_n E 0 rfl rfl dX6_isInProgress_7 ?_
    refine j_get E 0 (wM_g0 ad cI cZ _) rfl 12 rfl in_X6_isInProgress_X6 (by decide) (List.mem_of_getElem? (i := 1) rfl) (fun _ h9 => h9) dX6_isInProgress_8 ?_
    refine j_icmp_ge E (tgt := 52) (by decide) dX6_isInProgress_11 (fun c1 => ?_) (fun c1 => ?_)
    · have h := jit h c1
      refine j_sub [0, 1, 2, 3, 4] (lv' := [(0, .ref (ad 0)), (1, .int v1), (2, .int v2), (3, .int v3), (4, .int v4)]) rfl ?_
      exact hK _ _ _ _ _ h
    · have h := jif h c1
      refine j_iload_n E 3 rfl rfl dX6_isInProgress_14 ?_
      refine j_if_ne E (tgt := 40) (by decide) dX6_isInProgress_15 (fun c2 => ?_) (fun c2 => ?_)
      · have h := jif h c2
        refine j_iconst E (kc_1) dX6_isInProgress_40 ?_
        refine j_goto E (tgt := 45) (by decide) dX6_isInProgress_41 ?_
        refine j_istore_n E rfl (by decide) (lv' := [(3, .int 1), (0, .ref (ad 0)), (1, .int v1), (2, .int v2), (4, .int v4)]) rfl dX6_isInProgress_45 ?_
        obtain ⟨x3, ex3, h⟩ := jle h
        refine j_iinc E 4 rfl kc_1 ex3 (by decide) (lv' := [(4, .int x3), (3, .int 1), (0, .ref (ad 0)), (1, .int v1), (2, .int v2)]) rfl dX6_isInProgress_46 ?_
        refine j_goto E (tgt := 5) (by decide) dX6_isInProgress_49 ?_
        refine j_sub [2, 3, 4, 1, 0] (lv' := [(0, .ref (ad 0)), (1, .int v1), (2, .int v2), (3, .int 1), (4, .int x3)]) rfl ?_
        exact ih _ _ _ _ _ h
      · have h := jit h c2
        refine j_aload_n E 0 rfl rfl dX6_isInProgress_18 ?_
        refine j_get E 0 (wM_g0 ad cI cZ _) rfl 13 rfl in_X6_isInProgress_X6 (by decide) (List.mem_of_getElem? (i := 2) rfl) (fun _ h9 => h9) dX6_isInProgress_19 ?_
        refine j_iload E 4 rfl dX6_isInProgress_22 ?_
        obtain ⟨b4, h⟩ := job_else h
        refine j_iald E 10 0 (wM_g10 ad cI cZ _) rfl b4 dX6_isInProgress_24 ?_
        refine j_iload_n E 1 rfl rfl dX6_isInProgress_25 ?_
        refine j_icmp_ne E (tgt := 44) (by decide) dX6_isInProgress_26 (fun c5 => ?_) (fun c5 => ?_)
        · have h := jif h c5
          refine j_iconst E (kc_0) dX6_isInProgress_44 ?_
          refine j_istore_n E rfl (by decide) (lv' := [(3, .int 0), (0, .ref (ad 0)), (1, .int v1), (2, .int v2), (4, .int v4)]) rfl dX6_isInProgress_45 ?_
          obtain ⟨x6, ex6, h⟩ := jle h
          refine j_iinc E 4 rfl kc_1 ex6 (by decide) (lv' := [(4, .int x6), (3, .int 0), (0, .ref (ad 0)), (1, .int v1), (2, .int v2)]) rfl dX6_isInProgress_46 ?_
          refine j_goto E (tgt := 5) (by decide) dX6_isInProgress_49 ?_
          refine j_sub [2, 3, 4, 1, 0] (lv' := [(0, .ref (ad 0)), (1, .int v1), (2, .int v2), (3, .int 0), (4, .int x6)]) rfl ?_
          exact ih _ _ _ _ _ h
        · have h := jit h c5
          refine j_aload_n E 0 rfl rfl dX6_isInProgress_29 ?_
          refine j_get E 0 (wM_g0 ad cI cZ _) rfl 14 rfl in_X6_isInProgress_X6 (by decide) (List.mem_of_getElem? (i := 3) rfl) (fun _ h9 => h9) dX6_isInProgress_30 ?_
          refine j_iload E 4 rfl dX6_isInProgress_33 ?_
          obtain ⟨b7, h⟩ := job_else h
          refine j_iald E 11 0 (wM_g11 ad cI cZ _) rfl b7 dX6_isInProgress_35 ?_
          refine j_iload_n E 2 rfl rfl dX6_isInProgress_36 ?_
          refine j_icmp_ne E (tgt := 44) (by decide) dX6_isInProgress_37 (fun c8 => ?_) (fun c8 => ?_)
          · have h := jif h c8
            refine j_iconst E (kc_0) dX6_isInProgress_44 ?_
            refine j_istore_n E rfl (by decide) (lv' := [(3, .int 0), (0, .ref (ad 0)), (1, .int v1), (2, .int v2), (4, .int v4)]) rfl dX6_isInProgress_45 ?_
            obtain ⟨x9, ex9, h⟩ := jle h
            refine j_iinc E 4 rfl kc_1 ex9 (by decide) (lv' := [(4, .int x9), (3, .int 0), (0, .ref (ad 0)), (1, .int v1), (2, .int v2)]) rfl dX6_isInProgress_46 ?_
            refine j_goto E (tgt := 5) (by decide) dX6_isInProgress_49 ?_
            refine j_sub [2, 3, 4, 1, 0] (lv' := [(0, .ref (ad 0)), (1, .int v1), (2, .int v2), (3, .int 0), (4, .int x9)]) rfl ?_
            exact ih _ _ _ _ _ h
          · have h := jit h c8
            refine j_iconst E (kc_1) dX6_isInProgress_40 ?_
            refine j_goto E (tgt := 45) (by decide) dX6_isInProgress_41 ?_
            refine j_istore_n E rfl (by decide) (lv' := [(3, .int 1), (0, .ref (ad 0)), (1, .int v1), (2, .int v2), (4, .int v4)]) rfl dX6_isInProgress_45 ?_
            obtain ⟨x10, ex10, h⟩ := jle h
            refine j_iinc E 4 rfl kc_1 ex10 (by decide) (lv' := [(4, .int x10), (3, .int 1), (0, .ref (ad 0)), (1, .int v1), (2, .int v2)]) rfl dX6_isInProgress_46 ?_
            refine j_goto E (tgt := 5) (by decide) dX6_isInProgress_49 ?_
            refine j_sub [2, 3, 4, 1, 0] (lv' := [(0, .ref (ad 0)), (1, .int v1), (2, .int v2), (3, .int 1), (4, .int x10)]) rfl ?_
            exact ih _ _ _ _ _ h
set_option maxHeartbeats 4000000 in
set_option maxRecDepth 100000 in
theorem c_X6_isInProgress {l : Launch} {D : va_G} {ad : Nat → Nat} {cI cZ : ClassId} {st : jS} {a1 : Int32} {a2 : Int32} {o : (Int32 × jS)} (h : f_X6_isInProgress st a1 a2 = some o) : CtI l D (jT cI cZ) (wM ad cI cZ) yX6_isInProgress wsX6_isInProgress (rm_X6_isInProgress) [.ref (ad 0), .int a1, .int a2] st o.1 o.2 := by
  refine ctI_of (o := o) (cc := cX6_isInProgress) (nL := 5) (own := RX6) (by decide) rfl rfl (Nat.le_of_ble_eq_true rfl) (lv0 := [(0, .ref (ad 0)), (1, .int a1), (2, .int a2)]) rfl ?_
  intro p e s m args below meth c A E hr
  rw [f_X6_isInProgress] at h
  refine j_iconst E (kc_0) dX6_isInProgress_0 ?_
  refine j_istore_n E rfl (by decide) (lv' := [(3, .int 0), (0, .ref (ad 0)), (1, .int a1), (2, .int a2)]) rfl dX6_isInProgress_1 ?_
  refine j_iconst E (kc_0) dX6_isInProgress_2 ?_
  refine j_istore E (by decide) (lv' := [(4, .int 0), (3, .int 0), (0, .ref (ad 0)), (1, .int a1), (2, .int a2)]) rfl dX6_isInProgress_3 ?_
  refine j_sub [2, 3, 4, 1, 0] (lv' := [(0, .ref (ad 0)), (1, .int a1), (2, .int a2), (3, .int 0), (4, .int 0)]) rfl ?_
  refine w_X6_isInProgress_5 E hr (fun s15 y11 y12 y13 y14 h => ?_) _ _ _ _ _ _ h
  refine j_iload_n E 3 rfl rfl dX6_isInProgress_52 ?_
  obtain ⟨b16, h⟩ := jnb_else h
  exact j_iret E hr b16 (Option.some.inj h) dX6_isInProgress_53
abbrev rm_X6_isShut : Room := { frames := 1, cells := 0, slots := 0, locals := 24 }
theorem in_X6_isShut_X6 : ∀ w ∈ u_ws RX6 TX6 29, w ∈ wsX6_isShut := fun w h => (List.mem_cons_of_mem _ (List.mem_append_right _ h))
def f_X6_isShut_5 (K : jS → Int32 → Int32 → Int32 → Int32 → Option (Int32 × jS)) : Nat → jS → Int32 → Int32 → Int32 → Int32 → Option (Int32 × jS)
  | 0, _, _, _, _, _ => none
  | n + 1, st, v1, v2, v3, v4 =>
    if v4 ≥ 10 then
      K st v1 v2 v3 v4
    else
    if v3 = 0 then
      bif job v1 410 then none else
      if (((jag st 9 v1) >>> (v4 &&& 31)) &&& 1) = 1 then
        (f_X6_isInProgress st v4 v2).bind fun r7 =>
        if r7.1 = 0 then
          jl (v4 + 1) fun x9 =>
          f_X6_isShut_5 K n r7.2 v1 v2 0 x9
        else
        jl (v4 + 1) fun x10 =>
        f_X6_isShut_5 K n r7.2 v1 v2 1 x10
      else
      jl (v4 + 1) fun x6 =>
      f_X6_isShut_5 K n st v1 v2 0 x6
    else
    jl (v4 + 1) fun x3 =>
    f_X6_isShut_5 K n st v1 v2 1 x3
def f_X6_isShut (st : jS) (a1 : Int32) (a2 : Int32) : Option (Int32 × jS) :=
  f_X6_isShut_5 (fun s15 y11 y12 y13 y14 =>
    bif jnb y13 then none else
    some (y13, s15)
    ) jFuel st a1 a2 0 0
set_option maxHeartbeats 4000000 in
set_option maxRecDepth 100000 in
theorem w_X6_isShut_5 {ad : Nat → Nat} {cI cZ : ClassId} {p : Program} {l : Launch} {e : Env} {s : State} {m : MethodId} {args : Array Value} {below : List Frame} {meth : Method} {c : Code} {D : va_G} {A : Nat → Prop} {o : (Int32 × jS)} (E : jE p s m args meth c cX6_isShut 5 RX6 wsX6_isShut D (jT cI cZ) A) (hr : meth.sig.returnType = (some .boolean)) {K : jS → Int32 → Int32 → Int32 → Int32 → Option (Int32 × jS)} (hK : ∀ (st : jS) (v1 : Int32) (v2 : Int32) (v3 : Int32) (v4 : Int32), K st v1 v2 v3 v4 = some o → J p l e (rm_X6_isShut) s m args below meth c 5 D A (wM ad cI cZ) (jZI D (wM ad cI cZ) A below args s o) 0 0 st 53 [(0, .ref (ad 0)), (1, .int v1), (2, .int v2), (3, .int v3), (4, .int v4)] []) :
    ∀ (n : Nat) (st : jS) (v1 : Int32) (v2 : Int32) (v3 : Int32) (v4 : Int32), f_X6_isShut_5 K n st v1 v2 v3 v4 = some o → J p l e (rm_X6_isShut) s m args below meth c 5 D A (wM ad cI cZ) (jZI D (wM ad cI cZ) A below args s o) 0 0 st 5 [(0, .ref (ad 0)), (1, .int v1), (2, .int v2), (3, .int v3), (4, .int v4)] [] := by
  intro n
  induction n with
  | zero => intro st v1 v2 v3 v4 h; cases h
  | succ n ih =>
    intro st v1 v2 v3 v4 h
    rw [f_X6_isShut_5] at h
    refine j_iload E 4 rfl dX6_isShut_5 ?_
    refine j_bipush E (kb_10) dX6_isShut_7 ?_
    refine j_icmp_ge E (tgt := 53) (by decide) dX6_isShut_9 (fun c1 => ?_) (fun c1 => ?_)
    · have h := jit h c1
      refine j_sub [0, 1, 2, 3, 4] (lv' := [(0, .ref (ad 0)), (1, .int v1), (2, .int v2), (3, .int v3), (4, .int v4)]) rfl ?_
      exact hK _ _ _ _ _ h
    · have h := jif h c1
      refine j_iload_n E 3 rfl rfl dX6_isShut_12 ?_
      refine j_if_ne E (tgt := 41) (by decide) dX6_isShut_13 (fun c2 => ?_) (fun c2 => ?_)
      · have h := jif h c2
        refine j_iconst E (kc_1) dX6_isShut_41 ?_
        refine j_goto E (tgt := 46) (by decide) dX6_isShut_42 ?_
        refine j_istore_n E rfl (by decide) (lv' := [(3, .int 1), (0, .ref (ad 0)), (1, .int v1), (2, .int v2), (4, .int v4)]) rfl dX6_isShut_46 ?_
        obtain ⟨x3, ex3, h⟩ := jle h
        refine j_iinc E 4 rfl kc_1 ex3 (by decide) (lv' := [(4, .int x3), (3, .int 1), (0, .ref (ad 0)), (1, .int v1), (2, .int v2)]) rfl dX6_isShut_47 ?_
        refine j_goto E (tgt := 5) (by decide) dX6_isShut_50 ?_
        refine j_sub [2, 3, 4, 1, 0] (lv' := [(0, .ref (ad 0)), (1, .int v1), (2, .int v2), (3, .int 1), (4, .int x3)]) rfl ?_
        exact ih _ _ _ _ _ h
      · have h := jit h c2
        refine j_aload_n E 0 rfl rfl dX6_isShut_16 ?_
        refine j_get E 0 (wM_g0 ad cI cZ _) rfl 11 rfl in_X6_isShut_X6 (by decide) (List.mem_of_getElem? (i := 1) rfl) (fun _ h9 => h9) dX6_isShut_17 ?_
        refine j_iload_n E 1 rfl rfl dX6_isShut_20 ?_
        obtain ⟨b4, h⟩ := job_else h
        refine j_iald E 9 0 (wM_g9 ad cI cZ _) rfl b4 dX6_isShut_21 ?_
        refine j_iload E 4 rfl dX6_isShut_22 ?_
        refine j_ishr E dX6_isShut_24 ?_
        refine j_iconst E (kc_1) dX6_isShut_25 ?_
        refine j_iand E dX6_isShut_26 ?_
        refine j_iconst E (kc_1) dX6_isShut_27 ?_
        refine j_icmp_ne E (tgt := 45) (by decide) dX6_isShut_28 (fun c5 => ?_) (fun c5 => ?_)
        · have h := jif h c5
          refine j_iconst E (kc_0) dX6_isShut_45 ?_
          refine j_istore_n E rfl (by decide) (lv' := [(3, .int 0), (0, .ref (ad 0)), (1, .int v1), (2, .int v2), (4, .int v4)]) rfl dX6_isShut_46 ?_
          obtain ⟨x6, ex6, h⟩ := jle h
          refine j_iinc E 4 rfl kc_1 ex6 (by decide) (lv' := [(4, .int x6), (3, .int 0), (0, .ref (ad 0)), (1, .int v1), (2, .int v2)]) rfl dX6_isShut_47 ?_
          refine j_goto E (tgt := 5) (by decide) dX6_isShut_50 ?_
          refine j_sub [2, 3, 4, 1, 0] (lv' := [(0, .ref (ad 0)), (1, .int v1), (2, .int v2), (3, .int 0), (4, .int x6)]) rfl ?_
          exact ih _ _ _ _ _ h
        · have h := jit h c5
          refine j_aload_n E 0 rfl rfl dX6_isShut_31 ?_
          refine j_iload E 4 rfl dX6_isShut_32 ?_
          refine j_iload_n E 2 rfl rfl dX6_isShut_34 ?_
          obtain ⟨r7, er7, h⟩ := jbd h
          refine j_callVi E (As := [.int v4, .int v2]) (c_X6_isInProgress er7) (cwV 2 E.1.2.2.2.2 gX6_isShut_X6_isInProgress rfl rfl rfl (by decide +kernel) ⟨Nat.le_of_ble_eq_true rfl, Nat.le_of_ble_eq_true rfl⟩) (wM_g0 ad cI cZ _) rfl rfl rfl (Nat.le_of_ble_eq_true rfl) ⟨Nat.zero_le _, Nat.zero_le _⟩ dX6_isShut_35 ?_
          refine j_if_eq E (tgt := 45) (by decide) dX6_isShut_38 (fun c8 => ?_) (fun c8 => ?_)
          · have h := jit h c8
            refine j_iconst E (kc_0) dX6_isShut_45 ?_
            refine j_istore_n E rfl (by decide) (lv' := [(3, .int 0), (0, .ref (ad 0)), (1, .int v1), (2, .int v2), (4, .int v4)]) rfl dX6_isShut_46 ?_
            obtain ⟨x9, ex9, h⟩ := jle h
            refine j_iinc E 4 rfl kc_1 ex9 (by decide) (lv' := [(4, .int x9), (3, .int 0), (0, .ref (ad 0)), (1, .int v1), (2, .int v2)]) rfl dX6_isShut_47 ?_
            refine j_goto E (tgt := 5) (by decide) dX6_isShut_50 ?_
            refine j_sub [2, 3, 4, 1, 0] (lv' := [(0, .ref (ad 0)), (1, .int v1), (2, .int v2), (3, .int 0), (4, .int x9)]) rfl ?_
            exact ih _ _ _ _ _ h
          · have h := jif h c8
            refine j_iconst E (kc_1) dX6_isShut_41 ?_
            refine j_goto E (tgt := 46) (by decide) dX6_isShut_42 ?_
            refine j_istore_n E rfl (by decide) (lv' := [(3, .int 1), (0, .ref (ad 0)), (1, .int v1), (2, .int v2), (4, .int v4)]) rfl dX6_isShut_46 ?_
            obtain ⟨x10, ex10, h⟩ := jle h
            refine j_iinc E 4 rfl kc_1 ex10 (by decide) (lv' := [(4, .int x10), (3, .int 1), (0, .ref (ad 0)), (1, .int v1), (2, .int v2)]) rfl dX6_isShut_47 ?_
            refine j_goto E (tgt := 5) (by decide) dX6_isShut_50 ?_
            refine j_sub [2, 3, 4, 1, 0] (lv' := [(0, .ref (ad 0)), (1, .int v1), (2, .int v2), (3, .int 1), (4, .int x10)]) rfl ?_
            exact ih _ _ _ _ _ h
set_option maxHeartbeats 4000000 in
set_option maxRecDepth 100000 in
theorem c_X6_isShut {l : Launch} {D : va_G} {ad : Nat → Nat} {cI cZ : ClassId} {st : jS} {a1 : Int32} {a2 : Int32} {o : (Int32 × jS)} (h : f_X6_isShut st a1 a2 = some o) : CtI l D (jT cI cZ) (wM ad cI cZ) yX6_isShut wsX6_isShut (rm_X6_isShut) [.ref (ad 0), .int a1, .int a2] st o.1 o.2 := by
  refine ctI_of (o := o) (cc := cX6_isShut) (nL := 5) (own := RX6) (by decide) rfl rfl (Nat.le_of_ble_eq_true rfl) (lv0 := [(0, .ref (ad 0)), (1, .int a1), (2, .int a2)]) rfl ?_
  intro p e s m args below meth c A E hr
  rw [f_X6_isShut] at h
  refine j_iconst E (kc_0) dX6_isShut_0 ?_
  refine j_istore_n E rfl (by decide) (lv' := [(3, .int 0), (0, .ref (ad 0)), (1, .int a1), (2, .int a2)]) rfl dX6_isShut_1 ?_
  refine j_iconst E (kc_0) dX6_isShut_2 ?_
  refine j_istore E (by decide) (lv' := [(4, .int 0), (3, .int 0), (0, .ref (ad 0)), (1, .int a1), (2, .int a2)]) rfl dX6_isShut_3 ?_
  refine j_sub [2, 3, 4, 1, 0] (lv' := [(0, .ref (ad 0)), (1, .int a1), (2, .int a2), (3, .int 0), (4, .int 0)]) rfl ?_
  refine w_X6_isShut_5 E hr (fun s15 y11 y12 y13 y14 h => ?_) _ _ _ _ _ _ h
  refine j_iload_n E 3 rfl rfl dX6_isShut_53 ?_
  obtain ⟨b16, h⟩ := jnb_else h
  exact j_iret E hr b16 (Option.some.inj h) dX6_isShut_54
abbrev rm_X6_name : Room := { frames := 0, cells := 0, slots := 0, locals := 0 }
theorem in_X6_name_X6 : ∀ w ∈ u_ws RX6 TX6 29, w ∈ wsX6_name := fun w h => (List.mem_cons_of_mem _ (List.mem_append_right _ h))
def f_X6_name_2 (K : jS → Int32 → Int32 → Int32 → Option jS) : Nat → jS → Int32 → Int32 → Int32 → Option jS
  | 0, _, _, _, _ => none
  | n + 1, st, v1, v2, v3 =>
    if v3 ≥ (st.2 3) then
      K st v1 v2 v3
    else
    bif job v3 102 then none else
    if (jag st 11 v3) = v2 then
      bif job v3 102 then none else
      bif job v3 102 then none else
      jl (jas st 16 v3 ((jag st 16 v3) ||| v1)) fun s7 =>
      jl (v3 + 1) fun x8 =>
      f_X6_name_2 K n s7 v1 v2 x8
    else
    jl (v3 + 1) fun x4 =>
    f_X6_name_2 K n st v1 v2 x4
def f_X6_name (st : jS) (a1 : Int32) (a2 : Int32) : Option jS :=
  f_X6_name_2 (fun s12 y9 y10 y11 =>
    some s12
    ) jFuel st a1 a2 0
set_option maxHeartbeats 4000000 in
set_option maxRecDepth 100000 in
theorem w_X6_name_2 {ad : Nat → Nat} {cI cZ : ClassId} {p : Program} {l : Launch} {e : Env} {s : State} {m : MethodId} {args : Array Value} {below : List Frame} {meth : Method} {c : Code} {D : va_G} {A : Nat → Prop} {o : jS} (E : jE p s m args meth c cX6_name 4 RX6 wsX6_name D (jT cI cZ) A) (hr : meth.sig.returnType = none) {K : jS → Int32 → Int32 → Int32 → Option jS} (hK : ∀ (st : jS) (v1 : Int32) (v2 : Int32) (v3 : Int32), K st v1 v2 v3 = some o → J p l e (rm_X6_name) s m args below meth c 4 D A (wM ad cI cZ) (jZV D (wM ad cI cZ) A below args s o) 0 0 st 36 [(0, .ref (ad 0)), (1, .int v1), (2, .int v2), (3, .int v3)] []) :
    ∀ (n : Nat) (st : jS) (v1 : Int32) (v2 : Int32) (v3 : Int32), f_X6_name_2 K n st v1 v2 v3 = some o → J p l e (rm_X6_name) s m args below meth c 4 D A (wM ad cI cZ) (jZV D (wM ad cI cZ) A below args s o) 0 0 st 2 [(0, .ref (ad 0)), (1, .int v1), (2, .int v2), (3, .int v3)] [] := by
  intro n
  induction n with
  | zero => intro st v1 v2 v3 h; cases h
  | succ n ih =>
    intro st v1 v2 v3 h
    rw [f_X6_name_2] at h
    refine j_iload_n E 3 rfl rfl dX6_name_2 ?_
    refine j_aload_n E 0 rfl rfl dX6_name_3 ?_
    refine j_get E 0 (wM_g0 ad cI cZ _) rfl 12 rfl in_X6_name_X6 (by decide) (List.mem_of_getElem? (i := 1) rfl) (fun _ h9 => h9) dX6_name_4 ?_
    refine j_icmp_ge E (tgt := 36) (by decide) dX6_name_7 (fun c1 => ?_) (fun c1 => ?_)
    · have h := jit h c1
      refine j_sub [0, 1, 2, 3] (lv' := [(0, .ref (ad 0)), (1, .int v1), (2, .int v2), (3, .int v3)]) rfl ?_
      exact hK _ _ _ _ h
    · have h := jif h c1
      refine j_aload_n E 0 rfl rfl dX6_name_10 ?_
      refine j_get E 0 (wM_g0 ad cI cZ _) rfl 14 rfl in_X6_name_X6 (by decide) (List.mem_of_getElem? (i := 2) rfl) (fun _ h9 => h9) dX6_name_11 ?_
      refine j_iload_n E 3 rfl rfl dX6_name_14 ?_
      obtain ⟨b2, h⟩ := job_else h
      refine j_iald E 11 0 (wM_g11 ad cI cZ _) rfl b2 dX6_name_15 ?_
      refine j_iload_n E 2 rfl rfl dX6_name_16 ?_
      refine j_icmp_ne E (tgt := 30) (by decide) dX6_name_17 (fun c3 => ?_) (fun c3 => ?_)
      · have h := jif h c3
        obtain ⟨x4, ex4, h⟩ := jle h
        refine j_iinc E 3 rfl kc_1 ex4 (by decide) (lv' := [(3, .int x4), (0, .ref (ad 0)), (1, .int v1), (2, .int v2)]) rfl dX6_name_30 ?_
        refine j_goto E (tgt := 2) (by decide) dX6_name_33 ?_
        refine j_sub [1, 2, 3, 0] (lv' := [(0, .ref (ad 0)), (1, .int v1), (2, .int v2), (3, .int x4)]) rfl ?_
        exact ih _ _ _ _ h
      · have h := jit h c3
        refine j_aload_n E 0 rfl rfl dX6_name_20 ?_
        refine j_get E 0 (wM_g0 ad cI cZ _) rfl 19 rfl in_X6_name_X6 (by decide) (List.mem_of_getElem? (i := 3) rfl) (fun _ h9 => h9) dX6_name_21 ?_
        refine j_iload_n E 3 rfl rfl dX6_name_24 ?_
        refine j_dup2 E rfl rfl dX6_name_25 ?_
        obtain ⟨b5, h⟩ := job_else h
        refine j_iald E 16 0 (wM_g16 ad cI cZ _) rfl b5 dX6_name_26 ?_
        refine j_iload_n E 1 rfl rfl dX6_name_27 ?_
        refine j_ior E dX6_name_28 ?_
        obtain ⟨b6, h⟩ := job_else h
        obtain ⟨s7, es7, h⟩ := jle h
        refine j_iast E 16 0 (wM_g16 ad cI cZ _) rfl (wM_s16 ad cI cZ _ _) b6 dX6_name_29 ?_
        refine j_st es7 ?_
        obtain ⟨x8, ex8, h⟩ := jle h
        refine j_iinc E 3 rfl kc_1 ex8 (by decide) (lv' := [(3, .int x8), (0, .ref (ad 0)), (1, .int v1), (2, .int v2)]) rfl dX6_name_30 ?_
        refine j_goto E (tgt := 2) (by decide) dX6_name_33 ?_
        refine j_sub [1, 2, 3, 0] (lv' := [(0, .ref (ad 0)), (1, .int v1), (2, .int v2), (3, .int x8)]) rfl ?_
        exact ih _ _ _ _ h
set_option maxHeartbeats 4000000 in
set_option maxRecDepth 100000 in
theorem c_X6_name {l : Launch} {D : va_G} {ad : Nat → Nat} {cI cZ : ClassId} {st : jS} {a1 : Int32} {a2 : Int32} {o : jS} (h : f_X6_name st a1 a2 = some o) : CtV l D (jT cI cZ) (wM ad cI cZ) yX6_name wsX6_name (rm_X6_name) [.ref (ad 0), .int a1, .int a2] st o := by
  refine ctV_of (o := o) (cc := cX6_name) (nL := 4) (own := RX6) (by decide) rfl rfl (Nat.le_of_ble_eq_true rfl) (lv0 := [(0, .ref (ad 0)), (1, .int a1), (2, .int a2)]) rfl ?_
  intro p e s m args below meth c A E hr
  rw [f_X6_name] at h
  refine j_iconst E (kc_0) dX6_name_0 ?_
  refine j_istore_n E rfl (by decide) (lv' := [(3, .int 0), (0, .ref (ad 0)), (1, .int a1), (2, .int a2)]) rfl dX6_name_1 ?_
  refine j_sub [1, 2, 3, 0] (lv' := [(0, .ref (ad 0)), (1, .int a1), (2, .int a2), (3, .int 0)]) rfl ?_
  refine w_X6_name_2 E hr (fun s12 y9 y10 y11 h => ?_) _ _ _ _ _ h
  exact j_vret E hr (Option.some.inj h) dX6_name_36
abbrev rm_X6_ask : Room := { frames := 0, cells := 0, slots := 0, locals := 0 }
theorem in_X6_ask_X6 : ∀ w ∈ u_ws RX6 TX6 29, w ∈ wsX6_ask := fun w h => (List.mem_cons_of_mem _ (List.mem_append_right _ h))
def f_X6_ask_11 (K : jS → Int32 → Int32 → Option (Int32 × jS)) : Nat → jS → Int32 → Int32 → Option (Int32 × jS)
  | 0, _, _, _ => none
  | n + 1, st, v1, v2 =>
    if v2 ≥ (st.2 3) then
      K st v1 v2
    else
    bif job v2 102 then none else
    jl (jas st 14 v2 (vp_nar .boolean 1)) fun s6 =>
    jl (v2 + 1) fun x7 =>
    f_X6_ask_11 K n s6 v1 x7
def f_X6_ask (st : jS) (a1 : Int32) : Option (Int32 × jS) :=
  bif job a1 102 then none else
  jl (jas st 13 a1 (vp_nar .boolean 1)) fun s2 =>
  jl (a1 + 1) fun x3 =>
  f_X6_ask_11 (fun s10 y8 y9 =>
    bif job y8 102 then none else
    some ((jag s10 12 y8), s10)
    ) jFuel s2 a1 x3
set_option maxHeartbeats 4000000 in
set_option maxRecDepth 100000 in
theorem w_X6_ask_11 {ad : Nat → Nat} {cI cZ : ClassId} {p : Program} {l : Launch} {e : Env} {s : State} {m : MethodId} {args : Array Value} {below : List Frame} {meth : Method} {c : Code} {D : va_G} {A : Nat → Prop} {o : (Int32 × jS)} (E : jE p s m args meth c cX6_ask 3 RX6 wsX6_ask D (jT cI cZ) A) (hr : meth.sig.returnType = (some .int)) {K : jS → Int32 → Int32 → Option (Int32 × jS)} (hK : ∀ (st : jS) (v1 : Int32) (v2 : Int32), K st v1 v2 = some o → J p l e (rm_X6_ask) s m args below meth c 3 D A (wM ad cI cZ) (jZI D (wM ad cI cZ) A below args s o) 0 0 st 32 [(0, .ref (ad 0)), (1, .int v1), (2, .int v2)] []) :
    ∀ (n : Nat) (st : jS) (v1 : Int32) (v2 : Int32), f_X6_ask_11 K n st v1 v2 = some o → J p l e (rm_X6_ask) s m args below meth c 3 D A (wM ad cI cZ) (jZI D (wM ad cI cZ) A below args s o) 0 0 st 11 [(0, .ref (ad 0)), (1, .int v1), (2, .int v2)] [] := by
  intro n
  induction n with
  | zero => intro st v1 v2 h; cases h
  | succ n ih =>
    intro st v1 v2 h
    rw [f_X6_ask_11] at h
    refine j_iload_n E 2 rfl rfl dX6_ask_11 ?_
    refine j_aload_n E 0 rfl rfl dX6_ask_12 ?_
    refine j_get E 0 (wM_g0 ad cI cZ _) rfl 12 rfl in_X6_ask_X6 (by decide) (List.mem_of_getElem? (i := 2) rfl) (fun _ h9 => h9) dX6_ask_13 ?_
    refine j_icmp_ge E (tgt := 32) (by decide) dX6_ask_16 (fun c4 => ?_) (fun c4 => ?_)
    · have h := jit h c4
      refine j_sub [0, 1, 2] (lv' := [(0, .ref (ad 0)), (1, .int v1), (2, .int v2)]) rfl ?_
      exact hK _ _ _ h
    · have h := jif h c4
      refine j_aload_n E 0 rfl rfl dX6_ask_19 ?_
      refine j_get E 0 (wM_g0 ad cI cZ _) rfl 17 rfl in_X6_ask_X6 (by decide) (List.mem_of_getElem? (i := 3) rfl) (fun _ h9 => h9) dX6_ask_20 ?_
      refine j_iload_n E 2 rfl rfl dX6_ask_23 ?_
      refine j_iconst E (kc_1) dX6_ask_24 ?_
      obtain ⟨b5, h⟩ := job_else h
      obtain ⟨s6, es6, h⟩ := jle h
      refine j_zast E 14 1 (wM_g14 ad cI cZ _) rfl (wM_s14 ad cI cZ _ _) b5 dX6_ask_25 ?_
      refine j_st es6 ?_
      obtain ⟨x7, ex7, h⟩ := jle h
      refine j_iinc E 2 rfl kc_1 ex7 (by decide) (lv' := [(2, .int x7), (0, .ref (ad 0)), (1, .int v1)]) rfl dX6_ask_26 ?_
      refine j_goto E (tgt := 11) (by decide) dX6_ask_29 ?_
      refine j_sub [1, 2, 0] (lv' := [(0, .ref (ad 0)), (1, .int v1), (2, .int x7)]) rfl ?_
      exact ih _ _ _ h
set_option maxHeartbeats 4000000 in
set_option maxRecDepth 100000 in
theorem c_X6_ask {l : Launch} {D : va_G} {ad : Nat → Nat} {cI cZ : ClassId} {st : jS} {a1 : Int32} {o : (Int32 × jS)} (h : f_X6_ask st a1 = some o) : CtI l D (jT cI cZ) (wM ad cI cZ) yX6_ask wsX6_ask (rm_X6_ask) [.ref (ad 0), .int a1] st o.1 o.2 := by
  refine ctI_of (o := o) (cc := cX6_ask) (nL := 3) (own := RX6) (by decide) rfl rfl (Nat.le_of_ble_eq_true rfl) (lv0 := [(0, .ref (ad 0)), (1, .int a1)]) rfl ?_
  intro p e s m args below meth c A E hr
  rw [f_X6_ask] at h
  refine j_aload_n E 0 rfl rfl dX6_ask_0 ?_
  refine j_get E 0 (wM_g0 ad cI cZ _) rfl 16 rfl in_X6_ask_X6 (by decide) (List.mem_of_getElem? (i := 1) rfl) (fun _ h9 => h9) dX6_ask_1 ?_
  refine j_iload_n E 1 rfl rfl dX6_ask_4 ?_
  refine j_iconst E (kc_1) dX6_ask_5 ?_
  obtain ⟨b1, h⟩ := job_else h
  obtain ⟨s2, es2, h⟩ := jle h
  refine j_zast E 13 1 (wM_g13 ad cI cZ _) rfl (wM_s13 ad cI cZ _ _) b1 dX6_ask_6 ?_
  refine j_st es2 ?_
  refine j_iload_n E 1 rfl rfl dX6_ask_7 ?_
  refine j_iconst E (kc_1) dX6_ask_8 ?_
  refine j_iadd E dX6_ask_9 ?_
  obtain ⟨x3, ex3, h⟩ := jle h
  refine j_topi ex3 ?_
  refine j_istore_n E rfl (by decide) (lv' := [(2, .int x3), (0, .ref (ad 0)), (1, .int a1)]) rfl dX6_ask_10 ?_
  refine j_sub [1, 2, 0] (lv' := [(0, .ref (ad 0)), (1, .int a1), (2, .int x3)]) rfl ?_
  refine w_X6_ask_11 E hr (fun s10 y8 y9 h => ?_) _ _ _ _ h
  refine j_aload_n E 0 rfl rfl dX6_ask_32 ?_
  refine j_get E 0 (wM_g0 ad cI cZ _) rfl 15 rfl in_X6_ask_X6 (by decide) (List.mem_of_getElem? (i := 4) rfl) (fun _ h9 => h9) dX6_ask_33 ?_
  refine j_iload_n E 1 rfl rfl dX6_ask_36 ?_
  obtain ⟨b11, h⟩ := job_else h
  refine j_iald E 12 0 (wM_g12 ad cI cZ _) rfl b11 dX6_ask_37 ?_
  exact j_iret E hr rfl (Option.some.inj h) dX6_ask_38
abbrev rm_X6_lookAgain (d : Nat) : Room := rmMF d
theorem in_X6_lookAgain_X6 : ∀ w ∈ u_ws RX6 TX6 29, w ∈ wsX6_lookAgain := fun w h => (List.mem_cons_of_mem _ (List.mem_append_right _ h))
theorem rk_X6_lookAgain_X6_look (d : Nat) : (rmML d).frames + 1 ≤ (rm_X6_lookAgain d).frames ∧ 8 + (7 + 11) + (rmML d).locals ≤ (rm_X6_lookAgain d).locals := ⟨by simp only [rm_X6_lookAgain, rmML, rmMF, rmMG]; omega, by simp only [rm_X6_lookAgain, rmML, rmMF, rmMG]; omega⟩
def f_X6_lookAgain_3 (lk : jS → Int32 → Int32 → Int32 → Option (Int32 × jS)) (K : jS → Int32 → Int32 → Int32 → Int32 → Option (Int32 × jS)) : Nat → jS → Int32 → Int32 → Int32 → Int32 → Option (Int32 × jS)
  | 0, _, _, _, _, _ => none
  | n + 1, st, v1, v2, v3, v4 =>
    if (st.2 4) = 0 then
      (lk st v1 v4 (v3 + 1)).bind fun r2 =>
      if r2.1 = (-1) then
        if (r2.2.2 5) = 0 then
          if r2.1 = (-1) then
            (f_X6_succeed r2.2 v4).bind fun r10 =>
            some (r10.1, r10.2)
          else
          if r2.1 = v4 then
            (f_X6_succeed r2.2 v4).bind fun r12 =>
            some (r12.1, r12.2)
          else
          f_X6_lookAgain_3 lk K n r2.2 v1 v2 v3 r2.1
        else
        (f_X6_miss r2.2 0).bind fun r13 =>
        some (r13.1, r13.2)
      else
      if r2.1 = (-1) then
        (f_X6_succeed r2.2 v4).bind fun r5 =>
        some (r5.1, r5.2)
      else
      if r2.1 = v4 then
        (f_X6_succeed r2.2 v4).bind fun r7 =>
        some (r7.1, r7.2)
      else
      f_X6_lookAgain_3 lk K n r2.2 v1 v2 v3 r2.1
    else
    K st v1 v2 v3 v4
def f_X6_lookAgain (lk : jS → Int32 → Int32 → Int32 → Option (Int32 × jS)) (st : jS) (a1 : Int32) (a2 : Int32) (a3 : Int32) : Option (Int32 × jS) :=
  f_X6_lookAgain_3 lk (fun s18 y14 y15 y16 y17 =>
    (f_X6_miss s18 0).bind fun r19 =>
    some (r19.1, r19.2)
    ) jFuel st a1 a2 a3 a2
set_option maxHeartbeats 4000000 in
set_option maxRecDepth 100000 in
theorem w_X6_lookAgain_3 {ad : Nat → Nat} {cI cZ : ClassId} {p : Program} {l : Launch} {e : Env} {s : State} {m : MethodId} {args : Array Value} {below : List Frame} {meth : Method} {c : Code} {D : va_G} {A : Nat → Prop} {o : (Int32 × jS)} {d : Nat} {lk : jS → Int32 → Int32 → Int32 → Option (Int32 × jS)} (hlk : ∀ (st : jS) (a b c : Int32) (r : Int32 × jS), lk st a b c = some r → CtI l D (jT cI cZ) (wM ad cI cZ) yX6_look wsX6_look (rmML d) [.ref (ad 0), .int a, .int b, .int c] st r.1 r.2) (E : jE p s m args meth c cX6_lookAgain 6 RX6 wsX6_lookAgain D (jT cI cZ) A) (hr : meth.sig.returnType = (some .int)) {K : jS → Int32 → Int32 → Int32 → Int32 → Option (Int32 × jS)} (hK : ∀ (st : jS) (v1 : Int32) (v2 : Int32) (v3 : Int32) (v4 : Int32), K st v1 v2 v3 v4 = some o → J p l e (rm_X6_lookAgain d) s m args below meth c 6 D A (wM ad cI cZ) (jZI D (wM ad cI cZ) A below args s o) 0 0 st 68 [(0, .ref (ad 0)), (1, .int v1), (2, .int v2), (3, .int v3), (4, .int v4)] []) :
    ∀ (n : Nat) (st : jS) (v1 : Int32) (v2 : Int32) (v3 : Int32) (v4 : Int32), f_X6_lookAgain_3 lk K n st v1 v2 v3 v4 = some o → J p l e (rm_X6_lookAgain d) s m args below meth c 6 D A (wM ad cI cZ) (jZI D (wM ad cI cZ) A below args s o) 0 0 st 3 [(0, .ref (ad 0)), (1, .int v1), (2, .int v2), (3, .int v3), (4, .int v4)] [] := by
  intro n
  induction n with
  | zero => intro st v1 v2 v3 v4 h; cases h
  | succ n ih =>
    intro st v1 v2 v3 v4 h
    rw [f_X6_lookAgain_3] at h
    refine j_aload_n E 0 rfl rfl dX6_lookAgain_3 ?_
    refine j_get E 0 (wM_g0 ad cI cZ _) rfl 20 rfl in_X6_lookAgain_X6 (by decide) (List.mem_of_getElem? (i := 1) rfl) (fun _ h9 => h9) dX6_lookAgain_4 ?_
    refine j_if_ne E (tgt := 68) (by decide) dX6_lookAgain_7 (fun c1 => ?_) (fun c1 => ?_)
    · have h := jif h c1
      refine j_sub [0, 1, 2, 3, 4] (lv' := [(0, .ref (ad 0)), (1, .int v1), (2, .int v2), (3, .int v3), (4, .int v4)]) rfl ?_
      exact hK _ _ _ _ _ h
    · have h := jit h c1
      refine j_aload_n E 0 rfl rfl dX6_lookAgain_10 ?_
      refine j_iload_n E 1 rfl rfl dX6_lookAgain_11 ?_
      refine j_iload E 4 rfl dX6_lookAgain_12 ?_
      refine j_iload_n E 3 rfl rfl dX6_lookAgain_14 ?_
      refine j_iconst E (kc_1) dX6_lookAgain_15 ?_
      refine j_iadd E dX6_lookAgain_16 ?_
      obtain ⟨r2, er2, h⟩ := jbd h
      refine j_callVi E (As := [.int v1, .int v4, .int (v3 + 1)]) (hlk _ _ _ _ _ er2) (cwV 3 E.1.2.2.2.2 gX6_lookAgain_X6_look rfl rfl rfl (by decide +kernel) (rk_X6_lookAgain_X6_look d)) (wM_g0 ad cI cZ _) rfl rfl rfl (Nat.le_of_ble_eq_true rfl) ⟨Nat.zero_le _, Nat.zero_le _⟩ dX6_lookAgain_17 ?_
      refine j_istore E (by decide) (lv' := [(5, .int r2.1), (0, .ref (ad 0)), (1, .int v1), (2, .int v2), (3, .int v3), (4, .int v4)]) rfl dX6_lookAgain_20 ?_
      refine j_iload E 0 rfl dX6_lookAgain_22 ?_
      refine j_iconst E (kc_m1) dX6_lookAgain_24 ?_
      refine j_icmp_ne E (tgt := 41) (by decide) dX6_lookAgain_25 (fun c3 => ?_) (fun c3 => ?_)
      · have h := jif h c3
        refine j_iload E 0 rfl dX6_lookAgain_41 ?_
        refine j_iconst E (kc_m1) dX6_lookAgain_43 ?_
        refine j_icmp_eq E (tgt := 54) (by decide) dX6_lookAgain_44 (fun c4 => ?_) (fun c4 => ?_)
        · have h := jit h c4
          refine j_aload_n E 1 rfl rfl dX6_lookAgain_54 ?_
          refine j_iload E 5 rfl dX6_lookAgain_55 ?_
          obtain ⟨r5, er5, h⟩ := jbd h
          refine j_callVi E (As := [.int v4]) (c_X6_succeed er5) (cwV 1 E.1.2.2.2.2 gX6_lookAgain_X6_succeed rfl rfl rfl (by decide +kernel) ⟨rk1_rmMF d _ (Nat.le_of_ble_eq_true rfl), rk2_rmMF d _ (Nat.le_of_ble_eq_true rfl)⟩) (wM_g0 ad cI cZ _) rfl rfl rfl (Nat.le_of_ble_eq_true rfl) ⟨Nat.zero_le _, Nat.zero_le _⟩ dX6_lookAgain_57 ?_
          exact j_iret E hr rfl (Option.some.inj h) dX6_lookAgain_60
        · have h := jif h c4
          refine j_iload E 0 rfl dX6_lookAgain_47 ?_
          refine j_iload E 5 rfl dX6_lookAgain_49 ?_
          refine j_icmp_ne E (tgt := 61) (by decide) dX6_lookAgain_51 (fun c6 => ?_) (fun c6 => ?_)
          · have h := jif h c6
            refine j_iload E 0 rfl dX6_lookAgain_61 ?_
            refine j_istore E (by decide) (lv' := [(4, .int r2.1), (5, .int r2.1), (0, .ref (ad 0)), (1, .int v1), (2, .int v2), (3, .int v3)]) rfl dX6_lookAgain_63 ?_
            refine j_goto E (tgt := 3) (by decide) dX6_lookAgain_65 ?_
            refine j_sub [2, 3, 4, 5, 0] (lv' := [(0, .ref (ad 0)), (1, .int v1), (2, .int v2), (3, .int v3), (4, .int r2.1)]) rfl ?_
            exact ih _ _ _ _ _ h
          · have h := jit h c6
            refine j_aload_n E 1 rfl rfl dX6_lookAgain_54 ?_
            refine j_iload E 5 rfl dX6_lookAgain_55 ?_
            obtain ⟨r7, er7, h⟩ := jbd h
            refine j_callVi E (As := [.int v4]) (c_X6_succeed er7) (cwV 1 E.1.2.2.2.2 gX6_lookAgain_X6_succeed rfl rfl rfl (by decide +kernel) ⟨rk1_rmMF d _ (Nat.le_of_ble_eq_true rfl), rk2_rmMF d _ (Nat.le_of_ble_eq_true rfl)⟩) (wM_g0 ad cI cZ _) rfl rfl rfl (Nat.le_of_ble_eq_true rfl) ⟨Nat.zero_le _, Nat.zero_le _⟩ dX6_lookAgain_57 ?_
            exact j_iret E hr rfl (Option.some.inj h) dX6_lookAgain_60
      · have h := jit h c3
        refine j_aload_n E 1 rfl rfl dX6_lookAgain_28 ?_
        refine j_get E 0 (wM_g0 ad cI cZ _) rfl 21 rfl in_X6_lookAgain_X6 (by decide) (List.mem_of_getElem? (i := 2) rfl) (fun _ h9 => h9) dX6_lookAgain_29 ?_
        refine j_if_eq E (tgt := 41) (by decide) dX6_lookAgain_32 (fun c8 => ?_) (fun c8 => ?_)
        · have h := jit h c8
          refine j_iload E 0 rfl dX6_lookAgain_41 ?_
          refine j_iconst E (kc_m1) dX6_lookAgain_43 ?_
          refine j_icmp_eq E (tgt := 54) (by decide) dX6_lookAgain_44 (fun c9 => ?_) (fun c9 => ?_)
          · have h := jit h c9
            refine j_aload_n E 1 rfl rfl dX6_lookAgain_54 ?_
            refine j_iload E 5 rfl dX6_lookAgain_55 ?_
            obtain ⟨r10, er10, h⟩ := jbd h
            refine j_callVi E (As := [.int v4]) (c_X6_succeed er10) (cwV 1 E.1.2.2.2.2 gX6_lookAgain_X6_succeed rfl rfl rfl (by decide +kernel) ⟨rk1_rmMF d _ (Nat.le_of_ble_eq_true rfl), rk2_rmMF d _ (Nat.le_of_ble_eq_true rfl)⟩) (wM_g0 ad cI cZ _) rfl rfl rfl (Nat.le_of_ble_eq_true rfl) ⟨Nat.zero_le _, Nat.zero_le _⟩ dX6_lookAgain_57 ?_
            exact j_iret E hr rfl (Option.some.inj h) dX6_lookAgain_60
          · have h := jif h c9
            refine j_iload E 0 rfl dX6_lookAgain_47 ?_
            refine j_iload E 5 rfl dX6_lookAgain_49 ?_
            refine j_icmp_ne E (tgt := 61) (by decide) dX6_lookAgain_51 (fun c11 => ?_) (fun c11 => ?_)
            · have h := jif h c11
              refine j_iload E 0 rfl dX6_lookAgain_61 ?_
              refine j_istore E (by decide) (lv' := [(4, .int r2.1), (5, .int r2.1), (0, .ref (ad 0)), (1, .int v1), (2, .int v2), (3, .int v3)]) rfl dX6_lookAgain_63 ?_
              refine j_goto E (tgt := 3) (by decide) dX6_lookAgain_65 ?_
              refine j_sub [2, 3, 4, 5, 0] (lv' := [(0, .ref (ad 0)), (1, .int v1), (2, .int v2), (3, .int v3), (4, .int r2.1)]) rfl ?_
              exact ih _ _ _ _ _ h
            · have h := jit h c11
              refine j_aload_n E 1 rfl rfl dX6_lookAgain_54 ?_
              refine j_iload E 5 rfl dX6_lookAgain_55 ?_
              obtain ⟨r12, er12, h⟩ := jbd h
              refine j_callVi E (As := [.int v4]) (c_X6_succeed er12) (cwV 1 E.1.2.2.2.2 gX6_lookAgain_X6_succeed rfl rfl rfl (by decide +kernel) ⟨rk1_rmMF d _ (Nat.le_of_ble_eq_true rfl), rk2_rmMF d _ (Nat.le_of_ble_eq_true rfl)⟩) (wM_g0 ad cI cZ _) rfl rfl rfl (Nat.le_of_ble_eq_true rfl) ⟨Nat.zero_le _, Nat.zero_le _⟩ dX6_lookAgain_57 ?_
              exact j_iret E hr rfl (Option.some.inj h) dX6_lookAgain_60
        · have h := jif h c8
          refine j_aload_n E 1 rfl rfl dX6_lookAgain_35 ?_
          refine j_iconst E (kc_0) dX6_lookAgain_36 ?_
          obtain ⟨r13, er13, h⟩ := jbd h
          refine j_callVi E (As := [.int 0]) (c_X6_miss er13) (cwV 1 E.1.2.2.2.2 gX6_lookAgain_X6_miss rfl rfl rfl (by decide +kernel) ⟨rk1_rmMF d _ (Nat.le_of_ble_eq_true rfl), rk2_rmMF d _ (Nat.le_of_ble_eq_true rfl)⟩) (wM_g0 ad cI cZ _) rfl rfl rfl (Nat.le_of_ble_eq_true rfl) ⟨Nat.zero_le _, Nat.zero_le _⟩ dX6_lookAgain_37 ?_
          exact j_iret E hr rfl (Option.some.inj h) dX6_lookAgain_40
set_option maxHeartbeats 4000000 in
set_option maxRecDepth 100000 in
theorem c_X6_lookAgain {l : Launch} {D : va_G} {ad : Nat → Nat} {cI cZ : ClassId} {st : jS} {a1 : Int32} {a2 : Int32} {a3 : Int32} {o : (Int32 × jS)} {d : Nat} {lk : jS → Int32 → Int32 → Int32 → Option (Int32 × jS)} (hlk : ∀ (st : jS) (a b c : Int32) (r : Int32 × jS), lk st a b c = some r → CtI l D (jT cI cZ) (wM ad cI cZ) yX6_look wsX6_look (rmML d) [.ref (ad 0), .int a, .int b, .int c] st r.1 r.2) (h : f_X6_lookAgain lk st a1 a2 a3 = some o) : CtI l D (jT cI cZ) (wM ad cI cZ) yX6_lookAgain wsX6_lookAgain (rm_X6_lookAgain d) [.ref (ad 0), .int a1, .int a2, .int a3] st o.1 o.2 := by
  refine ctI_of (o := o) (cc := cX6_lookAgain) (nL := 6) (own := RX6) (by decide) rfl rfl (Nat.le_of_ble_eq_true rfl) (lv0 := [(0, .ref (ad 0)), (1, .int a1), (2, .int a2), (3, .int a3)]) rfl ?_
  intro p e s m args below meth c A E hr
  rw [f_X6_lookAgain] at h
  refine j_iload_n E 2 rfl rfl dX6_lookAgain_0 ?_
  refine j_istore E (by decide) (lv' := [(4, .int a2), (0, .ref (ad 0)), (1, .int a1), (2, .int a2), (3, .int a3)]) rfl dX6_lookAgain_1 ?_
  refine j_sub [1, 2, 3, 4, 0] (lv' := [(0, .ref (ad 0)), (1, .int a1), (2, .int a2), (3, .int a3), (4, .int a2)]) rfl ?_
  refine w_X6_lookAgain_3 hlk E hr (fun s18 y14 y15 y16 y17 h => ?_) _ _ _ _ _ _ h
  refine j_aload_n E 0 rfl rfl dX6_lookAgain_68 ?_
  refine j_iconst E (kc_0) dX6_lookAgain_69 ?_
  obtain ⟨r19, er19, h⟩ := jbd h
  refine j_callVi E (As := [.int 0]) (c_X6_miss er19) (cwV 1 E.1.2.2.2.2 gX6_lookAgain_X6_miss rfl rfl rfl (by decide +kernel) ⟨rk1_rmMF d _ (Nat.le_of_ble_eq_true rfl), rk2_rmMF d _ (Nat.le_of_ble_eq_true rfl)⟩) (wM_g0 ad cI cZ _) rfl rfl rfl (Nat.le_of_ble_eq_true rfl) ⟨Nat.zero_le _, Nat.zero_le _⟩ dX6_lookAgain_70 ?_
  exact j_iret E hr rfl (Option.some.inj h) dX6_lookAgain_73
abbrev rm_X6_lookRule (d : Nat) : Room := rmMF d
theorem in_X6_lookRule_X6 : ∀ w ∈ u_ws RX6 TX6 29, w ∈ wsX6_lookRule := fun w h => (List.mem_cons_of_mem _ (List.mem_append_right _ h))
theorem rk_X6_lookRule_X6_look (d : Nat) : (rmML d).frames + 1 ≤ (rm_X6_lookRule d).frames ∧ 8 + (7 + 11) + (rmML d).locals ≤ (rm_X6_lookRule d).locals := ⟨by simp only [rm_X6_lookRule, rmML, rmMF, rmMG]; omega, by simp only [rm_X6_lookRule, rmML, rmMF, rmMG]; omega⟩
def f_X6_lookRule_115 (lk : jS → Int32 → Int32 → Int32 → Option (Int32 × jS)) (K : jS → Int32 → Int32 → Int32 → Int32 → Int32 → Option (Int32 × jS)) : Nat → jS → Int32 → Int32 → Int32 → Int32 → Int32 → Option (Int32 × jS)
  | 0, _, _, _, _, _, _ => none
  | n + 1, st, v1, v2, v3, v4, v5 =>
    if v5 ≥ (st.2 3) then
      K st v1 v2 v3 v4 v5
    else
    bif job v5 102 then none else
    if (jag st 10 v5) = v1 then
      bif job v5 102 then none else
      if (jag st 11 v5) = v2 then
        (f_X6_ask st v5).bind fun r13 =>
        some (r13.1, r13.2)
      else
      jl (v5 + 1) fun x12 =>
      f_X6_lookRule_115 lk K n st v1 v2 v3 v4 x12
    else
    jl (v5 + 1) fun x9 =>
    f_X6_lookRule_115 lk K n st v1 v2 v3 v4 x9
def f_X6_lookRule_265 (lk : jS → Int32 → Int32 → Int32 → Option (Int32 × jS)) (K : jS → Int32 → Int32 → Int32 → Int32 → Int32 → Int32 → Option (Int32 × jS)) : Nat → jS → Int32 → Int32 → Int32 → Int32 → Int32 → Int32 → Option (Int32 × jS)
  | 0, _, _, _, _, _, _, _ => none
  | n + 1, st, v1, v2, v3, v4, v5, v6 =>
    if v6 = (-1) then
      K st v1 v2 v3 v4 v5 v6
    else
    if (st.2 4) = 0 then
      bif job v5 102 then none else
      if (jag st 12 v5) = (-1) then
        bif job v5 102 then none else
        jl (jas st 12 v5 v6) fun s60 =>
        jl (jis s60 8 ((s60.2 8) + 1)) fun s61 =>
        bif job v1 10 then none else
        (lk s61 (jag s61 4 v1) v2 (v3 + 1)).bind fun r63 =>
        f_X6_lookRule_265 lk K n r63.2 v1 v2 v3 v4 v5 r63.1
      else
      bif job v5 102 then none else
      if (jag st 12 v5) ≥ v6 then
        K st v1 v2 v3 v4 v5 v6
      else
      bif job v5 102 then none else
      jl (jas st 12 v5 v6) fun s67 =>
      jl (jis s67 8 ((s67.2 8) + 1)) fun s68 =>
      bif job v1 10 then none else
      (lk s68 (jag s68 4 v1) v2 (v3 + 1)).bind fun r70 =>
      f_X6_lookRule_265 lk K n r70.2 v1 v2 v3 v4 v5 r70.1
    else
    K st v1 v2 v3 v4 v5 v6
def f_X6_lookRule_65 (lk : jS → Int32 → Int32 → Int32 → Option (Int32 × jS)) (K : jS → Int32 → Int32 → Int32 → Int32 → Int32 → Option (Int32 × jS)) : Nat → jS → Int32 → Int32 → Int32 → Int32 → Int32 → Option (Int32 × jS)
  | 0, _, _, _, _, _, _ => none
  | n + 1, st, v1, v2, v3, v4, v5 =>
    if v5 ≥ (st.2 3) then
      K st v1 v2 v3 v4 v5
    else
    bif job v5 102 then none else
    bif job v4 410 then none else
    bif job v5 102 then none else
    jl (jas st 15 v5 (if (jag st 15 v5) < (jag st 8 v4) then (jag st 8 v4) else (jag st 15 v5))) fun s167 =>
    jl (v5 + 1) fun x168 =>
    f_X6_lookRule_65 lk K n s167 v1 v2 v3 v4 x168
def f_X6_lookRule (lk : jS → Int32 → Int32 → Int32 → Option (Int32 × jS)) (st : jS) (a1 : Int32) (a2 : Int32) (a3 : Int32) : Option (Int32 × jS) :=
  bif job a1 10 then none else
  if (jag st 4 a1) = (-1) then
    some ((-1), st)
  else
  jl ((41 * a1) + a2) fun x3 =>
  bif job x3 410 then none else
  if (jag st 6 x3) = 0 then
    f_X6_lookRule_115 lk (fun s19 y14 y15 y16 y17 y18 =>
      jl (s19.2 3) fun x20 =>
      jl (jis s19 3 ((s19.2 3) + 1)) fun s21 =>
      bif job x20 102 then none else
      jl (jas s21 10 x20 y14) fun s23 =>
      bif job x20 102 then none else
      jl (jas s23 11 x20 y15) fun s25 =>
      bif job x20 102 then none else
      jl (jas s25 12 x20 (-1)) fun s27 =>
      bif job x20 102 then none else
      jl (jas s27 13 x20 (vp_nar .boolean 0)) fun s29 =>
      bif job x20 102 then none else
      jl (jas s29 14 x20 (vp_nar .boolean 0)) fun s31 =>
      bif job x20 102 then none else
      jl (jas s31 15 x20 y15) fun s33 =>
      bif job x20 102 then none else
      jl (jas s33 16 x20 0) fun s35 =>
      (f_X6_name s35 (1 <<< (y14 &&& 31)) y15).bind fun r36 =>
      bif job y14 10 then none else
      (lk r36 (jag r36 4 y14) y15 (y16 + 1)).bind fun r38 =>
      bif job x20 102 then none else
      if (jag r38.2 13 x20) = 0 then
        jl (jis r38.2 3 x20) fun s41 =>
        bif job x20 102 then none else
        if (jag s41 14 x20) = 0 then
          if (s41.2 4) = 0 then
            bif job y17 410 then none else
            jl (jas s41 6 y17 (vp_nar .boolean 1)) fun s46 =>
            bif job y17 410 then none else
            jl (jas s46 7 y17 r38.1) fun s48 =>
            bif job x20 102 then none else
            bif job y17 410 then none else
            jl (jas s48 8 y17 (jag s48 15 x20)) fun s51 =>
            bif job x20 102 then none else
            bif job y17 410 then none else
            jl (jas s51 9 y17 (jag s51 16 x20)) fun s54 =>
            some (r38.1, s54)
          else
          some (r38.1, s41)
        else
        some (r38.1, s41)
      else
      f_X6_lookRule_265 lk (fun s77 y71 y72 y73 y74 y75 y76 =>
        bif job y75 102 then none else
        jl (jag s77 12 y75) fun x79 =>
        jl (jis s77 3 y75) fun s80 =>
        bif job y75 102 then none else
        if (jag s80 14 y75) = 0 then
          if (s80.2 4) = 0 then
            bif job y74 410 then none else
            jl (jas s80 6 y74 (vp_nar .boolean 1)) fun s85 =>
            bif job y74 410 then none else
            jl (jas s85 7 y74 x79) fun s87 =>
            bif job y75 102 then none else
            bif job y74 410 then none else
            jl (jas s87 8 y74 (jag s87 15 y75)) fun s90 =>
            bif job y75 102 then none else
            bif job y74 410 then none else
            jl (jas s90 9 y74 (jag s90 16 y75)) fun s93 =>
            some (x79, s93)
          else
          some (x79, s80)
        else
        some (x79, s80)
        ) jFuel r38.2 y14 y15 y16 y17 x20 r38.1
      ) jFuel st a1 a2 a3 x3 0
  else
  (f_X6_isShut st x3 a2).bind fun r94 =>
  if r94.1 = 0 then
    jl (jis r94.2 7 ((r94.2.2 7) + 1)) fun s160 =>
    bif job x3 410 then none else
    (f_X6_name s160 (jag s160 9 x3) a2).bind fun r162 =>
    f_X6_lookRule_65 lk (fun s174 y169 y170 y171 y172 y173 =>
      bif job y172 410 then none else
      some ((jag s174 7 y172), s174)
      ) jFuel r162 a1 a2 a3 x3 0
  else
  f_X6_lookRule_115 lk (fun s101 y96 y97 y98 y99 y100 =>
    jl (s101.2 3) fun x102 =>
    jl (jis s101 3 ((s101.2 3) + 1)) fun s103 =>
    bif job x102 102 then none else
    jl (jas s103 10 x102 y96) fun s105 =>
    bif job x102 102 then none else
    jl (jas s105 11 x102 y97) fun s107 =>
    bif job x102 102 then none else
    jl (jas s107 12 x102 (-1)) fun s109 =>
    bif job x102 102 then none else
    jl (jas s109 13 x102 (vp_nar .boolean 0)) fun s111 =>
    bif job x102 102 then none else
    jl (jas s111 14 x102 (vp_nar .boolean 0)) fun s113 =>
    bif job x102 102 then none else
    jl (jas s113 15 x102 y97) fun s115 =>
    bif job x102 102 then none else
    jl (jas s115 16 x102 0) fun s117 =>
    (f_X6_name s117 (1 <<< (y96 &&& 31)) y97).bind fun r118 =>
    bif job y96 10 then none else
    (lk r118 (jag r118 4 y96) y97 (y98 + 1)).bind fun r120 =>
    bif job x102 102 then none else
    if (jag r120.2 13 x102) = 0 then
      jl (jis r120.2 3 x102) fun s123 =>
      bif job x102 102 then none else
      if (jag s123 14 x102) = 0 then
        if (s123.2 4) = 0 then
          bif job y99 410 then none else
          jl (jas s123 6 y99 (vp_nar .boolean 1)) fun s128 =>
          bif job y99 410 then none else
          jl (jas s128 7 y99 r120.1) fun s130 =>
          bif job x102 102 then none else
          bif job y99 410 then none else
          jl (jas s130 8 y99 (jag s130 15 x102)) fun s133 =>
          bif job x102 102 then none else
          bif job y99 410 then none else
          jl (jas s133 9 y99 (jag s133 16 x102)) fun s136 =>
          some (r120.1, s136)
        else
        some (r120.1, s123)
      else
      some (r120.1, s123)
    else
    f_X6_lookRule_265 lk (fun s143 y137 y138 y139 y140 y141 y142 =>
      bif job y141 102 then none else
      jl (jag s143 12 y141) fun x145 =>
      jl (jis s143 3 y141) fun s146 =>
      bif job y141 102 then none else
      if (jag s146 14 y141) = 0 then
        if (s146.2 4) = 0 then
          bif job y140 410 then none else
          jl (jas s146 6 y140 (vp_nar .boolean 1)) fun s151 =>
          bif job y140 410 then none else
          jl (jas s151 7 y140 x145) fun s153 =>
          bif job y141 102 then none else
          bif job y140 410 then none else
          jl (jas s153 8 y140 (jag s153 15 y141)) fun s156 =>
          bif job y141 102 then none else
          bif job y140 410 then none else
          jl (jas s156 9 y140 (jag s156 16 y141)) fun s159 =>
          some (x145, s159)
        else
        some (x145, s146)
      else
      some (x145, s146)
      ) jFuel r120.2 y96 y97 y98 y99 x102 r120.1
    ) jFuel r94.2 a1 a2 a3 x3 0
set_option maxHeartbeats 4000000 in
set_option maxRecDepth 100000 in
theorem w_X6_lookRule_115 {ad : Nat → Nat} {cI cZ : ClassId} {p : Program} {l : Launch} {e : Env} {s : State} {m : MethodId} {args : Array Value} {below : List Frame} {meth : Method} {c : Code} {D : va_G} {A : Nat → Prop} {o : (Int32 × jS)} {d : Nat} {lk : jS → Int32 → Int32 → Int32 → Option (Int32 × jS)} (hlk : ∀ (st : jS) (a b c : Int32) (r : Int32 × jS), lk st a b c = some r → CtI l D (jT cI cZ) (wM ad cI cZ) yX6_look wsX6_look (rmML d) [.ref (ad 0), .int a, .int b, .int c] st r.1 r.2) (E : jE p s m args meth c cX6_lookRule 7 RX6 wsX6_lookRule D (jT cI cZ) A) (hr : meth.sig.returnType = (some .int)) {K : jS → Int32 → Int32 → Int32 → Int32 → Int32 → Option (Int32 × jS)} (hK : ∀ (st : jS) (v1 : Int32) (v2 : Int32) (v3 : Int32) (v4 : Int32) (v5 : Int32), K st v1 v2 v3 v4 v5 = some o → J p l e (rm_X6_lookRule d) s m args below meth c 7 D A (wM ad cI cZ) (jZI D (wM ad cI cZ) A below args s o) 0 0 st 159 [(0, .ref (ad 0)), (1, .int v1), (2, .int v2), (3, .int v3), (4, .int v4), (5, .int v5)] []) :
    ∀ (n : Nat) (st : jS) (v1 : Int32) (v2 : Int32) (v3 : Int32) (v4 : Int32) (v5 : Int32), f_X6_lookRule_115 lk K n st v1 v2 v3 v4 v5 = some o → J p l e (rm_X6_lookRule d) s m args below meth c 7 D A (wM ad cI cZ) (jZI D (wM ad cI cZ) A below args s o) 0 0 st 115 [(0, .ref (ad 0)), (1, .int v1), (2, .int v2), (3, .int v3), (4, .int v4), (5, .int v5)] [] := by
  intro n
  induction n with
  | zero => intro st v1 v2 v3 v4 v5 h; cases h
  | succ n ih =>
    intro st v1 v2 v3 v4 v5 h
    rw [f_X6_lookRule_115] at h
    refine j_iload E 5 rfl dX6_lookRule_115 ?_
    refine j_aload_n E 0 rfl rfl dX6_lookRule_117 ?_
    refine j_get E 0 (wM_g0 ad cI cZ _) rfl 12 rfl in_X6_lookRule_X6 (by decide) (List.mem_of_getElem? (i := 5) rfl) (fun _ h9 => h9) dX6_lookRule_118 ?_
    refine j_icmp_ge E (tgt := 159) (by decide) dX6_lookRule_121 (fun c6 => ?_) (fun c6 => ?_)
    · have h := jit h c6
      refine j_sub [0, 1, 2, 3, 4, 5] (lv' := [(0, .ref (ad 0)), (1, .int v1), (2, .int v2), (3, .int v3), (4, .int v4), (5, .int v5)]) rfl ?_
      exact hK _ _ _ _ _ _ h
    · have h := jif h c6
      refine j_aload_n E 0 rfl rfl dX6_lookRule_124 ?_
      refine j_get E 0 (wM_g0 ad cI cZ _) rfl 13 rfl in_X6_lookRule_X6 (by decide) (List.mem_of_getElem? (i := 13) rfl) (fun _ h9 => h9) dX6_lookRule_125 ?_
      refine j_iload E 5 rfl dX6_lookRule_128 ?_
      obtain ⟨b7, h⟩ := job_else h
      refine j_iald E 10 0 (wM_g10 ad cI cZ _) rfl b7 dX6_lookRule_130 ?_
      refine j_iload_n E 1 rfl rfl dX6_lookRule_131 ?_
      refine j_icmp_ne E (tgt := 153) (by decide) dX6_lookRule_132 (fun c8 => ?_) (fun c8 => ?_)
      · have h := jif h c8
        obtain ⟨x9, ex9, h⟩ := jle h
        refine j_iinc E 5 rfl kc_1 ex9 (by decide) (lv' := [(5, .int x9), (0, .ref (ad 0)), (1, .int v1), (2, .int v2), (3, .int v3), (4, .int v4)]) rfl dX6_lookRule_153 ?_
        refine j_goto E (tgt := 115) (by decide) dX6_lookRule_156 ?_
        refine j_sub [1, 2, 3, 4, 5, 0] (lv' := [(0, .ref (ad 0)), (1, .int v1), (2, .int v2), (3, .int v3), (4, .int v4), (5, .int x9)]) rfl ?_
        exact ih _ _ _ _ _ _ h
      · have h := jit h c8
        refine j_aload_n E 0 rfl rfl dX6_lookRule_135 ?_
        refine j_get E 0 (wM_g0 ad cI cZ _) rfl 14 rfl in_X6_lookRule_X6 (by decide) (List.mem_of_getElem? (i := 14) rfl) (fun _ h9 => h9) dX6_lookRule_136 ?_
        refine j_iload E 5 rfl dX6_lookRule_139 ?_
        obtain ⟨b10, h⟩ := job_else h
        refine j_iald E 11 0 (wM_g11 ad cI cZ _) rfl b10 dX6_lookRule_141 ?_
        refine j_iload_n E 2 rfl rfl dX6_lookRule_142 ?_
        refine j_icmp_ne E (tgt := 153) (by decide) dX6_lookRule_143 (fun c11 => ?_) (fun c11 => ?_)
        · have h := jif h c11
          obtain ⟨x12, ex12, h⟩ := jle h
          refine j_iinc E 5 rfl kc_1 ex12 (by decide) (lv' := [(5, .int x12), (0, .ref (ad 0)), (1, .int v1), (2, .int v2), (3, .int v3), (4, .int v4)]) rfl dX6_lookRule_153 ?_
          refine j_goto E (tgt := 115) (by decide) dX6_lookRule_156 ?_
          refine j_sub [1, 2, 3, 4, 5, 0] (lv' := [(0, .ref (ad 0)), (1, .int v1), (2, .int v2), (3, .int v3), (4, .int v4), (5, .int x12)]) rfl ?_
          exact ih _ _ _ _ _ _ h
        · have h := jit h c11
          refine j_aload_n E 0 rfl rfl dX6_lookRule_146 ?_
          refine j_iload E 5 rfl dX6_lookRule_147 ?_
          obtain ⟨r13, er13, h⟩ := jbd h
          refine j_callVi E (As := [.int v5]) (c_X6_ask er13) (cwV 1 E.1.2.2.2.2 gX6_lookRule_X6_ask rfl rfl rfl (by decide +kernel) ⟨rk1_rmMF d _ (Nat.le_of_ble_eq_true rfl), rk2_rmMF d _ (Nat.le_of_ble_eq_true rfl)⟩) (wM_g0 ad cI cZ _) rfl rfl rfl (Nat.le_of_ble_eq_true rfl) ⟨Nat.zero_le _, Nat.zero_le _⟩ dX6_lookRule_149 ?_
          exact j_iret E hr rfl (Option.some.inj h) dX6_lookRule_152
set_option maxHeartbeats 4000000 in
set_option maxRecDepth 100000 in
theorem w_X6_lookRule_265 {ad : Nat → Nat} {cI cZ : ClassId} {p : Program} {l : Launch} {e : Env} {s : State} {m : MethodId} {args : Array Value} {below : List Frame} {meth : Method} {c : Code} {D : va_G} {A : Nat → Prop} {o : (Int32 × jS)} {d : Nat} {lk : jS → Int32 → Int32 → Int32 → Option (Int32 × jS)} (hlk : ∀ (st : jS) (a b c : Int32) (r : Int32 × jS), lk st a b c = some r → CtI l D (jT cI cZ) (wM ad cI cZ) yX6_look wsX6_look (rmML d) [.ref (ad 0), .int a, .int b, .int c] st r.1 r.2) (E : jE p s m args meth c cX6_lookRule 7 RX6 wsX6_lookRule D (jT cI cZ) A) (hr : meth.sig.returnType = (some .int)) {K : jS → Int32 → Int32 → Int32 → Int32 → Int32 → Int32 → Option (Int32 × jS)} (hK : ∀ (st : jS) (v1 : Int32) (v2 : Int32) (v3 : Int32) (v4 : Int32) (v5 : Int32) (v6 : Int32), K st v1 v2 v3 v4 v5 v6 = some o → J p l e (rm_X6_lookRule d) s m args below meth c 7 D A (wM ad cI cZ) (jZI D (wM ad cI cZ) A below args s o) 0 0 st 339 [(0, .ref (ad 0)), (1, .int v1), (2, .int v2), (3, .int v3), (4, .int v4), (5, .int v5), (6, .int v6)] []) :
    ∀ (n : Nat) (st : jS) (v1 : Int32) (v2 : Int32) (v3 : Int32) (v4 : Int32) (v5 : Int32) (v6 : Int32), f_X6_lookRule_265 lk K n st v1 v2 v3 v4 v5 v6 = some o → J p l e (rm_X6_lookRule d) s m args below meth c 7 D A (wM ad cI cZ) (jZI D (wM ad cI cZ) A below args s o) 0 0 st 265 [(0, .ref (ad 0)), (1, .int v1), (2, .int v2), (3, .int v3), (4, .int v4), (5, .int v5), (6, .int v6)] [] := by
  intro n
  induction n with
  | zero => intro st v1 v2 v3 v4 v5 v6 h; cases h
  | succ n ih =>
    intro st v1 v2 v3 v4 v5 v6 h
    rw [f_X6_lookRule_265] at h
    refine j_iload E 6 rfl dX6_lookRule_265 ?_
    refine j_iconst E (kc_m1) dX6_lookRule_267 ?_
    refine j_icmp_eq E (tgt := 339) (by decide) dX6_lookRule_268 (fun c55 => ?_) (fun c55 => ?_)
    · have h := jit h c55
      refine j_sub [0, 1, 2, 3, 4, 5, 6] (lv' := [(0, .ref (ad 0)), (1, .int v1), (2, .int v2), (3, .int v3), (4, .int v4), (5, .int v5), (6, .int v6)]) rfl ?_
      exact hK _ _ _ _ _ _ _ h
    · have h := jif h c55
      refine j_aload_n E 0 rfl rfl dX6_lookRule_271 ?_
      refine j_get E 0 (wM_g0 ad cI cZ _) rfl 20 rfl in_X6_lookRule_X6 (by decide) (List.mem_of_getElem? (i := 19) rfl) (fun _ h9 => h9) dX6_lookRule_272 ?_
      refine j_if_ne E (tgt := 339) (by decide) dX6_lookRule_275 (fun c56 => ?_) (fun c56 => ?_)
      · have h := jif h c56
        refine j_sub [0, 1, 2, 3, 4, 5, 6] (lv' := [(0, .ref (ad 0)), (1, .int v1), (2, .int v2), (3, .int v3), (4, .int v4), (5, .int v5), (6, .int v6)]) rfl ?_
        exact hK _ _ _ _ _ _ _ h
      · have h := jit h c56
        refine j_aload_n E 0 rfl rfl dX6_lookRule_278 ?_
        refine j_get E 0 (wM_g0 ad cI cZ _) rfl 15 rfl in_X6_lookRule_X6 (by decide) (List.mem_of_getElem? (i := 15) rfl) (fun _ h9 => h9) dX6_lookRule_279 ?_
        refine j_iload E 5 rfl dX6_lookRule_282 ?_
        obtain ⟨b57, h⟩ := job_else h
        refine j_iald E 12 0 (wM_g12 ad cI cZ _) rfl b57 dX6_lookRule_284 ?_
        refine j_iconst E (kc_m1) dX6_lookRule_285 ?_
        refine j_icmp_eq E (tgt := 301) (by decide) dX6_lookRule_286 (fun c58 => ?_) (fun c58 => ?_)
        · have h := jit h c58
          refine j_aload_n E 0 rfl rfl dX6_lookRule_301 ?_
          refine j_get E 0 (wM_g0 ad cI cZ _) rfl 15 rfl in_X6_lookRule_X6 (by decide) (List.mem_of_getElem? (i := 15) rfl) (fun _ h9 => h9) dX6_lookRule_302 ?_
          refine j_iload E 5 rfl dX6_lookRule_305 ?_
          refine j_iload E 6 rfl dX6_lookRule_307 ?_
          obtain ⟨b59, h⟩ := job_else h
          obtain ⟨s60, es60, h⟩ := jle h
          refine j_iast E 12 0 (wM_g12 ad cI cZ _) rfl (wM_s12 ad cI cZ _ _) b59 dX6_lookRule_309 ?_
          refine j_st es60 ?_
          refine j_aload_n E 0 rfl rfl dX6_lookRule_310 ?_
          refine j_dup E rfl dX6_lookRule_311 ?_
          refine j_get E 0 (wM_g0 ad cI cZ _) rfl 24 rfl in_X6_lookRule_X6 (by decide) (List.mem_of_getElem? (i := 20) rfl) (fun _ h9 => h9) dX6_lookRule_312 ?_
          refine j_iconst E (kc_1) dX6_lookRule_315 ?_
          refine j_iadd E dX6_lookRule_316 ?_
          obtain ⟨s61, es61, h⟩ := jle h
          refine j_put E 0 (wM_g0 ad cI cZ _) rfl 24 (ty := .int) (wM_p0_24 ad cI cZ _ _) tyX6_ok nmX6 in_X6_lookRule_X6 (by decide) (List.mem_of_getElem? (i := 20) rfl) (fun _ h9 => h9) rfl (tyX6_ok 24 (by decide)) rfl rfl (Nat.le_of_ble_eq_true rfl) dX6_lookRule_317 ?_
          refine j_st es61 ?_
          refine j_aload_n E 0 rfl rfl dX6_lookRule_320 ?_
          refine j_aload_n E 0 rfl rfl dX6_lookRule_321 ?_
          refine j_get E 0 (wM_g0 ad cI cZ _) rfl 5 rfl in_X6_lookRule_X6 (by decide) (List.mem_of_getElem? (i := 1) rfl) (fun _ h9 => h9) dX6_lookRule_322 ?_
          refine j_iload_n E 1 rfl rfl dX6_lookRule_325 ?_
          obtain ⟨b62, h⟩ := job_else h
          refine j_iald E 4 0 (wM_g4 ad cI cZ _) rfl b62 dX6_lookRule_326 ?_
          refine j_iload_n E 2 rfl rfl dX6_lookRule_327 ?_
          refine j_iload_n E 3 rfl rfl dX6_lookRule_328 ?_
          refine j_iconst E (kc_1) dX6_lookRule_329 ?_
          refine j_iadd E dX6_lookRule_330 ?_
          obtain ⟨r63, er63, h⟩ := jbd h
          refine j_callVi E (As := [.int (jag s61 4 v1), .int v2, .int (v3 + 1)]) (hlk _ _ _ _ _ er63) (cwV 3 E.1.2.2.2.2 gX6_lookRule_X6_look rfl rfl rfl (by decide +kernel) (rk_X6_lookRule_X6_look d)) (wM_g0 ad cI cZ _) rfl rfl rfl (Nat.le_of_ble_eq_true rfl) ⟨Nat.zero_le _, Nat.zero_le _⟩ dX6_lookRule_331 ?_
          refine j_istore E (by decide) (lv' := [(6, .int r63.1), (0, .ref (ad 0)), (1, .int v1), (2, .int v2), (3, .int v3), (4, .int v4), (5, .int v5)]) rfl dX6_lookRule_334 ?_
          refine j_goto E (tgt := 265) (by decide) dX6_lookRule_336 ?_
          refine j_sub [1, 2, 3, 4, 5, 6, 0] (lv' := [(0, .ref (ad 0)), (1, .int v1), (2, .int v2), (3, .int v3), (4, .int v4), (5, .int v5), (6, .int r63.1)]) rfl ?_
          exact ih _ _ _ _ _ _ _ h
        · have h := jif h c58
          refine j_aload_n E 0 rfl rfl dX6_lookRule_289 ?_
          refine j_get E 0 (wM_g0 ad cI cZ _) rfl 15 rfl in_X6_lookRule_X6 (by decide) (List.mem_of_getElem? (i := 15) rfl) (fun _ h9 => h9) dX6_lookRule_290 ?_
          refine j_iload E 5 rfl dX6_lookRule_293 ?_
          obtain ⟨b64, h⟩ := job_else h
          refine j_iald E 12 0 (wM_g12 ad cI cZ _) rfl b64 dX6_lookRule_295 ?_
          refine j_iload E 6 rfl dX6_lookRule_296 ?_
          refine j_icmp_ge E (tgt := 339) (by decide) dX6_lookRule_298 (fun c65 => ?_) (fun c65 => ?_)
          · have h := jit h c65
            refine j_sub [0, 1, 2, 3, 4, 5, 6] (lv' := [(0, .ref (ad 0)), (1, .int v1), (2, .int v2), (3, .int v3), (4, .int v4), (5, .int v5), (6, .int v6)]) rfl ?_
            exact hK _ _ _ _ _ _ _ h
          · have h := jif h c65
            refine j_aload_n E 0 rfl rfl dX6_lookRule_301 ?_
            refine j_get E 0 (wM_g0 ad cI cZ _) rfl 15 rfl in_X6_lookRule_X6 (by decide) (List.mem_of_getElem? (i := 15) rfl) (fun _ h9 => h9) dX6_lookRule_302 ?_
            refine j_iload E 5 rfl dX6_lookRule_305 ?_
            refine j_iload E 6 rfl dX6_lookRule_307 ?_
            obtain ⟨b66, h⟩ := job_else h
            obtain ⟨s67, es67, h⟩ := jle h
            refine j_iast E 12 0 (wM_g12 ad cI cZ _) rfl (wM_s12 ad cI cZ _ _) b66 dX6_lookRule_309 ?_
            refine j_st es67 ?_
            refine j_aload_n E 0 rfl rfl dX6_lookRule_310 ?_
            refine j_dup E rfl dX6_lookRule_311 ?_
            refine j_get E 0 (wM_g0 ad cI cZ _) rfl 24 rfl in_X6_lookRule_X6 (by decide) (List.mem_of_getElem? (i := 20) rfl) (fun _ h9 => h9) dX6_lookRule_312 ?_
            refine j_iconst E (kc_1) dX6_lookRule_315 ?_
            refine j_iadd E dX6_lookRule_316 ?_
            obtain ⟨s68, es68, h⟩ := jle h
            refine j_put E 0 (wM_g0 ad cI cZ _) rfl 24 (ty := .int) (wM_p0_24 ad cI cZ _ _) tyX6_ok nmX6 in_X6_lookRule_X6 (by decide) (List.mem_of_getElem? (i := 20) rfl) (fun _ h9 => h9) rfl (tyX6_ok 24 (by decide)) rfl rfl (Nat.le_of_ble_eq_true rfl) dX6_lookRule_317 ?_
            refine j_st es68 ?_
            refine j_aload_n E 0 rfl rfl dX6_lookRule_320 ?_
            refine j_aload_n E 0 rfl rfl dX6_lookRule_321 ?_
            refine j_get E 0 (wM_g0 ad cI cZ _) rfl 5 rfl in_X6_lookRule_X6 (by decide) (List.mem_of_getElem? (i := 1) rfl) (fun _ h9 => h9) dX6_lookRule_322 ?_
            refine j_iload_n E 1 rfl rfl dX6_lookRule_325 ?_
            obtain ⟨b69, h⟩ := job_else h
            refine j_iald E 4 0 (wM_g4 ad cI cZ _) rfl b69 dX6_lookRule_326 ?_
            refine j_iload_n E 2 rfl rfl dX6_lookRule_327 ?_
            refine j_iload_n E 3 rfl rfl dX6_lookRule_328 ?_
            refine j_iconst E (kc_1) dX6_lookRule_329 ?_
            refine j_iadd E dX6_lookRule_330 ?_
            obtain ⟨r70, er70, h⟩ := jbd h
            refine j_callVi E (As := [.int (jag s68 4 v1), .int v2, .int (v3 + 1)]) (hlk _ _ _ _ _ er70) (cwV 3 E.1.2.2.2.2 gX6_lookRule_X6_look rfl rfl rfl (by decide +kernel) (rk_X6_lookRule_X6_look d)) (wM_g0 ad cI cZ _) rfl rfl rfl (Nat.le_of_ble_eq_true rfl) ⟨Nat.zero_le _, Nat.zero_le _⟩ dX6_lookRule_331 ?_
            refine j_istore E (by decide) (lv' := [(6, .int r70.1), (0, .ref (ad 0)), (1, .int v1), (2, .int v2), (3, .int v3), (4, .int v4), (5, .int v5)]) rfl dX6_lookRule_334 ?_
            refine j_goto E (tgt := 265) (by decide) dX6_lookRule_336 ?_
            refine j_sub [1, 2, 3, 4, 5, 6, 0] (lv' := [(0, .ref (ad 0)), (1, .int v1), (2, .int v2), (3, .int v3), (4, .int v4), (5, .int v5), (6, .int r70.1)]) rfl ?_
            exact ih _ _ _ _ _ _ _ h
set_option maxHeartbeats 4000000 in
set_option maxRecDepth 100000 in
theorem w_X6_lookRule_65 {ad : Nat → Nat} {cI cZ : ClassId} {p : Program} {l : Launch} {e : Env} {s : State} {m : MethodId} {args : Array Value} {below : List Frame} {meth : Method} {c : Code} {D : va_G} {A : Nat → Prop} {o : (Int32 × jS)} {d : Nat} {lk : jS → Int32 → Int32 → Int32 → Option (Int32 × jS)} (hlk : ∀ (st : jS) (a b c : Int32) (r : Int32 × jS), lk st a b c = some r → CtI l D (jT cI cZ) (wM ad cI cZ) yX6_look wsX6_look (rmML d) [.ref (ad 0), .int a, .int b, .int c] st r.1 r.2) (E : jE p s m args meth c cX6_lookRule 7 RX6 wsX6_lookRule D (jT cI cZ) A) (hr : meth.sig.returnType = (some .int)) {K : jS → Int32 → Int32 → Int32 → Int32 → Int32 → Option (Int32 × jS)} (hK : ∀ (st : jS) (v1 : Int32) (v2 : Int32) (v3 : Int32) (v4 : Int32) (v5 : Int32), K st v1 v2 v3 v4 v5 = some o → J p l e (rm_X6_lookRule d) s m args below meth c 7 D A (wM ad cI cZ) (jZI D (wM ad cI cZ) A below args s o) 0 0 st 104 [(0, .ref (ad 0)), (1, .int v1), (2, .int v2), (3, .int v3), (4, .int v4), (5, .int v5)] []) :
    ∀ (n : Nat) (st : jS) (v1 : Int32) (v2 : Int32) (v3 : Int32) (v4 : Int32) (v5 : Int32), f_X6_lookRule_65 lk K n st v1 v2 v3 v4 v5 = some o → J p l e (rm_X6_lookRule d) s m args below meth c 7 D A (wM ad cI cZ) (jZI D (wM ad cI cZ) A below args s o) 0 0 st 65 [(0, .ref (ad 0)), (1, .int v1), (2, .int v2), (3, .int v3), (4, .int v4), (5, .int v5)] [] := by
  intro n
  induction n with
  | zero => intro st v1 v2 v3 v4 v5 h; cases h
  | succ n ih =>
    intro st v1 v2 v3 v4 v5 h
    rw [f_X6_lookRule_65] at h
    refine j_iload E 5 rfl dX6_lookRule_65 ?_
    refine j_aload_n E 0 rfl rfl dX6_lookRule_67 ?_
    refine j_get E 0 (wM_g0 ad cI cZ _) rfl 12 rfl in_X6_lookRule_X6 (by decide) (List.mem_of_getElem? (i := 5) rfl) (fun _ h9 => h9) dX6_lookRule_68 ?_
    refine j_icmp_ge E (tgt := 104) (by decide) dX6_lookRule_71 (fun c163 => ?_) (fun c163 => ?_)
    · have h := jit h c163
      refine j_sub [0, 1, 2, 3, 4, 5] (lv' := [(0, .ref (ad 0)), (1, .int v1), (2, .int v2), (3, .int v3), (4, .int v4), (5, .int v5)]) rfl ?_
      exact hK _ _ _ _ _ _ h
    · have h := jif h c163
      refine j_aload_n E 0 rfl rfl dX6_lookRule_74 ?_
      refine j_get E 0 (wM_g0 ad cI cZ _) rfl 18 rfl in_X6_lookRule_X6 (by decide) (List.mem_of_getElem? (i := 6) rfl) (fun _ h9 => h9) dX6_lookRule_75 ?_
      refine j_iload E 5 rfl dX6_lookRule_78 ?_
      refine j_aload_n E 0 rfl rfl dX6_lookRule_80 ?_
      refine j_get E 0 (wM_g0 ad cI cZ _) rfl 18 rfl in_X6_lookRule_X6 (by decide) (List.mem_of_getElem? (i := 6) rfl) (fun _ h9 => h9) dX6_lookRule_81 ?_
      refine j_iload E 5 rfl dX6_lookRule_84 ?_
      obtain ⟨b164, h⟩ := job_else h
      refine j_iald E 15 0 (wM_g15 ad cI cZ _) rfl b164 dX6_lookRule_86 ?_
      refine j_aload_n E 0 rfl rfl dX6_lookRule_87 ?_
      refine j_get E 0 (wM_g0 ad cI cZ _) rfl 10 rfl in_X6_lookRule_X6 (by decide) (List.mem_of_getElem? (i := 7) rfl) (fun _ h9 => h9) dX6_lookRule_88 ?_
      refine j_iload E 4 rfl dX6_lookRule_91 ?_
      obtain ⟨b165, h⟩ := job_else h
      refine j_iald E 8 0 (wM_g8 ad cI cZ _) rfl b165 dX6_lookRule_93 ?_
      refine j_mmax E (List.mem_of_getElem? (i := 8) rfl) (List.mem_of_getElem? (i := 9) rfl) (List.mem_of_getElem? (i := 10) rfl) (List.mem_of_getElem? (i := 11) rfl) (Nat.le_of_ble_eq_true rfl) (Nat.le_of_ble_eq_true rfl) ⟨Nat.zero_le _, Nat.zero_le _⟩ dX6_lookRule_94 ?_
      obtain ⟨b166, h⟩ := job_else h
      obtain ⟨s167, es167, h⟩ := jle h
      refine j_iast E 15 0 (wM_g15 ad cI cZ _) rfl (wM_s15 ad cI cZ _ _) b166 dX6_lookRule_97 ?_
      refine j_st es167 ?_
      obtain ⟨x168, ex168, h⟩ := jle h
      refine j_iinc E 5 rfl kc_1 ex168 (by decide) (lv' := [(5, .int x168), (0, .ref (ad 0)), (1, .int v1), (2, .int v2), (3, .int v3), (4, .int v4)]) rfl dX6_lookRule_98 ?_
      refine j_goto E (tgt := 65) (by decide) dX6_lookRule_101 ?_
      refine j_sub [1, 2, 3, 4, 5, 0] (lv' := [(0, .ref (ad 0)), (1, .int v1), (2, .int v2), (3, .int v3), (4, .int v4), (5, .int x168)]) rfl ?_
      exact ih _ _ _ _ _ _ h
set_option maxHeartbeats 4000000 in
set_option maxRecDepth 100000 in
theorem c_X6_lookRule {l : Launch} {D : va_G} {ad : Nat → Nat} {cI cZ : ClassId} {st : jS} {a1 : Int32} {a2 : Int32} {a3 : Int32} {o : (Int32 × jS)} {d : Nat} {lk : jS → Int32 → Int32 → Int32 → Option (Int32 × jS)} (hlk : ∀ (st : jS) (a b c : Int32) (r : Int32 × jS), lk st a b c = some r → CtI l D (jT cI cZ) (wM ad cI cZ) yX6_look wsX6_look (rmML d) [.ref (ad 0), .int a, .int b, .int c] st r.1 r.2) (h : f_X6_lookRule lk st a1 a2 a3 = some o) : CtI l D (jT cI cZ) (wM ad cI cZ) yX6_lookRule wsX6_lookRule (rm_X6_lookRule d) [.ref (ad 0), .int a1, .int a2, .int a3] st o.1 o.2 := by
  refine ctI_of (o := o) (cc := cX6_lookRule) (nL := 7) (own := RX6) (by decide) rfl rfl (Nat.le_of_ble_eq_true rfl) (lv0 := [(0, .ref (ad 0)), (1, .int a1), (2, .int a2), (3, .int a3)]) rfl ?_
  intro p e s m args below meth c A E hr
  rw [f_X6_lookRule] at h
  refine j_aload_n E 0 rfl rfl dX6_lookRule_0 ?_
  refine j_get E 0 (wM_g0 ad cI cZ _) rfl 5 rfl in_X6_lookRule_X6 (by decide) (List.mem_of_getElem? (i := 1) rfl) (fun _ h9 => h9) dX6_lookRule_1 ?_
  refine j_iload_n E 1 rfl rfl dX6_lookRule_4 ?_
  obtain ⟨b1, h⟩ := job_else h
  refine j_iald E 4 0 (wM_g4 ad cI cZ _) rfl b1 dX6_lookRule_5 ?_
  refine j_iconst E (kc_m1) dX6_lookRule_6 ?_
  refine j_icmp_ne E (tgt := 12) (by decide) dX6_lookRule_7 (fun c2 => ?_) (fun c2 => ?_)
  · have h := jif h c2
    refine j_bipush E (kb_41) dX6_lookRule_12 ?_
    refine j_iload_n E 1 rfl rfl dX6_lookRule_14 ?_
    refine j_imul E dX6_lookRule_15 ?_
    refine j_iload_n E 2 rfl rfl dX6_lookRule_16 ?_
    refine j_iadd E dX6_lookRule_17 ?_
    obtain ⟨x3, ex3, h⟩ := jle h
    refine j_topi ex3 ?_
    refine j_istore E (by decide) (lv' := [(4, .int x3), (0, .ref (ad 0)), (1, .int a1), (2, .int a2), (3, .int a3)]) rfl dX6_lookRule_18 ?_
    refine j_aload_n E 1 rfl rfl dX6_lookRule_20 ?_
    refine j_get E 0 (wM_g0 ad cI cZ _) rfl 8 rfl in_X6_lookRule_X6 (by decide) (List.mem_of_getElem? (i := 2) rfl) (fun _ h9 => h9) dX6_lookRule_21 ?_
    refine j_iload E 0 rfl dX6_lookRule_24 ?_
    obtain ⟨b4, h⟩ := job_else h
    refine j_zald E 6 1 (wM_g6 ad cI cZ _) rfl b4 dX6_lookRule_26 ?_
    refine j_if_eq E (tgt := 112) (by decide) dX6_lookRule_27 (fun c5 => ?_) (fun c5 => ?_)
    · have h := jit h c5
      refine j_iconst E (kc_0) dX6_lookRule_112 ?_
      refine j_istore E (by decide) (lv' := [(5, .int 0), (4, .int x3), (0, .ref (ad 0)), (1, .int a1), (2, .int a2), (3, .int a3)]) rfl dX6_lookRule_113 ?_
      refine j_sub [2, 3, 4, 5, 1, 0] (lv' := [(0, .ref (ad 0)), (1, .int a1), (2, .int a2), (3, .int a3), (4, .int x3), (5, .int 0)]) rfl ?_
      refine w_X6_lookRule_115 hlk E hr (fun s19 y14 y15 y16 y17 y18 h => ?_) _ _ _ _ _ _ _ h
      refine j_aload_n E 0 rfl rfl dX6_lookRule_159 ?_
      refine j_get E 0 (wM_g0 ad cI cZ _) rfl 12 rfl in_X6_lookRule_X6 (by decide) (List.mem_of_getElem? (i := 5) rfl) (fun _ h9 => h9) dX6_lookRule_160 ?_
      obtain ⟨x20, ex20, h⟩ := jle h
      refine j_topi ex20 ?_
      refine j_istore E (by decide) (lv' := [(5, .int x20), (0, .ref (ad 0)), (1, .int y14), (2, .int y15), (3, .int y16), (4, .int y17)]) rfl dX6_lookRule_163 ?_
      refine j_aload_n E 1 rfl rfl dX6_lookRule_165 ?_
      refine j_dup E rfl dX6_lookRule_166 ?_
      refine j_get E 0 (wM_g0 ad cI cZ _) rfl 12 rfl in_X6_lookRule_X6 (by decide) (List.mem_of_getElem? (i := 5) rfl) (fun _ h9 => h9) dX6_lookRule_167 ?_
      refine j_iconst E (kc_1) dX6_lookRule_170 ?_
      refine j_iadd E dX6_lookRule_171 ?_
      obtain ⟨s21, es21, h⟩ := jle h
      refine j_put E 0 (wM_g0 ad cI cZ _) rfl 12 (ty := .int) (wM_p0_12 ad cI cZ _ _) tyX6_ok nmX6 in_X6_lookRule_X6 (by decide) (List.mem_of_getElem? (i := 5) rfl) (fun _ h9 => h9) rfl (tyX6_ok 12 (by decide)) rfl rfl (Nat.le_of_ble_eq_true rfl) dX6_lookRule_172 ?_
      refine j_st es21 ?_
      refine j_aload_n E 1 rfl rfl dX6_lookRule_175 ?_
      refine j_get E 0 (wM_g0 ad cI cZ _) rfl 13 rfl in_X6_lookRule_X6 (by decide) (List.mem_of_getElem? (i := 13) rfl) (fun _ h9 => h9) dX6_lookRule_176 ?_
      refine j_iload E 0 rfl dX6_lookRule_179 ?_
      refine j_iload_n E 2 rfl rfl dX6_lookRule_181 ?_
      obtain ⟨b22, h⟩ := job_else h
      obtain ⟨s23, es23, h⟩ := jle h
      refine j_iast E 10 0 (wM_g10 ad cI cZ _) rfl (wM_s10 ad cI cZ _ _) b22 dX6_lookRule_182 ?_
      refine j_st es23 ?_
      refine j_aload_n E 1 rfl rfl dX6_lookRule_183 ?_
      refine j_get E 0 (wM_g0 ad cI cZ _) rfl 14 rfl in_X6_lookRule_X6 (by decide) (List.mem_of_getElem? (i := 14) rfl) (fun _ h9 => h9) dX6_lookRule_184 ?_
      refine j_iload E 0 rfl dX6_lookRule_187 ?_
      refine j_iload_n E 3 rfl rfl dX6_lookRule_189 ?_
      obtain ⟨b24, h⟩ := job_else h
      obtain ⟨s25, es25, h⟩ := jle h
      refine j_iast E 11 0 (wM_g11 ad cI cZ _) rfl (wM_s11 ad cI cZ _ _) b24 dX6_lookRule_190 ?_
      refine j_st es25 ?_
      refine j_aload_n E 1 rfl rfl dX6_lookRule_191 ?_
      refine j_get E 0 (wM_g0 ad cI cZ _) rfl 15 rfl in_X6_lookRule_X6 (by decide) (List.mem_of_getElem? (i := 15) rfl) (fun _ h9 => h9) dX6_lookRule_192 ?_
      refine j_iload E 0 rfl dX6_lookRule_195 ?_
      refine j_iconst E (kc_m1) dX6_lookRule_197 ?_
      obtain ⟨b26, h⟩ := job_else h
      obtain ⟨s27, es27, h⟩ := jle h
      refine j_iast E 12 0 (wM_g12 ad cI cZ _) rfl (wM_s12 ad cI cZ _ _) b26 dX6_lookRule_198 ?_
      refine j_st es27 ?_
      refine j_aload_n E 1 rfl rfl dX6_lookRule_199 ?_
      refine j_get E 0 (wM_g0 ad cI cZ _) rfl 16 rfl in_X6_lookRule_X6 (by decide) (List.mem_of_getElem? (i := 16) rfl) (fun _ h9 => h9) dX6_lookRule_200 ?_
      refine j_iload E 0 rfl dX6_lookRule_203 ?_
      refine j_iconst E (kc_0) dX6_lookRule_205 ?_
      obtain ⟨b28, h⟩ := job_else h
      obtain ⟨s29, es29, h⟩ := jle h
      refine j_zast E 13 1 (wM_g13 ad cI cZ _) rfl (wM_s13 ad cI cZ _ _) b28 dX6_lookRule_206 ?_
      refine j_st es29 ?_
      refine j_aload_n E 1 rfl rfl dX6_lookRule_207 ?_
      refine j_get E 0 (wM_g0 ad cI cZ _) rfl 17 rfl in_X6_lookRule_X6 (by decide) (List.mem_of_getElem? (i := 17) rfl) (fun _ h9 => h9) dX6_lookRule_208 ?_
      refine j_iload E 0 rfl dX6_lookRule_211 ?_
      refine j_iconst E (kc_0) dX6_lookRule_213 ?_
      obtain ⟨b30, h⟩ := job_else h
      obtain ⟨s31, es31, h⟩ := jle h
      refine j_zast E 14 1 (wM_g14 ad cI cZ _) rfl (wM_s14 ad cI cZ _ _) b30 dX6_lookRule_214 ?_
      refine j_st es31 ?_
      refine j_aload_n E 1 rfl rfl dX6_lookRule_215 ?_
      refine j_get E 0 (wM_g0 ad cI cZ _) rfl 18 rfl in_X6_lookRule_X6 (by decide) (List.mem_of_getElem? (i := 6) rfl) (fun _ h9 => h9) dX6_lookRule_216 ?_
      refine j_iload E 0 rfl dX6_lookRule_219 ?_
      refine j_iload_n E 3 rfl rfl dX6_lookRule_221 ?_
      obtain ⟨b32, h⟩ := job_else h
      obtain ⟨s33, es33, h⟩ := jle h
      refine j_iast E 15 0 (wM_g15 ad cI cZ _) rfl (wM_s15 ad cI cZ _ _) b32 dX6_lookRule_222 ?_
      refine j_st es33 ?_
      refine j_aload_n E 1 rfl rfl dX6_lookRule_223 ?_
      refine j_get E 0 (wM_g0 ad cI cZ _) rfl 19 rfl in_X6_lookRule_X6 (by decide) (List.mem_of_getElem? (i := 18) rfl) (fun _ h9 => h9) dX6_lookRule_224 ?_
      refine j_iload E 0 rfl dX6_lookRule_227 ?_
      refine j_iconst E (kc_0) dX6_lookRule_229 ?_
      obtain ⟨b34, h⟩ := job_else h
      obtain ⟨s35, es35, h⟩ := jle h
      refine j_iast E 16 0 (wM_g16 ad cI cZ _) rfl (wM_s16 ad cI cZ _ _) b34 dX6_lookRule_230 ?_
      refine j_st es35 ?_
      refine j_aload_n E 1 rfl rfl dX6_lookRule_231 ?_
      refine j_iconst E (kc_1) dX6_lookRule_232 ?_
      refine j_iload_n E 2 rfl rfl dX6_lookRule_233 ?_
      refine j_ishl E dX6_lookRule_234 ?_
      refine j_iload_n E 3 rfl rfl dX6_lookRule_235 ?_
      obtain ⟨r36, er36, h⟩ := jbd h
      refine j_callVv E (As := [.int (1 <<< (y14 &&& 31)), .int y15]) (c_X6_name er36) (cwV 2 E.1.2.2.2.2 gX6_lookRule_X6_name rfl rfl rfl (by decide +kernel) ⟨rk1_rmMF d _ (Nat.le_of_ble_eq_true rfl), rk2_rmMF d _ (Nat.le_of_ble_eq_true rfl)⟩) (wM_g0 ad cI cZ _) rfl rfl rfl (Nat.le_of_ble_eq_true rfl) ⟨Nat.zero_le _, Nat.zero_le _⟩ dX6_lookRule_236 ?_
      refine j_aload_n E 1 rfl rfl dX6_lookRule_239 ?_
      refine j_aload_n E 1 rfl rfl dX6_lookRule_240 ?_
      refine j_get E 0 (wM_g0 ad cI cZ _) rfl 5 rfl in_X6_lookRule_X6 (by decide) (List.mem_of_getElem? (i := 1) rfl) (fun _ h9 => h9) dX6_lookRule_241 ?_
      refine j_iload_n E 2 rfl rfl dX6_lookRule_244 ?_
      obtain ⟨b37, h⟩ := job_else h
      refine j_iald E 4 0 (wM_g4 ad cI cZ _) rfl b37 dX6_lookRule_245 ?_
      refine j_iload_n E 3 rfl rfl dX6_lookRule_246 ?_
      refine j_iload_n E 4 rfl rfl dX6_lookRule_247 ?_
      refine j_iconst E (kc_1) dX6_lookRule_248 ?_
      refine j_iadd E dX6_lookRule_249 ?_
      obtain ⟨r38, er38, h⟩ := jbd h
      refine j_callVi E (As := [.int (jag r36 4 y14), .int y15, .int (y16 + 1)]) (hlk _ _ _ _ _ er38) (cwV 3 E.1.2.2.2.2 gX6_lookRule_X6_look rfl rfl rfl (by decide +kernel) (rk_X6_lookRule_X6_look d)) (wM_g0 ad cI cZ _) rfl rfl rfl (Nat.le_of_ble_eq_true rfl) ⟨Nat.zero_le _, Nat.zero_le _⟩ dX6_lookRule_250 ?_
      refine j_istore E (by decide) (lv' := [(6, .int r38.1), (5, .int x20), (0, .ref (ad 0)), (1, .int y14), (2, .int y15), (3, .int y16), (4, .int y17)]) rfl dX6_lookRule_253 ?_
      refine j_aload_n E 2 rfl rfl dX6_lookRule_255 ?_
      refine j_get E 0 (wM_g0 ad cI cZ _) rfl 16 rfl in_X6_lookRule_X6 (by decide) (List.mem_of_getElem? (i := 16) rfl) (fun _ h9 => h9) dX6_lookRule_256 ?_
      refine j_iload E 1 rfl dX6_lookRule_259 ?_
      obtain ⟨b39, h⟩ := job_else h
      refine j_zald E 13 1 (wM_g13 ad cI cZ _) rfl b39 dX6_lookRule_261 ?_
      refine j_if_eq E (tgt := 348) (by decide) dX6_lookRule_262 (fun c40 => ?_) (fun c40 => ?_)
      · have h := jit h c40
        refine j_aload_n E 2 rfl rfl dX6_lookRule_348 ?_
        refine j_iload E 1 rfl dX6_lookRule_349 ?_
        obtain ⟨s41, es41, h⟩ := jle h
        refine j_put E 0 (wM_g0 ad cI cZ _) rfl 12 (ty := .int) (wM_p0_12 ad cI cZ _ _) tyX6_ok nmX6 in_X6_lookRule_X6 (by decide) (List.mem_of_getElem? (i := 5) rfl) (fun _ h9 => h9) rfl (tyX6_ok 12 (by decide)) rfl rfl (Nat.le_of_ble_eq_true rfl) dX6_lookRule_351 ?_
        refine j_st es41 ?_
        refine j_aload_n E 2 rfl rfl dX6_lookRule_354 ?_
        refine j_get E 0 (wM_g0 ad cI cZ _) rfl 17 rfl in_X6_lookRule_X6 (by decide) (List.mem_of_getElem? (i := 17) rfl) (fun _ h9 => h9) dX6_lookRule_355 ?_
        refine j_iload E 1 rfl dX6_lookRule_358 ?_
        obtain ⟨b42, h⟩ := job_else h
        refine j_zald E 14 1 (wM_g14 ad cI cZ _) rfl b42 dX6_lookRule_360 ?_
        refine j_if_ne E (tgt := 416) (by decide) dX6_lookRule_361 (fun c43 => ?_) (fun c43 => ?_)
        · have h := jif h c43
          refine j_iload E 0 rfl dX6_lookRule_416 ?_
          exact j_iret E hr rfl (Option.some.inj h) dX6_lookRule_418
        · have h := jit h c43
          refine j_aload_n E 2 rfl rfl dX6_lookRule_364 ?_
          refine j_get E 0 (wM_g0 ad cI cZ _) rfl 20 rfl in_X6_lookRule_X6 (by decide) (List.mem_of_getElem? (i := 19) rfl) (fun _ h9 => h9) dX6_lookRule_365 ?_
          refine j_if_ne E (tgt := 416) (by decide) dX6_lookRule_368 (fun c44 => ?_) (fun c44 => ?_)
          · have h := jif h c44
            refine j_iload E 0 rfl dX6_lookRule_416 ?_
            exact j_iret E hr rfl (Option.some.inj h) dX6_lookRule_418
          · have h := jit h c44
            refine j_aload_n E 2 rfl rfl dX6_lookRule_371 ?_
            refine j_get E 0 (wM_g0 ad cI cZ _) rfl 8 rfl in_X6_lookRule_X6 (by decide) (List.mem_of_getElem? (i := 2) rfl) (fun _ h9 => h9) dX6_lookRule_372 ?_
            refine j_iload E 6 rfl dX6_lookRule_375 ?_
            refine j_iconst E (kc_1) dX6_lookRule_377 ?_
            obtain ⟨b45, h⟩ := job_else h
            obtain ⟨s46, es46, h⟩ := jle h
            refine j_zast E 6 1 (wM_g6 ad cI cZ _) rfl (wM_s6 ad cI cZ _ _) b45 dX6_lookRule_378 ?_
            refine j_st es46 ?_
            refine j_aload_n E 2 rfl rfl dX6_lookRule_379 ?_
            refine j_get E 0 (wM_g0 ad cI cZ _) rfl 9 rfl in_X6_lookRule_X6 (by decide) (List.mem_of_getElem? (i := 12) rfl) (fun _ h9 => h9) dX6_lookRule_380 ?_
            refine j_iload E 6 rfl dX6_lookRule_383 ?_
            refine j_iload E 0 rfl dX6_lookRule_385 ?_
            obtain ⟨b47, h⟩ := job_else h
            obtain ⟨s48, es48, h⟩ := jle h
            refine j_iast E 7 0 (wM_g7 ad cI cZ _) rfl (wM_s7 ad cI cZ _ _) b47 dX6_lookRule_387 ?_
            refine j_st es48 ?_
            refine j_aload_n E 2 rfl rfl dX6_lookRule_388 ?_
            refine j_get E 0 (wM_g0 ad cI cZ _) rfl 10 rfl in_X6_lookRule_X6 (by decide) (List.mem_of_getElem? (i := 7) rfl) (fun _ h9 => h9) dX6_lookRule_389 ?_
            refine j_iload E 6 rfl dX6_lookRule_392 ?_
            refine j_aload_n E 2 rfl rfl dX6_lookRule_394 ?_
            refine j_get E 0 (wM_g0 ad cI cZ _) rfl 18 rfl in_X6_lookRule_X6 (by decide) (List.mem_of_getElem? (i := 6) rfl) (fun _ h9 => h9) dX6_lookRule_395 ?_
            refine j_iload E 1 rfl dX6_lookRule_398 ?_
            obtain ⟨b49, h⟩ := job_else h
            refine j_iald E 15 0 (wM_g15 ad cI cZ _) rfl b49 dX6_lookRule_400 ?_
            obtain ⟨b50, h⟩ := job_else h
            obtain ⟨s51, es51, h⟩ := jle h
            refine j_iast E 8 0 (wM_g8 ad cI cZ _) rfl (wM_s8 ad cI cZ _ _) b50 dX6_lookRule_401 ?_
            refine j_st es51 ?_
            refine j_aload_n E 2 rfl rfl dX6_lookRule_402 ?_
            refine j_get E 0 (wM_g0 ad cI cZ _) rfl 11 rfl in_X6_lookRule_X6 (by decide) (List.mem_of_getElem? (i := 4) rfl) (fun _ h9 => h9) dX6_lookRule_403 ?_
            refine j_iload E 6 rfl dX6_lookRule_406 ?_
            refine j_aload_n E 2 rfl rfl dX6_lookRule_408 ?_
            refine j_get E 0 (wM_g0 ad cI cZ _) rfl 19 rfl in_X6_lookRule_X6 (by decide) (List.mem_of_getElem? (i := 18) rfl) (fun _ h9 => h9) dX6_lookRule_409 ?_
            refine j_iload E 1 rfl dX6_lookRule_412 ?_
            obtain ⟨b52, h⟩ := job_else h
            refine j_iald E 16 0 (wM_g16 ad cI cZ _) rfl b52 dX6_lookRule_414 ?_
            obtain ⟨b53, h⟩ := job_else h
            obtain ⟨s54, es54, h⟩ := jle h
            refine j_iast E 9 0 (wM_g9 ad cI cZ _) rfl (wM_s9 ad cI cZ _ _) b53 dX6_lookRule_415 ?_
            refine j_st es54 ?_
            refine j_iload E 0 rfl dX6_lookRule_416 ?_
            exact j_iret E hr rfl (Option.some.inj h) dX6_lookRule_418
      · have h := jif h c40
        refine j_sub [2, 3, 4, 5, 6, 1, 0] (lv' := [(0, .ref (ad 0)), (1, .int y14), (2, .int y15), (3, .int y16), (4, .int y17), (5, .int x20), (6, .int r38.1)]) rfl ?_
        refine w_X6_lookRule_265 hlk E hr (fun s77 y71 y72 y73 y74 y75 y76 h => ?_) _ _ _ _ _ _ _ _ h
        refine j_aload_n E 0 rfl rfl dX6_lookRule_339 ?_
        refine j_get E 0 (wM_g0 ad cI cZ _) rfl 15 rfl in_X6_lookRule_X6 (by decide) (List.mem_of_getElem? (i := 15) rfl) (fun _ h9 => h9) dX6_lookRule_340 ?_
        refine j_iload E 5 rfl dX6_lookRule_343 ?_
        obtain ⟨b78, h⟩ := job_else h
        refine j_iald E 12 0 (wM_g12 ad cI cZ _) rfl b78 dX6_lookRule_345 ?_
        obtain ⟨x79, ex79, h⟩ := jle h
        refine j_topi ex79 ?_
        refine j_istore E (by decide) (lv' := [(6, .int x79), (0, .ref (ad 0)), (1, .int y71), (2, .int y72), (3, .int y73), (4, .int y74), (5, .int y75)]) rfl dX6_lookRule_346 ?_
        refine j_aload_n E 1 rfl rfl dX6_lookRule_348 ?_
        refine j_iload E 6 rfl dX6_lookRule_349 ?_
        obtain ⟨s80, es80, h⟩ := jle h
        refine j_put E 0 (wM_g0 ad cI cZ _) rfl 12 (ty := .int) (wM_p0_12 ad cI cZ _ _) tyX6_ok nmX6 in_X6_lookRule_X6 (by decide) (List.mem_of_getElem? (i := 5) rfl) (fun _ h9 => h9) rfl (tyX6_ok 12 (by decide)) rfl rfl (Nat.le_of_ble_eq_true rfl) dX6_lookRule_351 ?_
        refine j_st es80 ?_
        refine j_aload_n E 1 rfl rfl dX6_lookRule_354 ?_
        refine j_get E 0 (wM_g0 ad cI cZ _) rfl 17 rfl in_X6_lookRule_X6 (by decide) (List.mem_of_getElem? (i := 17) rfl) (fun _ h9 => h9) dX6_lookRule_355 ?_
        refine j_iload E 6 rfl dX6_lookRule_358 ?_
        obtain ⟨b81, h⟩ := job_else h
        refine j_zald E 14 1 (wM_g14 ad cI cZ _) rfl b81 dX6_lookRule_360 ?_
        refine j_if_ne E (tgt := 416) (by decide) dX6_lookRule_361 (fun c82 => ?_) (fun c82 => ?_)
        · have h := jif h c82
          refine j_iload E 0 rfl dX6_lookRule_416 ?_
          exact j_iret E hr rfl (Option.some.inj h) dX6_lookRule_418
        · have h := jit h c82
          refine j_aload_n E 1 rfl rfl dX6_lookRule_364 ?_
          refine j_get E 0 (wM_g0 ad cI cZ _) rfl 20 rfl in_X6_lookRule_X6 (by decide) (List.mem_of_getElem? (i := 19) rfl) (fun _ h9 => h9) dX6_lookRule_365 ?_
          refine j_if_ne E (tgt := 416) (by decide) dX6_lookRule_368 (fun c83 => ?_) (fun c83 => ?_)
          · have h := jif h c83
            refine j_iload E 0 rfl dX6_lookRule_416 ?_
            exact j_iret E hr rfl (Option.some.inj h) dX6_lookRule_418
          · have h := jit h c83
            refine j_aload_n E 1 rfl rfl dX6_lookRule_371 ?_
            refine j_get E 0 (wM_g0 ad cI cZ _) rfl 8 rfl in_X6_lookRule_X6 (by decide) (List.mem_of_getElem? (i := 2) rfl) (fun _ h9 => h9) dX6_lookRule_372 ?_
            refine j_iload E 5 rfl dX6_lookRule_375 ?_
            refine j_iconst E (kc_1) dX6_lookRule_377 ?_
            obtain ⟨b84, h⟩ := job_else h
            obtain ⟨s85, es85, h⟩ := jle h
            refine j_zast E 6 1 (wM_g6 ad cI cZ _) rfl (wM_s6 ad cI cZ _ _) b84 dX6_lookRule_378 ?_
            refine j_st es85 ?_
            refine j_aload_n E 1 rfl rfl dX6_lookRule_379 ?_
            refine j_get E 0 (wM_g0 ad cI cZ _) rfl 9 rfl in_X6_lookRule_X6 (by decide) (List.mem_of_getElem? (i := 12) rfl) (fun _ h9 => h9) dX6_lookRule_380 ?_
            refine j_iload E 5 rfl dX6_lookRule_383 ?_
            refine j_iload E 0 rfl dX6_lookRule_385 ?_
            obtain ⟨b86, h⟩ := job_else h
            obtain ⟨s87, es87, h⟩ := jle h
            refine j_iast E 7 0 (wM_g7 ad cI cZ _) rfl (wM_s7 ad cI cZ _ _) b86 dX6_lookRule_387 ?_
            refine j_st es87 ?_
            refine j_aload_n E 1 rfl rfl dX6_lookRule_388 ?_
            refine j_get E 0 (wM_g0 ad cI cZ _) rfl 10 rfl in_X6_lookRule_X6 (by decide) (List.mem_of_getElem? (i := 7) rfl) (fun _ h9 => h9) dX6_lookRule_389 ?_
            refine j_iload E 5 rfl dX6_lookRule_392 ?_
            refine j_aload_n E 1 rfl rfl dX6_lookRule_394 ?_
            refine j_get E 0 (wM_g0 ad cI cZ _) rfl 18 rfl in_X6_lookRule_X6 (by decide) (List.mem_of_getElem? (i := 6) rfl) (fun _ h9 => h9) dX6_lookRule_395 ?_
            refine j_iload E 6 rfl dX6_lookRule_398 ?_
            obtain ⟨b88, h⟩ := job_else h
            refine j_iald E 15 0 (wM_g15 ad cI cZ _) rfl b88 dX6_lookRule_400 ?_
            obtain ⟨b89, h⟩ := job_else h
            obtain ⟨s90, es90, h⟩ := jle h
            refine j_iast E 8 0 (wM_g8 ad cI cZ _) rfl (wM_s8 ad cI cZ _ _) b89 dX6_lookRule_401 ?_
            refine j_st es90 ?_
            refine j_aload_n E 1 rfl rfl dX6_lookRule_402 ?_
            refine j_get E 0 (wM_g0 ad cI cZ _) rfl 11 rfl in_X6_lookRule_X6 (by decide) (List.mem_of_getElem? (i := 4) rfl) (fun _ h9 => h9) dX6_lookRule_403 ?_
            refine j_iload E 5 rfl dX6_lookRule_406 ?_
            refine j_aload_n E 1 rfl rfl dX6_lookRule_408 ?_
            refine j_get E 0 (wM_g0 ad cI cZ _) rfl 19 rfl in_X6_lookRule_X6 (by decide) (List.mem_of_getElem? (i := 18) rfl) (fun _ h9 => h9) dX6_lookRule_409 ?_
            refine j_iload E 6 rfl dX6_lookRule_412 ?_
            obtain ⟨b91, h⟩ := job_else h
            refine j_iald E 16 0 (wM_g16 ad cI cZ _) rfl b91 dX6_lookRule_414 ?_
            obtain ⟨b92, h⟩ := job_else h
            obtain ⟨s93, es93, h⟩ := jle h
            refine j_iast E 9 0 (wM_g9 ad cI cZ _) rfl (wM_s9 ad cI cZ _ _) b92 dX6_lookRule_415 ?_
            refine j_st es93 ?_
            refine j_iload E 0 rfl dX6_lookRule_416 ?_
            exact j_iret E hr rfl (Option.some.inj h) dX6_lookRule_418
    · have h := jif h c5
      refine j_aload_n E 1 rfl rfl dX6_lookRule_30 ?_
      refine j_iload E 0 rfl dX6_lookRule_31 ?_
      refine j_iload_n E 3 rfl rfl dX6_lookRule_33 ?_
      obtain ⟨r94, er94, h⟩ := jbd h
      refine j_callVi E (As := [.int x3, .int a2]) (c_X6_isShut er94) (cwV 2 E.1.2.2.2.2 gX6_lookRule_X6_isShut rfl rfl rfl (by decide +kernel) ⟨rk1_rmMF d _ (Nat.le_of_ble_eq_true rfl), rk2_rmMF d _ (Nat.le_of_ble_eq_true rfl)⟩) (wM_g0 ad cI cZ _) rfl rfl rfl (Nat.le_of_ble_eq_true rfl) ⟨Nat.zero_le _, Nat.zero_le _⟩ dX6_lookRule_34 ?_
      refine j_if_ne E (tgt := 112) (by decide) dX6_lookRule_37 (fun c95 => ?_) (fun c95 => ?_)
      · have h := jif h c95
        refine j_iconst E (kc_0) dX6_lookRule_112 ?_
        refine j_istore E (by decide) (lv' := [(5, .int 0), (4, .int x3), (0, .ref (ad 0)), (1, .int a1), (2, .int a2), (3, .int a3)]) rfl dX6_lookRule_113 ?_
        refine j_sub [2, 3, 4, 5, 1, 0] (lv' := [(0, .ref (ad 0)), (1, .int a1), (2, .int a2), (3, .int a3), (4, .int x3), (5, .int 0)]) rfl ?_
        refine w_X6_lookRule_115 hlk E hr (fun s101 y96 y97 y98 y99 y100 h => ?_) _ _ _ _ _ _ _ h
        refine j_aload_n E 0 rfl rfl dX6_lookRule_159 ?_
        refine j_get E 0 (wM_g0 ad cI cZ _) rfl 12 rfl in_X6_lookRule_X6 (by decide) (List.mem_of_getElem? (i := 5) rfl) (fun _ h9 => h9) dX6_lookRule_160 ?_
        obtain ⟨x102, ex102, h⟩ := jle h
        refine j_topi ex102 ?_
        refine j_istore E (by decide) (lv' := [(5, .int x102), (0, .ref (ad 0)), (1, .int y96), (2, .int y97), (3, .int y98), (4, .int y99)]) rfl dX6_lookRule_163 ?_
        refine j_aload_n E 1 rfl rfl dX6_lookRule_165 ?_
        refine j_dup E rfl dX6_lookRule_166 ?_
        refine j_get E 0 (wM_g0 ad cI cZ _) rfl 12 rfl in_X6_lookRule_X6 (by decide) (List.mem_of_getElem? (i := 5) rfl) (fun _ h9 => h9) dX6_lookRule_167 ?_
        refine j_iconst E (kc_1) dX6_lookRule_170 ?_
        refine j_iadd E dX6_lookRule_171 ?_
        obtain ⟨s103, es103, h⟩ := jle h
        refine j_put E 0 (wM_g0 ad cI cZ _) rfl 12 (ty := .int) (wM_p0_12 ad cI cZ _ _) tyX6_ok nmX6 in_X6_lookRule_X6 (by decide) (List.mem_of_getElem? (i := 5) rfl) (fun _ h9 => h9) rfl (tyX6_ok 12 (by decide)) rfl rfl (Nat.le_of_ble_eq_true rfl) dX6_lookRule_172 ?_
        refine j_st es103 ?_
        refine j_aload_n E 1 rfl rfl dX6_lookRule_175 ?_
        refine j_get E 0 (wM_g0 ad cI cZ _) rfl 13 rfl in_X6_lookRule_X6 (by decide) (List.mem_of_getElem? (i := 13) rfl) (fun _ h9 => h9) dX6_lookRule_176 ?_
        refine j_iload E 0 rfl dX6_lookRule_179 ?_
        refine j_iload_n E 2 rfl rfl dX6_lookRule_181 ?_
        obtain ⟨b104, h⟩ := job_else h
        obtain ⟨s105, es105, h⟩ := jle h
        refine j_iast E 10 0 (wM_g10 ad cI cZ _) rfl (wM_s10 ad cI cZ _ _) b104 dX6_lookRule_182 ?_
        refine j_st es105 ?_
        refine j_aload_n E 1 rfl rfl dX6_lookRule_183 ?_
        refine j_get E 0 (wM_g0 ad cI cZ _) rfl 14 rfl in_X6_lookRule_X6 (by decide) (List.mem_of_getElem? (i := 14) rfl) (fun _ h9 => h9) dX6_lookRule_184 ?_
        refine j_iload E 0 rfl dX6_lookRule_187 ?_
        refine j_iload_n E 3 rfl rfl dX6_lookRule_189 ?_
        obtain ⟨b106, h⟩ := job_else h
        obtain ⟨s107, es107, h⟩ := jle h
        refine j_iast E 11 0 (wM_g11 ad cI cZ _) rfl (wM_s11 ad cI cZ _ _) b106 dX6_lookRule_190 ?_
        refine j_st es107 ?_
        refine j_aload_n E 1 rfl rfl dX6_lookRule_191 ?_
        refine j_get E 0 (wM_g0 ad cI cZ _) rfl 15 rfl in_X6_lookRule_X6 (by decide) (List.mem_of_getElem? (i := 15) rfl) (fun _ h9 => h9) dX6_lookRule_192 ?_
        refine j_iload E 0 rfl dX6_lookRule_195 ?_
        refine j_iconst E (kc_m1) dX6_lookRule_197 ?_
        obtain ⟨b108, h⟩ := job_else h
        obtain ⟨s109, es109, h⟩ := jle h
        refine j_iast E 12 0 (wM_g12 ad cI cZ _) rfl (wM_s12 ad cI cZ _ _) b108 dX6_lookRule_198 ?_
        refine j_st es109 ?_
        refine j_aload_n E 1 rfl rfl dX6_lookRule_199 ?_
        refine j_get E 0 (wM_g0 ad cI cZ _) rfl 16 rfl in_X6_lookRule_X6 (by decide) (List.mem_of_getElem? (i := 16) rfl) (fun _ h9 => h9) dX6_lookRule_200 ?_
        refine j_iload E 0 rfl dX6_lookRule_203 ?_
        refine j_iconst E (kc_0) dX6_lookRule_205 ?_
        obtain ⟨b110, h⟩ := job_else h
        obtain ⟨s111, es111, h⟩ := jle h
        refine j_zast E 13 1 (wM_g13 ad cI cZ _) rfl (wM_s13 ad cI cZ _ _) b110 dX6_lookRule_206 ?_
        refine j_st es111 ?_
        refine j_aload_n E 1 rfl rfl dX6_lookRule_207 ?_
        refine j_get E 0 (wM_g0 ad cI cZ _) rfl 17 rfl in_X6_lookRule_X6 (by decide) (List.mem_of_getElem? (i := 17) rfl) (fun _ h9 => h9) dX6_lookRule_208 ?_
        refine j_iload E 0 rfl dX6_lookRule_211 ?_
        refine j_iconst E (kc_0) dX6_lookRule_213 ?_
        obtain ⟨b112, h⟩ := job_else h
        obtain ⟨s113, es113, h⟩ := jle h
        refine j_zast E 14 1 (wM_g14 ad cI cZ _) rfl (wM_s14 ad cI cZ _ _) b112 dX6_lookRule_214 ?_
        refine j_st es113 ?_
        refine j_aload_n E 1 rfl rfl dX6_lookRule_215 ?_
        refine j_get E 0 (wM_g0 ad cI cZ _) rfl 18 rfl in_X6_lookRule_X6 (by decide) (List.mem_of_getElem? (i := 6) rfl) (fun _ h9 => h9) dX6_lookRule_216 ?_
        refine j_iload E 0 rfl dX6_lookRule_219 ?_
        refine j_iload_n E 3 rfl rfl dX6_lookRule_221 ?_
        obtain ⟨b114, h⟩ := job_else h
        obtain ⟨s115, es115, h⟩ := jle h
        refine j_iast E 15 0 (wM_g15 ad cI cZ _) rfl (wM_s15 ad cI cZ _ _) b114 dX6_lookRule_222 ?_
        refine j_st es115 ?_
        refine j_aload_n E 1 rfl rfl dX6_lookRule_223 ?_
        refine j_get E 0 (wM_g0 ad cI cZ _) rfl 19 rfl in_X6_lookRule_X6 (by decide) (List.mem_of_getElem? (i := 18) rfl) (fun _ h9 => h9) dX6_lookRule_224 ?_
        refine j_iload E 0 rfl dX6_lookRule_227 ?_
        refine j_iconst E (kc_0) dX6_lookRule_229 ?_
        obtain ⟨b116, h⟩ := job_else h
        obtain ⟨s117, es117, h⟩ := jle h
        refine j_iast E 16 0 (wM_g16 ad cI cZ _) rfl (wM_s16 ad cI cZ _ _) b116 dX6_lookRule_230 ?_
        refine j_st es117 ?_
        refine j_aload_n E 1 rfl rfl dX6_lookRule_231 ?_
        refine j_iconst E (kc_1) dX6_lookRule_232 ?_
        refine j_iload_n E 2 rfl rfl dX6_lookRule_233 ?_
        refine j_ishl E dX6_lookRule_234 ?_
        refine j_iload_n E 3 rfl rfl dX6_lookRule_235 ?_
        obtain ⟨r118, er118, h⟩ := jbd h
        refine j_callVv E (As := [.int (1 <<< (y96 &&& 31)), .int y97]) (c_X6_name er118) (cwV 2 E.1.2.2.2.2 gX6_lookRule_X6_name rfl rfl rfl (by decide +kernel) ⟨rk1_rmMF d _ (Nat.le_of_ble_eq_true rfl), rk2_rmMF d _ (Nat.le_of_ble_eq_true rfl)⟩) (wM_g0 ad cI cZ _) rfl rfl rfl (Nat.le_of_ble_eq_true rfl) ⟨Nat.zero_le _, Nat.zero_le _⟩ dX6_lookRule_236 ?_
        refine j_aload_n E 1 rfl rfl dX6_lookRule_239 ?_
        refine j_aload_n E 1 rfl rfl dX6_lookRule_240 ?_
        refine j_get E 0 (wM_g0 ad cI cZ _) rfl 5 rfl in_X6_lookRule_X6 (by decide) (List.mem_of_getElem? (i := 1) rfl) (fun _ h9 => h9) dX6_lookRule_241 ?_
        refine j_iload_n E 2 rfl rfl dX6_lookRule_244 ?_
        obtain ⟨b119, h⟩ := job_else h
        refine j_iald E 4 0 (wM_g4 ad cI cZ _) rfl b119 dX6_lookRule_245 ?_
        refine j_iload_n E 3 rfl rfl dX6_lookRule_246 ?_
        refine j_iload_n E 4 rfl rfl dX6_lookRule_247 ?_
        refine j_iconst E (kc_1) dX6_lookRule_248 ?_
        refine j_iadd E dX6_lookRule_249 ?_
        obtain ⟨r120, er120, h⟩ := jbd h
        refine j_callVi E (As := [.int (jag r118 4 y96), .int y97, .int (y98 + 1)]) (hlk _ _ _ _ _ er120) (cwV 3 E.1.2.2.2.2 gX6_lookRule_X6_look rfl rfl rfl (by decide +kernel) (rk_X6_lookRule_X6_look d)) (wM_g0 ad cI cZ _) rfl rfl rfl (Nat.le_of_ble_eq_true rfl) ⟨Nat.zero_le _, Nat.zero_le _⟩ dX6_lookRule_250 ?_
        refine j_istore E (by decide) (lv' := [(6, .int r120.1), (5, .int x102), (0, .ref (ad 0)), (1, .int y96), (2, .int y97), (3, .int y98), (4, .int y99)]) rfl dX6_lookRule_253 ?_
        refine j_aload_n E 2 rfl rfl dX6_lookRule_255 ?_
        refine j_get E 0 (wM_g0 ad cI cZ _) rfl 16 rfl in_X6_lookRule_X6 (by decide) (List.mem_of_getElem? (i := 16) rfl) (fun _ h9 => h9) dX6_lookRule_256 ?_
        refine j_iload E 1 rfl dX6_lookRule_259 ?_
        obtain ⟨b121, h⟩ := job_else h
        refine j_zald E 13 1 (wM_g13 ad cI cZ _) rfl b121 dX6_lookRule_261 ?_
        refine j_if_eq E (tgt := 348) (by decide) dX6_lookRule_262 (fun c122 => ?_) (fun c122 => ?_)
        · have h := jit h c122
          refine j_aload_n E 2 rfl rfl dX6_lookRule_348 ?_
          refine j_iload E 1 rfl dX6_lookRule_349 ?_
          obtain ⟨s123, es123, h⟩ := jle h
          refine j_put E 0 (wM_g0 ad cI cZ _) rfl 12 (ty := .int) (wM_p0_12 ad cI cZ _ _) tyX6_ok nmX6 in_X6_lookRule_X6 (by decide) (List.mem_of_getElem? (i := 5) rfl) (fun _ h9 => h9) rfl (tyX6_ok 12 (by decide)) rfl rfl (Nat.le_of_ble_eq_true rfl) dX6_lookRule_351 ?_
          refine j_st es123 ?_
          refine j_aload_n E 2 rfl rfl dX6_lookRule_354 ?_
          refine j_get E 0 (wM_g0 ad cI cZ _) rfl 17 rfl in_X6_lookRule_X6 (by decide) (List.mem_of_getElem? (i := 17) rfl) (fun _ h9 => h9) dX6_lookRule_355 ?_
          refine j_iload E 1 rfl dX6_lookRule_358 ?_
          obtain ⟨b124, h⟩ := job_else h
          refine j_zald E 14 1 (wM_g14 ad cI cZ _) rfl b124 dX6_lookRule_360 ?_
          refine j_if_ne E (tgt := 416) (by decide) dX6_lookRule_361 (fun c125 => ?_) (fun c125 => ?_)
          · have h := jif h c125
            refine j_iload E 0 rfl dX6_lookRule_416 ?_
            exact j_iret E hr rfl (Option.some.inj h) dX6_lookRule_418
          · have h := jit h c125
            refine j_aload_n E 2 rfl rfl dX6_lookRule_364 ?_
            refine j_get E 0 (wM_g0 ad cI cZ _) rfl 20 rfl in_X6_lookRule_X6 (by decide) (List.mem_of_getElem? (i := 19) rfl) (fun _ h9 => h9) dX6_lookRule_365 ?_
            refine j_if_ne E (tgt := 416) (by decide) dX6_lookRule_368 (fun c126 => ?_) (fun c126 => ?_)
            · have h := jif h c126
              refine j_iload E 0 rfl dX6_lookRule_416 ?_
              exact j_iret E hr rfl (Option.some.inj h) dX6_lookRule_418
            · have h := jit h c126
              refine j_aload_n E 2 rfl rfl dX6_lookRule_371 ?_
              refine j_get E 0 (wM_g0 ad cI cZ _) rfl 8 rfl in_X6_lookRule_X6 (by decide) (List.mem_of_getElem? (i := 2) rfl) (fun _ h9 => h9) dX6_lookRule_372 ?_
              refine j_iload E 6 rfl dX6_lookRule_375 ?_
              refine j_iconst E (kc_1) dX6_lookRule_377 ?_
              obtain ⟨b127, h⟩ := job_else h
              obtain ⟨s128, es128, h⟩ := jle h
              refine j_zast E 6 1 (wM_g6 ad cI cZ _) rfl (wM_s6 ad cI cZ _ _) b127 dX6_lookRule_378 ?_
              refine j_st es128 ?_
              refine j_aload_n E 2 rfl rfl dX6_lookRule_379 ?_
              refine j_get E 0 (wM_g0 ad cI cZ _) rfl 9 rfl in_X6_lookRule_X6 (by decide) (List.mem_of_getElem? (i := 12) rfl) (fun _ h9 => h9) dX6_lookRule_380 ?_
              refine j_iload E 6 rfl dX6_lookRule_383 ?_
              refine j_iload E 0 rfl dX6_lookRule_385 ?_
              obtain ⟨b129, h⟩ := job_else h
              obtain ⟨s130, es130, h⟩ := jle h
              refine j_iast E 7 0 (wM_g7 ad cI cZ _) rfl (wM_s7 ad cI cZ _ _) b129 dX6_lookRule_387 ?_
              refine j_st es130 ?_
              refine j_aload_n E 2 rfl rfl dX6_lookRule_388 ?_
              refine j_get E 0 (wM_g0 ad cI cZ _) rfl 10 rfl in_X6_lookRule_X6 (by decide) (List.mem_of_getElem? (i := 7) rfl) (fun _ h9 => h9) dX6_lookRule_389 ?_
              refine j_iload E 6 rfl dX6_lookRule_392 ?_
              refine j_aload_n E 2 rfl rfl dX6_lookRule_394 ?_
              refine j_get E 0 (wM_g0 ad cI cZ _) rfl 18 rfl in_X6_lookRule_X6 (by decide) (List.mem_of_getElem? (i := 6) rfl) (fun _ h9 => h9) dX6_lookRule_395 ?_
              refine j_iload E 1 rfl dX6_lookRule_398 ?_
              obtain ⟨b131, h⟩ := job_else h
              refine j_iald E 15 0 (wM_g15 ad cI cZ _) rfl b131 dX6_lookRule_400 ?_
              obtain ⟨b132, h⟩ := job_else h
              obtain ⟨s133, es133, h⟩ := jle h
              refine j_iast E 8 0 (wM_g8 ad cI cZ _) rfl (wM_s8 ad cI cZ _ _) b132 dX6_lookRule_401 ?_
              refine j_st es133 ?_
              refine j_aload_n E 2 rfl rfl dX6_lookRule_402 ?_
              refine j_get E 0 (wM_g0 ad cI cZ _) rfl 11 rfl in_X6_lookRule_X6 (by decide) (List.mem_of_getElem? (i := 4) rfl) (fun _ h9 => h9) dX6_lookRule_403 ?_
              refine j_iload E 6 rfl dX6_lookRule_406 ?_
              refine j_aload_n E 2 rfl rfl dX6_lookRule_408 ?_
              refine j_get E 0 (wM_g0 ad cI cZ _) rfl 19 rfl in_X6_lookRule_X6 (by decide) (List.mem_of_getElem? (i := 18) rfl) (fun _ h9 => h9) dX6_lookRule_409 ?_
              refine j_iload E 1 rfl dX6_lookRule_412 ?_
              obtain ⟨b134, h⟩ := job_else h
              refine j_iald E 16 0 (wM_g16 ad cI cZ _) rfl b134 dX6_lookRule_414 ?_
              obtain ⟨b135, h⟩ := job_else h
              obtain ⟨s136, es136, h⟩ := jle h
              refine j_iast E 9 0 (wM_g9 ad cI cZ _) rfl (wM_s9 ad cI cZ _ _) b135 dX6_lookRule_415 ?_
              refine j_st es136 ?_
              refine j_iload E 0 rfl dX6_lookRule_416 ?_
              exact j_iret E hr rfl (Option.some.inj h) dX6_lookRule_418
        · have h := jif h c122
          refine j_sub [2, 3, 4, 5, 6, 1, 0] (lv' := [(0, .ref (ad 0)), (1, .int y96), (2, .int y97), (3, .int y98), (4, .int y99), (5, .int x102), (6, .int r120.1)]) rfl ?_
          refine w_X6_lookRule_265 hlk E hr (fun s143 y137 y138 y139 y140 y141 y142 h => ?_) _ _ _ _ _ _ _ _ h
          refine j_aload_n E 0 rfl rfl dX6_lookRule_339 ?_
          refine j_get E 0 (wM_g0 ad cI cZ _) rfl 15 rfl in_X6_lookRule_X6 (by decide) (List.mem_of_getElem? (i := 15) rfl) (fun _ h9 => h9) dX6_lookRule_340 ?_
          refine j_iload E 5 rfl dX6_lookRule_343 ?_
          obtain ⟨b144, h⟩ := job_else h
          refine j_iald E 12 0 (wM_g12 ad cI cZ _) rfl b144 dX6_lookRule_345 ?_
          obtain ⟨x145, ex145, h⟩ := jle h
          refine j_topi ex145 ?_
          refine j_istore E (by decide) (lv' := [(6, .int x145), (0, .ref (ad 0)), (1, .int y137), (2, .int y138), (3, .int y139), (4, .int y140), (5, .int y141)]) rfl dX6_lookRule_346 ?_
          refine j_aload_n E 1 rfl rfl dX6_lookRule_348 ?_
          refine j_iload E 6 rfl dX6_lookRule_349 ?_
          obtain ⟨s146, es146, h⟩ := jle h
          refine j_put E 0 (wM_g0 ad cI cZ _) rfl 12 (ty := .int) (wM_p0_12 ad cI cZ _ _) tyX6_ok nmX6 in_X6_lookRule_X6 (by decide) (List.mem_of_getElem? (i := 5) rfl) (fun _ h9 => h9) rfl (tyX6_ok 12 (by decide)) rfl rfl (Nat.le_of_ble_eq_true rfl) dX6_lookRule_351 ?_
          refine j_st es146 ?_
          refine j_aload_n E 1 rfl rfl dX6_lookRule_354 ?_
          refine j_get E 0 (wM_g0 ad cI cZ _) rfl 17 rfl in_X6_lookRule_X6 (by decide) (List.mem_of_getElem? (i := 17) rfl) (fun _ h9 => h9) dX6_lookRule_355 ?_
          refine j_iload E 6 rfl dX6_lookRule_358 ?_
          obtain ⟨b147, h⟩ := job_else h
          refine j_zald E 14 1 (wM_g14 ad cI cZ _) rfl b147 dX6_lookRule_360 ?_
          refine j_if_ne E (tgt := 416) (by decide) dX6_lookRule_361 (fun c148 => ?_) (fun c148 => ?_)
          · have h := jif h c148
            refine j_iload E 0 rfl dX6_lookRule_416 ?_
            exact j_iret E hr rfl (Option.some.inj h) dX6_lookRule_418
          · have h := jit h c148
            refine j_aload_n E 1 rfl rfl dX6_lookRule_364 ?_
            refine j_get E 0 (wM_g0 ad cI cZ _) rfl 20 rfl in_X6_lookRule_X6 (by decide) (List.mem_of_getElem? (i := 19) rfl) (fun _ h9 => h9) dX6_lookRule_365 ?_
            refine j_if_ne E (tgt := 416) (by decide) dX6_lookRule_368 (fun c149 => ?_) (fun c149 => ?_)
            · have h := jif h c149
              refine j_iload E 0 rfl dX6_lookRule_416 ?_
              exact j_iret E hr rfl (Option.some.inj h) dX6_lookRule_418
            · have h := jit h c149
              refine j_aload_n E 1 rfl rfl dX6_lookRule_371 ?_
              refine j_get E 0 (wM_g0 ad cI cZ _) rfl 8 rfl in_X6_lookRule_X6 (by decide) (List.mem_of_getElem? (i := 2) rfl) (fun _ h9 => h9) dX6_lookRule_372 ?_
              refine j_iload E 5 rfl dX6_lookRule_375 ?_
              refine j_iconst E (kc_1) dX6_lookRule_377 ?_
              obtain ⟨b150, h⟩ := job_else h
              obtain ⟨s151, es151, h⟩ := jle h
              refine j_zast E 6 1 (wM_g6 ad cI cZ _) rfl (wM_s6 ad cI cZ _ _) b150 dX6_lookRule_378 ?_
              refine j_st es151 ?_
              refine j_aload_n E 1 rfl rfl dX6_lookRule_379 ?_
              refine j_get E 0 (wM_g0 ad cI cZ _) rfl 9 rfl in_X6_lookRule_X6 (by decide) (List.mem_of_getElem? (i := 12) rfl) (fun _ h9 => h9) dX6_lookRule_380 ?_
              refine j_iload E 5 rfl dX6_lookRule_383 ?_
              refine j_iload E 0 rfl dX6_lookRule_385 ?_
              obtain ⟨b152, h⟩ := job_else h
              obtain ⟨s153, es153, h⟩ := jle h
              refine j_iast E 7 0 (wM_g7 ad cI cZ _) rfl (wM_s7 ad cI cZ _ _) b152 dX6_lookRule_387 ?_
              refine j_st es153 ?_
              refine j_aload_n E 1 rfl rfl dX6_lookRule_388 ?_
              refine j_get E 0 (wM_g0 ad cI cZ _) rfl 10 rfl in_X6_lookRule_X6 (by decide) (List.mem_of_getElem? (i := 7) rfl) (fun _ h9 => h9) dX6_lookRule_389 ?_
              refine j_iload E 5 rfl dX6_lookRule_392 ?_
              refine j_aload_n E 1 rfl rfl dX6_lookRule_394 ?_
              refine j_get E 0 (wM_g0 ad cI cZ _) rfl 18 rfl in_X6_lookRule_X6 (by decide) (List.mem_of_getElem? (i := 6) rfl) (fun _ h9 => h9) dX6_lookRule_395 ?_
              refine j_iload E 6 rfl dX6_lookRule_398 ?_
              obtain ⟨b154, h⟩ := job_else h
              refine j_iald E 15 0 (wM_g15 ad cI cZ _) rfl b154 dX6_lookRule_400 ?_
              obtain ⟨b155, h⟩ := job_else h
              obtain ⟨s156, es156, h⟩ := jle h
              refine j_iast E 8 0 (wM_g8 ad cI cZ _) rfl (wM_s8 ad cI cZ _ _) b155 dX6_lookRule_401 ?_
              refine j_st es156 ?_
              refine j_aload_n E 1 rfl rfl dX6_lookRule_402 ?_
              refine j_get E 0 (wM_g0 ad cI cZ _) rfl 11 rfl in_X6_lookRule_X6 (by decide) (List.mem_of_getElem? (i := 4) rfl) (fun _ h9 => h9) dX6_lookRule_403 ?_
              refine j_iload E 5 rfl dX6_lookRule_406 ?_
              refine j_aload_n E 1 rfl rfl dX6_lookRule_408 ?_
              refine j_get E 0 (wM_g0 ad cI cZ _) rfl 19 rfl in_X6_lookRule_X6 (by decide) (List.mem_of_getElem? (i := 18) rfl) (fun _ h9 => h9) dX6_lookRule_409 ?_
              refine j_iload E 6 rfl dX6_lookRule_412 ?_
              obtain ⟨b157, h⟩ := job_else h
              refine j_iald E 16 0 (wM_g16 ad cI cZ _) rfl b157 dX6_lookRule_414 ?_
              obtain ⟨b158, h⟩ := job_else h
              obtain ⟨s159, es159, h⟩ := jle h
              refine j_iast E 9 0 (wM_g9 ad cI cZ _) rfl (wM_s9 ad cI cZ _ _) b158 dX6_lookRule_415 ?_
              refine j_st es159 ?_
              refine j_iload E 0 rfl dX6_lookRule_416 ?_
              exact j_iret E hr rfl (Option.some.inj h) dX6_lookRule_418
      · have h := jit h c95
        refine j_aload_n E 1 rfl rfl dX6_lookRule_40 ?_
        refine j_dup E rfl dX6_lookRule_41 ?_
        refine j_get E 0 (wM_g0 ad cI cZ _) rfl 23 rfl in_X6_lookRule_X6 (by decide) (List.mem_of_getElem? (i := 3) rfl) (fun _ h9 => h9) dX6_lookRule_42 ?_
        refine j_iconst E (kc_1) dX6_lookRule_45 ?_
        refine j_iadd E dX6_lookRule_46 ?_
        obtain ⟨s160, es160, h⟩ := jle h
        refine j_put E 0 (wM_g0 ad cI cZ _) rfl 23 (ty := .int) (wM_p0_23 ad cI cZ _ _) tyX6_ok nmX6 in_X6_lookRule_X6 (by decide) (List.mem_of_getElem? (i := 3) rfl) (fun _ h9 => h9) rfl (tyX6_ok 23 (by decide)) rfl rfl (Nat.le_of_ble_eq_true rfl) dX6_lookRule_47 ?_
        refine j_st es160 ?_
        refine j_aload_n E 1 rfl rfl dX6_lookRule_50 ?_
        refine j_aload_n E 1 rfl rfl dX6_lookRule_51 ?_
        refine j_get E 0 (wM_g0 ad cI cZ _) rfl 11 rfl in_X6_lookRule_X6 (by decide) (List.mem_of_getElem? (i := 4) rfl) (fun _ h9 => h9) dX6_lookRule_52 ?_
        refine j_iload E 0 rfl dX6_lookRule_55 ?_
        obtain ⟨b161, h⟩ := job_else h
        refine j_iald E 9 0 (wM_g9 ad cI cZ _) rfl b161 dX6_lookRule_57 ?_
        refine j_iload_n E 3 rfl rfl dX6_lookRule_58 ?_
        obtain ⟨r162, er162, h⟩ := jbd h
        refine j_callVv E (As := [.int (jag s160 9 x3), .int a2]) (c_X6_name er162) (cwV 2 E.1.2.2.2.2 gX6_lookRule_X6_name rfl rfl rfl (by decide +kernel) ⟨rk1_rmMF d _ (Nat.le_of_ble_eq_true rfl), rk2_rmMF d _ (Nat.le_of_ble_eq_true rfl)⟩) (wM_g0 ad cI cZ _) rfl rfl rfl (Nat.le_of_ble_eq_true rfl) ⟨Nat.zero_le _, Nat.zero_le _⟩ dX6_lookRule_59 ?_
        refine j_iconst E (kc_0) dX6_lookRule_62 ?_
        refine j_istore E (by decide) (lv' := [(5, .int 0), (4, .int x3), (0, .ref (ad 0)), (1, .int a1), (2, .int a2), (3, .int a3)]) rfl dX6_lookRule_63 ?_
        refine j_sub [2, 3, 4, 5, 1, 0] (lv' := [(0, .ref (ad 0)), (1, .int a1), (2, .int a2), (3, .int a3), (4, .int x3), (5, .int 0)]) rfl ?_
        refine w_X6_lookRule_65 hlk E hr (fun s174 y169 y170 y171 y172 y173 h => ?_) _ _ _ _ _ _ _ h
        refine j_aload_n E 0 rfl rfl dX6_lookRule_104 ?_
        refine j_get E 0 (wM_g0 ad cI cZ _) rfl 9 rfl in_X6_lookRule_X6 (by decide) (List.mem_of_getElem? (i := 12) rfl) (fun _ h9 => h9) dX6_lookRule_105 ?_
        refine j_iload E 4 rfl dX6_lookRule_108 ?_
        obtain ⟨b175, h⟩ := job_else h
        refine j_iald E 7 0 (wM_g7 ad cI cZ _) rfl b175 dX6_lookRule_110 ?_
        exact j_iret E hr rfl (Option.some.inj h) dX6_lookRule_111
  · have h := jit h c2
    refine j_iconst E (kc_m1) dX6_lookRule_10 ?_
    exact j_iret E hr rfl (Option.some.inj h) dX6_lookRule_11
