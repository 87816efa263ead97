abbrev rm_X2_isFull : Room := { frames := 0, cells := 0, slots := 0, locals := 0 }
theorem in_X2_isFull_X2 : ∀ w ∈ u_ws RX2 TX2 10, w ∈ wsX2_isFull := fun w h => (List.mem_cons_of_mem _ (List.mem_append_right _ h))
def f_X2_isFull (st : jS)  : Option (Int32 × jS) :=
  if (st.2 2) < 101 then
    some (0, st)
  else
  some (1, st)
set_option maxHeartbeats 4000000 in
set_option maxRecDepth 100000 in
theorem c_X2_isFull {l : Launch} {D : va_G} {ad : Nat → Nat} {cI cZ : ClassId} {st : jS}  {o : (Int32 × jS)} (h : f_X2_isFull st = some o) : CtI l D (jT cI cZ) (wX ad cI cZ) yX2_isFull wsX2_isFull (rm_X2_isFull) [.ref (ad 15)] st o.1 o.2 := by
  refine ctI_of (o := o) (cc := cX2_isFull) (nL := 1) (own := RX2) (by decide) rfl rfl (Nat.le_of_ble_eq_true rfl) (lv0 := [(0, .ref (ad 15))]) rfl ?_
  intro p e s m args below meth c A E hr
  rw [f_X2_isFull] at h
  refine j_aload_n E 0 rfl rfl dX2_isFull_0 ?_
  refine j_get E 15 (wX_g15 ad cI cZ _) rfl 9 rfl in_X2_isFull_X2 (by decide) (List.mem_of_getElem? (i := 1) rfl) (fun _ h9 => h9) dX2_isFull_1 ?_
  refine j_bipush E (kb_101) dX2_isFull_4 ?_
  refine j_icmp_lt E (tgt := 13) (by decide) dX2_isFull_6 (fun c1 => ?_) (fun c1 => ?_)
  · have h := jit h c1
    refine j_iconst E (kc_0) dX2_isFull_13 ?_
    exact j_iret E hr rfl (Option.some.inj h) dX2_isFull_14
  · have h := jif h c1
    refine j_iconst E (kc_1) dX2_isFull_9 ?_
    refine j_goto E (tgt := 14) (by decide) dX2_isFull_10 ?_
    exact j_iret E hr rfl (Option.some.inj h) dX2_isFull_14
abbrev rm_X2_hasOneOf : Room := { frames := 0, cells := 0, slots := 0, locals := 0 }
theorem in_X2_hasOneOf_X2 : ∀ w ∈ u_ws RX2 TX2 10, w ∈ wsX2_hasOneOf := fun w h => (List.mem_cons_of_mem _ (List.mem_append_right _ h))
def f_X2_hasOneOf (st : jS) (a1 : Int32) (a2 : Int32) : Option (Int32 × jS) :=
  bif job a2 41 then none else
  if ((jag st 24 a2) &&& a1) = 0 then
    some (0, st)
  else
  some (1, st)
set_option maxHeartbeats 4000000 in
set_option maxRecDepth 100000 in
theorem c_X2_hasOneOf {l : Launch} {D : va_G} {ad : Nat → Nat} {cI cZ : ClassId} {st : jS} {a1 : Int32} {a2 : Int32} {o : (Int32 × jS)} (h : f_X2_hasOneOf st a1 a2 = some o) : CtI l D (jT cI cZ) (wX ad cI cZ) yX2_hasOneOf wsX2_hasOneOf (rm_X2_hasOneOf) [.ref (ad 15), .int a1, .int a2] st o.1 o.2 := by
  refine ctI_of (o := o) (cc := cX2_hasOneOf) (nL := 3) (own := RX2) (by decide) rfl rfl (Nat.le_of_ble_eq_true rfl) (lv0 := [(0, .ref (ad 15)), (1, .int a1), (2, .int a2)]) rfl ?_
  intro p e s m args below meth c A E hr
  rw [f_X2_hasOneOf] at h
  refine j_aload_n E 0 rfl rfl dX2_hasOneOf_0 ?_
  refine j_get E 15 (wX_g15 ad cI cZ _) rfl 8 rfl in_X2_hasOneOf_X2 (by decide) (List.mem_of_getElem? (i := 1) rfl) (fun _ h9 => h9) dX2_hasOneOf_1 ?_
  refine j_iload_n E 2 rfl rfl dX2_hasOneOf_4 ?_
  obtain ⟨b1, h⟩ := job_else h
  refine j_iald E 24 0 (wX_g24 ad cI cZ _) rfl b1 dX2_hasOneOf_5 ?_
  refine j_iload_n E 1 rfl rfl dX2_hasOneOf_6 ?_
  refine j_iand E dX2_hasOneOf_7 ?_
  refine j_if_eq E (tgt := 15) (by decide) dX2_hasOneOf_8 (fun c2 => ?_) (fun c2 => ?_)
  · have h := jit h c2
    refine j_iconst E (kc_0) dX2_hasOneOf_15 ?_
    exact j_iret E hr rfl (Option.some.inj h) dX2_hasOneOf_16
  · have h := jif h c2
    refine j_iconst E (kc_1) dX2_hasOneOf_11 ?_
    refine j_goto E (tgt := 16) (by decide) dX2_hasOneOf_12 ?_
    exact j_iret E hr rfl (Option.some.inj h) dX2_hasOneOf_16
abbrev rm_X2_begin : Room := { frames := 1, cells := 0, slots := 0, locals := 21 }
theorem in_X2_begin_X2 : ∀ w ∈ u_ws RX2 TX2 10, w ∈ wsX2_begin := fun w h => (List.mem_cons_of_mem _ (List.mem_append_right _ h))
def f_X2_begin (st : jS) (a1 : Int32) (a2 : Int32) : Option (Int32 × jS) :=
  jl (st.2 2) fun x1 =>
  bif job x1 101 then none else
  jl (jas st 16 x1 a1) fun s3 =>
  bif job x1 101 then none else
  jl (jas s3 17 x1 a2) fun s5 =>
  bif job x1 101 then none else
  jl (jas s5 18 x1 (-1)) fun s7 =>
  bif job x1 101 then none else
  jl (jas s7 19 x1 (vp_nar .boolean 0)) fun s9 =>
  bif job x1 101 then none else
  jl (jas s9 20 x1 a2) fun s11 =>
  (f_X5_bit a1).bind fun r12 =>
  bif job x1 101 then none else
  jl (jas s11 21 x1 r12) fun s14 =>
  bif job x1 101 then none else
  jl (jas s14 22 x1 x1) fun s16 =>
  (f_X5_cell a1 a2).bind fun r17 =>
  bif job r17 410 then none else
  jl (jas s16 23 r17 x1) fun s19 =>
  bif job a2 41 then none else
  (f_X5_bit a1).bind fun r21 =>
  bif job a2 41 then none else
  jl (jas s19 24 a2 ((jag s19 24 a2) ||| r21)) fun s23 =>
  jl (jis s23 2 ((s23.2 2) + 1)) fun s24 =>
  some (x1, s24)
set_option maxHeartbeats 4000000 in
set_option maxRecDepth 100000 in
theorem c_X2_begin {l : Launch} {D : va_G} {ad : Nat → Nat} {cI cZ : ClassId} {st : jS} {a1 : Int32} {a2 : Int32} {o : (Int32 × jS)} (h : f_X2_begin st a1 a2 = some o) : CtI l D (jT cI cZ) (wX ad cI cZ) yX2_begin wsX2_begin (rm_X2_begin) [.ref (ad 15), .int a1, .int a2] st o.1 o.2 := by
  refine ctI_of (o := o) (cc := cX2_begin) (nL := 4) (own := RX2) (by decide) rfl rfl (Nat.le_of_ble_eq_true rfl) (lv0 := [(0, .ref (ad 15)), (1, .int a1), (2, .int a2)]) rfl ?_
  intro p e s m args below meth c A E hr
  rw [f_X2_begin] at h
  refine j_aload_n E 0 rfl rfl dX2_begin_0 ?_
  refine j_get E 15 (wX_g15 ad cI cZ _) rfl 9 rfl in_X2_begin_X2 (by decide) (List.mem_of_getElem? (i := 1) rfl) (fun _ h9 => h9) dX2_begin_1 ?_
  obtain ⟨x1, ex1, h⟩ := jle h
  refine j_topi ex1 ?_
  refine j_istore_n E rfl (by decide) (lv' := [(3, .int x1), (0, .ref (ad 15)), (1, .int a1), (2, .int a2)]) rfl dX2_begin_4 ?_
  refine j_aload_n E 1 rfl rfl dX2_begin_5 ?_
  refine j_get E 15 (wX_g15 ad cI cZ _) rfl 0 rfl in_X2_begin_X2 (by decide) (List.mem_of_getElem? (i := 2) rfl) (fun _ h9 => h9) dX2_begin_6 ?_
  refine j_iload_n E 0 rfl rfl dX2_begin_9 ?_
  refine j_iload_n E 2 rfl rfl dX2_begin_10 ?_
  obtain ⟨b2, h⟩ := job_else h
  obtain ⟨s3, es3, h⟩ := jle h
  refine j_iast E 16 0 (wX_g16 ad cI cZ _) rfl (wX_s16 ad cI cZ _ _) b2 dX2_begin_11 ?_
  refine j_st es3 ?_
  refine j_aload_n E 1 rfl rfl dX2_begin_12 ?_
  refine j_get E 15 (wX_g15 ad cI cZ _) rfl 1 rfl in_X2_begin_X2 (by decide) (List.mem_of_getElem? (i := 3) rfl) (fun _ h9 => h9) dX2_begin_13 ?_
  refine j_iload_n E 0 rfl rfl dX2_begin_16 ?_
  refine j_iload_n E 3 rfl rfl dX2_begin_17 ?_
  obtain ⟨b4, h⟩ := job_else h
  obtain ⟨s5, es5, h⟩ := jle h
  refine j_iast E 17 0 (wX_g17 ad cI cZ _) rfl (wX_s17 ad cI cZ _ _) b4 dX2_begin_18 ?_
  refine j_st es5 ?_
  refine j_aload_n E 1 rfl rfl dX2_begin_19 ?_
  refine j_get E 15 (wX_g15 ad cI cZ _) rfl 2 rfl in_X2_begin_X2 (by decide) (List.mem_of_getElem? (i := 4) rfl) (fun _ h9 => h9) dX2_begin_20 ?_
  refine j_iload_n E 0 rfl rfl dX2_begin_23 ?_
  refine j_iconst E (kc_m1) dX2_begin_24 ?_
  obtain ⟨b6, h⟩ := job_else h
  obtain ⟨s7, es7, h⟩ := jle h
  refine j_iast E 18 0 (wX_g18 ad cI cZ _) rfl (wX_s18 ad cI cZ _ _) b6 dX2_begin_25 ?_
  refine j_st es7 ?_
  refine j_aload_n E 1 rfl rfl dX2_begin_26 ?_
  refine j_get E 15 (wX_g15 ad cI cZ _) rfl 3 rfl in_X2_begin_X2 (by decide) (List.mem_of_getElem? (i := 5) rfl) (fun _ h9 => h9) dX2_begin_27 ?_
  refine j_iload_n E 0 rfl rfl dX2_begin_30 ?_
  refine j_iconst E (kc_0) dX2_begin_31 ?_
  obtain ⟨b8, h⟩ := job_else h
  obtain ⟨s9, es9, h⟩ := jle h
  refine j_zast E 19 1 (wX_g19 ad cI cZ _) rfl (wX_s19 ad cI cZ _ _) b8 dX2_begin_32 ?_
  refine j_st es9 ?_
  refine j_aload_n E 1 rfl rfl dX2_begin_33 ?_
  refine j_get E 15 (wX_g15 ad cI cZ _) rfl 4 rfl in_X2_begin_X2 (by decide) (List.mem_of_getElem? (i := 6) rfl) (fun _ h9 => h9) dX2_begin_34 ?_
  refine j_iload_n E 0 rfl rfl dX2_begin_37 ?_
  refine j_iload_n E 3 rfl rfl dX2_begin_38 ?_
  obtain ⟨b10, h⟩ := job_else h
  obtain ⟨s11, es11, h⟩ := jle h
  refine j_iast E 20 0 (wX_g20 ad cI cZ _) rfl (wX_s20 ad cI cZ _ _) b10 dX2_begin_39 ?_
  refine j_st es11 ?_
  refine j_aload_n E 1 rfl rfl dX2_begin_40 ?_
  refine j_get E 15 (wX_g15 ad cI cZ _) rfl 5 rfl in_X2_begin_X2 (by decide) (List.mem_of_getElem? (i := 7) rfl) (fun _ h9 => h9) dX2_begin_41 ?_
  refine j_iload_n E 0 rfl rfl dX2_begin_44 ?_
  refine j_iload_n E 2 rfl rfl dX2_begin_45 ?_
  obtain ⟨r12, er12, h⟩ := jbd h
  refine j_callSNi E (As := [.int a1]) (c_X5_bit er12) ⟨va_cnB 1 E.1.2.2.2.2 gX2_begin_X5_bit_n50 rfl rfl rfl (E.2.2.2.1.2 _ (List.mem_of_getElem? (i := 4) rfl)) (E.1.2.2.2.2 _ (List.mem_of_getElem? (i := 12) rfl)) (by decide +kernel) ⟨Nat.le_of_ble_eq_true rfl, Nat.le_of_ble_eq_true rfl⟩, E.1.2.2.2.2 _ (List.mem_of_getElem? (i := 11) rfl), trivial⟩ rfl rfl (Nat.le_of_ble_eq_true rfl) ⟨Nat.zero_le _, Nat.zero_le _⟩ dX2_begin_46 ?_
  obtain ⟨b13, h⟩ := job_else h
  obtain ⟨s14, es14, h⟩ := jle h
  refine j_iast E 21 0 (wX_g21 ad cI cZ _) rfl (wX_s21 ad cI cZ _ _) b13 dX2_begin_49 ?_
  refine j_st es14 ?_
  refine j_aload_n E 1 rfl rfl dX2_begin_50 ?_
  refine j_get E 15 (wX_g15 ad cI cZ _) rfl 6 rfl in_X2_begin_X2 (by decide) (List.mem_of_getElem? (i := 8) rfl) (fun _ h9 => h9) dX2_begin_51 ?_
  refine j_iload_n E 0 rfl rfl dX2_begin_54 ?_
  refine j_iload_n E 0 rfl rfl dX2_begin_55 ?_
  obtain ⟨b15, h⟩ := job_else h
  obtain ⟨s16, es16, h⟩ := jle h
  refine j_iast E 22 0 (wX_g22 ad cI cZ _) rfl (wX_s22 ad cI cZ _ _) b15 dX2_begin_56 ?_
  refine j_st es16 ?_
  refine j_aload_n E 1 rfl rfl dX2_begin_57 ?_
  refine j_get E 15 (wX_g15 ad cI cZ _) rfl 7 rfl in_X2_begin_X2 (by decide) (List.mem_of_getElem? (i := 9) rfl) (fun _ h9 => h9) dX2_begin_58 ?_
  refine j_iload_n E 2 rfl rfl dX2_begin_61 ?_
  refine j_iload_n E 3 rfl rfl dX2_begin_62 ?_
  obtain ⟨r17, er17, h⟩ := jbd h
  refine j_callSNi E (As := [.int a1, .int a2]) (c_X5_cell er17) ⟨va_cnB 2 E.1.2.2.2.2 gX2_begin_X5_cell_n54 rfl rfl rfl (E.2.2.2.1.2 _ (List.mem_of_getElem? (i := 5) rfl)) (E.1.2.2.2.2 _ (List.mem_of_getElem? (i := 12) rfl)) (by decide +kernel) ⟨Nat.le_of_ble_eq_true rfl, Nat.le_of_ble_eq_true rfl⟩, E.1.2.2.2.2 _ (List.mem_of_getElem? (i := 14) rfl), trivial⟩ rfl rfl (Nat.le_of_ble_eq_true rfl) ⟨Nat.zero_le _, Nat.zero_le _⟩ dX2_begin_63 ?_
  refine j_iload_n E 0 rfl rfl dX2_begin_66 ?_
  obtain ⟨b18, h⟩ := job_else h
  obtain ⟨s19, es19, h⟩ := jle h
  refine j_iast E 23 0 (wX_g23 ad cI cZ _) rfl (wX_s23 ad cI cZ _ _) b18 dX2_begin_67 ?_
  refine j_st es19 ?_
  refine j_aload_n E 1 rfl rfl dX2_begin_68 ?_
  refine j_get E 15 (wX_g15 ad cI cZ _) rfl 8 rfl in_X2_begin_X2 (by decide) (List.mem_of_getElem? (i := 10) rfl) (fun _ h9 => h9) dX2_begin_69 ?_
  refine j_iload_n E 3 rfl rfl dX2_begin_72 ?_
  refine j_dup2 E rfl rfl dX2_begin_73 ?_
  obtain ⟨b20, h⟩ := job_else h
  refine j_iald E 24 0 (wX_g24 ad cI cZ _) rfl b20 dX2_begin_74 ?_
  refine j_iload_n E 2 rfl rfl dX2_begin_75 ?_
  obtain ⟨r21, er21, h⟩ := jbd h
  refine j_callSNi E (As := [.int a1]) (c_X5_bit er21) ⟨va_cnB 1 E.1.2.2.2.2 gX2_begin_X5_bit_n50 rfl rfl rfl (E.2.2.2.1.2 _ (List.mem_of_getElem? (i := 4) rfl)) (E.1.2.2.2.2 _ (List.mem_of_getElem? (i := 12) rfl)) (by decide +kernel) ⟨Nat.le_of_ble_eq_true rfl, Nat.le_of_ble_eq_true rfl⟩, E.1.2.2.2.2 _ (List.mem_of_getElem? (i := 11) rfl), trivial⟩ rfl rfl (Nat.le_of_ble_eq_true rfl) ⟨Nat.zero_le _, Nat.zero_le _⟩ dX2_begin_76 ?_
  refine j_ior E dX2_begin_79 ?_
  obtain ⟨b22, h⟩ := job_else h
  obtain ⟨s23, es23, h⟩ := jle h
  refine j_iast E 24 0 (wX_g24 ad cI cZ _) rfl (wX_s24 ad cI cZ _ _) b22 dX2_begin_80 ?_
  refine j_st es23 ?_
  refine j_aload_n E 1 rfl rfl dX2_begin_81 ?_
  refine j_dup E rfl dX2_begin_82 ?_
  refine j_get E 15 (wX_g15 ad cI cZ _) rfl 9 rfl in_X2_begin_X2 (by decide) (List.mem_of_getElem? (i := 1) rfl) (fun _ h9 => h9) dX2_begin_83 ?_
  refine j_iconst E (kc_1) dX2_begin_86 ?_
  refine j_iadd E dX2_begin_87 ?_
  obtain ⟨s24, es24, h⟩ := jle h
  refine j_put E 15 (wX_g15 ad cI cZ _) rfl 9 (ty := .int) (wX_p15_9 ad cI cZ _ _) tyX2_ok nmX2 in_X2_begin_X2 (by decide) (List.mem_of_getElem? (i := 1) rfl) (fun _ h9 => h9) rfl (tyX2_ok 9 (by decide)) rfl rfl (Nat.le_of_ble_eq_true rfl) dX2_begin_88 ?_
  refine j_st es24 ?_
  refine j_iload_n E 0 rfl rfl dX2_begin_91 ?_
  exact j_iret E hr rfl (Option.some.inj h) dX2_begin_92
abbrev rm_X2_countLook : Room := { frames := 1, cells := 0, slots := 0, locals := 24 }
theorem in_X2_countLook_X2 : ∀ w ∈ u_ws RX2 TX2 10, w ∈ wsX2_countLook := fun w h => (List.mem_cons_of_mem _ (List.mem_append_right _ h))
def f_X2_countLook (st : jS) (a1 : Int32) : Option jS :=
  if (st.2 2) ≤ 0 then
    some st
  else
  bif job ((st.2 2) - 1) 101 then none else
  bif job ((st.2 2) - 1) 101 then none else
  jl (jas st 20 ((st.2 2) - 1) (if (jag st 20 ((st.2 2) - 1)) < a1 then a1 else (jag st 20 ((st.2 2) - 1)))) fun s4 =>
  some s4
set_option maxHeartbeats 4000000 in
set_option maxRecDepth 100000 in
theorem c_X2_countLook {l : Launch} {D : va_G} {ad : Nat → Nat} {cI cZ : ClassId} {st : jS} {a1 : Int32} {o : jS} (h : f_X2_countLook st a1 = some o) : CtV l D (jT cI cZ) (wX ad cI cZ) yX2_countLook wsX2_countLook (rm_X2_countLook) [.ref (ad 15), .int a1] st o := by
  refine ctV_of (o := o) (cc := cX2_countLook) (nL := 2) (own := RX2) (by decide) rfl rfl (Nat.le_of_ble_eq_true rfl) (lv0 := [(0, .ref (ad 15)), (1, .int a1)]) rfl ?_
  intro p e s m args below meth c A E hr
  rw [f_X2_countLook] at h
  refine j_aload_n E 0 rfl rfl dX2_countLook_0 ?_
  refine j_get E 15 (wX_g15 ad cI cZ _) rfl 9 rfl in_X2_countLook_X2 (by decide) (List.mem_of_getElem? (i := 1) rfl) (fun _ h9 => h9) dX2_countLook_1 ?_
  refine j_if_le E (tgt := 33) (by decide) dX2_countLook_4 (fun c1 => ?_) (fun c1 => ?_)
  · have h := jit h c1
    exact j_vret E hr (Option.some.inj h) dX2_countLook_33
  · have h := jif h c1
    refine j_aload_n E 0 rfl rfl dX2_countLook_7 ?_
    refine j_get E 15 (wX_g15 ad cI cZ _) rfl 4 rfl in_X2_countLook_X2 (by decide) (List.mem_of_getElem? (i := 2) rfl) (fun _ h9 => h9) dX2_countLook_8 ?_
    refine j_aload_n E 0 rfl rfl dX2_countLook_11 ?_
    refine j_get E 15 (wX_g15 ad cI cZ _) rfl 9 rfl in_X2_countLook_X2 (by decide) (List.mem_of_getElem? (i := 1) rfl) (fun _ h9 => h9) dX2_countLook_12 ?_
    refine j_iconst E (kc_1) dX2_countLook_15 ?_
    refine j_isub E dX2_countLook_16 ?_
    refine j_aload_n E 0 rfl rfl dX2_countLook_17 ?_
    refine j_get E 15 (wX_g15 ad cI cZ _) rfl 4 rfl in_X2_countLook_X2 (by decide) (List.mem_of_getElem? (i := 2) rfl) (fun _ h9 => h9) dX2_countLook_18 ?_
    refine j_aload_n E 0 rfl rfl dX2_countLook_21 ?_
    refine j_get E 15 (wX_g15 ad cI cZ _) rfl 9 rfl in_X2_countLook_X2 (by decide) (List.mem_of_getElem? (i := 1) rfl) (fun _ h9 => h9) dX2_countLook_22 ?_
    refine j_iconst E (kc_1) dX2_countLook_25 ?_
    refine j_isub E dX2_countLook_26 ?_
    obtain ⟨b2, h⟩ := job_else h
    refine j_iald E 20 0 (wX_g20 ad cI cZ _) rfl b2 dX2_countLook_27 ?_
    refine j_iload_n E 1 rfl rfl dX2_countLook_28 ?_
    refine j_mmax E (List.mem_of_getElem? (i := 3) rfl) (List.mem_of_getElem? (i := 4) rfl) (List.mem_of_getElem? (i := 5) rfl) (List.mem_of_getElem? (i := 6) rfl) (Nat.le_of_ble_eq_true rfl) (Nat.le_of_ble_eq_true rfl) ⟨Nat.zero_le _, Nat.zero_le _⟩ dX2_countLook_29 ?_
    obtain ⟨b3, h⟩ := job_else h
    obtain ⟨s4, es4, h⟩ := jle h
    refine j_iast E 20 0 (wX_g20 ad cI cZ _) rfl (wX_s20 ad cI cZ _ _) b3 dX2_countLook_32 ?_
    refine j_st es4 ?_
    exact j_vret E hr (Option.some.inj h) dX2_countLook_33
abbrev rm_X2_countNames : Room := { frames := 0, cells := 0, slots := 0, locals := 0 }
theorem in_X2_countNames_X2 : ∀ w ∈ u_ws RX2 TX2 10, w ∈ wsX2_countNames := fun w h => (List.mem_cons_of_mem _ (List.mem_append_right _ h))
def f_X2_countNames (st : jS) (a1 : Int32) (a2 : Int32) : Option jS :=
  if (st.2 2) ≤ 0 then
    some st
  else
  bif job ((st.2 2) - 1) 101 then none else
  if (jag st 17 ((st.2 2) - 1)) = a2 then
    bif job ((st.2 2) - 1) 101 then none else
    bif job ((st.2 2) - 1) 101 then none else
    jl (jas st 21 ((st.2 2) - 1) ((jag st 21 ((st.2 2) - 1)) ||| a1)) fun s6 =>
    some s6
  else
  some st
set_option maxHeartbeats 4000000 in
set_option maxRecDepth 100000 in
theorem c_X2_countNames {l : Launch} {D : va_G} {ad : Nat → Nat} {cI cZ : ClassId} {st : jS} {a1 : Int32} {a2 : Int32} {o : jS} (h : f_X2_countNames st a1 a2 = some o) : CtV l D (jT cI cZ) (wX ad cI cZ) yX2_countNames wsX2_countNames (rm_X2_countNames) [.ref (ad 15), .int a1, .int a2] st o := by
  refine ctV_of (o := o) (cc := cX2_countNames) (nL := 3) (own := RX2) (by decide) rfl rfl (Nat.le_of_ble_eq_true rfl) (lv0 := [(0, .ref (ad 15)), (1, .int a1), (2, .int a2)]) rfl ?_
  intro p e s m args below meth c A E hr
  rw [f_X2_countNames] at h
  refine j_aload_n E 0 rfl rfl dX2_countNames_0 ?_
  refine j_get E 15 (wX_g15 ad cI cZ _) rfl 9 rfl in_X2_countNames_X2 (by decide) (List.mem_of_getElem? (i := 1) rfl) (fun _ h9 => h9) dX2_countNames_1 ?_
  refine j_if_le E (tgt := 37) (by decide) dX2_countNames_4 (fun c1 => ?_) (fun c1 => ?_)
  · have h := jit h c1
    exact j_vret E hr (Option.some.inj h) dX2_countNames_37
  · have h := jif h c1
    refine j_aload_n E 0 rfl rfl dX2_countNames_7 ?_
    refine j_get E 15 (wX_g15 ad cI cZ _) rfl 1 rfl in_X2_countNames_X2 (by decide) (List.mem_of_getElem? (i := 2) rfl) (fun _ h9 => h9) dX2_countNames_8 ?_
    refine j_aload_n E 0 rfl rfl dX2_countNames_11 ?_
    refine j_get E 15 (wX_g15 ad cI cZ _) rfl 9 rfl in_X2_countNames_X2 (by decide) (List.mem_of_getElem? (i := 1) rfl) (fun _ h9 => h9) dX2_countNames_12 ?_
    refine j_iconst E (kc_1) dX2_countNames_15 ?_
    refine j_isub E dX2_countNames_16 ?_
    obtain ⟨b2, h⟩ := job_else h
    refine j_iald E 17 0 (wX_g17 ad cI cZ _) rfl b2 dX2_countNames_17 ?_
    refine j_iload_n E 2 rfl rfl dX2_countNames_18 ?_
    refine j_icmp_ne E (tgt := 37) (by decide) dX2_countNames_19 (fun c3 => ?_) (fun c3 => ?_)
    · have h := jif h c3
      exact j_vret E hr (Option.some.inj h) dX2_countNames_37
    · have h := jit h c3
      refine j_aload_n E 0 rfl rfl dX2_countNames_22 ?_
      refine j_get E 15 (wX_g15 ad cI cZ _) rfl 5 rfl in_X2_countNames_X2 (by decide) (List.mem_of_getElem? (i := 3) rfl) (fun _ h9 => h9) dX2_countNames_23 ?_
      refine j_aload_n E 0 rfl rfl dX2_countNames_26 ?_
      refine j_get E 15 (wX_g15 ad cI cZ _) rfl 9 rfl in_X2_countNames_X2 (by decide) (List.mem_of_getElem? (i := 1) rfl) (fun _ h9 => h9) dX2_countNames_27 ?_
      refine j_iconst E (kc_1) dX2_countNames_30 ?_
      refine j_isub E dX2_countNames_31 ?_
      refine j_dup2 E rfl rfl dX2_countNames_32 ?_
      obtain ⟨b4, h⟩ := job_else h
      refine j_iald E 21 0 (wX_g21 ad cI cZ _) rfl b4 dX2_countNames_33 ?_
      refine j_iload_n E 1 rfl rfl dX2_countNames_34 ?_
      refine j_ior E dX2_countNames_35 ?_
      obtain ⟨b5, h⟩ := job_else h
      obtain ⟨s6, es6, h⟩ := jle h
      refine j_iast E 21 0 (wX_g21 ad cI cZ _) rfl (wX_s21 ad cI cZ _ _) b5 dX2_countNames_36 ?_
      refine j_st es6 ?_
      exact j_vret E hr (Option.some.inj h) dX2_countNames_37
abbrev rm_X2_countAsked : Room := { frames := 1, cells := 0, slots := 0, locals := 24 }
theorem in_X2_countAsked_X2 : ∀ w ∈ u_ws RX2 TX2 10, w ∈ wsX2_countAsked := fun w h => (List.mem_cons_of_mem _ (List.mem_append_right _ h))
def f_X2_countAsked (st : jS) (a1 : Int32) : Option jS :=
  if (st.2 2) ≤ 0 then
    some st
  else
  bif job ((st.2 2) - 1) 101 then none else
  bif job ((st.2 2) - 1) 101 then none else
  jl (jas st 22 ((st.2 2) - 1) (if a1 < (jag st 22 ((st.2 2) - 1)) then a1 else (jag st 22 ((st.2 2) - 1)))) fun s4 =>
  some s4
set_option maxHeartbeats 4000000 in
set_option maxRecDepth 100000 in
theorem c_X2_countAsked {l : Launch} {D : va_G} {ad : Nat → Nat} {cI cZ : ClassId} {st : jS} {a1 : Int32} {o : jS} (h : f_X2_countAsked st a1 = some o) : CtV l D (jT cI cZ) (wX ad cI cZ) yX2_countAsked wsX2_countAsked (rm_X2_countAsked) [.ref (ad 15), .int a1] st o := by
  refine ctV_of (o := o) (cc := cX2_countAsked) (nL := 2) (own := RX2) (by decide) rfl rfl (Nat.le_of_ble_eq_true rfl) (lv0 := [(0, .ref (ad 15)), (1, .int a1)]) rfl ?_
  intro p e s m args below meth c A E hr
  rw [f_X2_countAsked] at h
  refine j_aload_n E 0 rfl rfl dX2_countAsked_0 ?_
  refine j_get E 15 (wX_g15 ad cI cZ _) rfl 9 rfl in_X2_countAsked_X2 (by decide) (List.mem_of_getElem? (i := 1) rfl) (fun _ h9 => h9) dX2_countAsked_1 ?_
  refine j_if_le E (tgt := 33) (by decide) dX2_countAsked_4 (fun c1 => ?_) (fun c1 => ?_)
  · have h := jit h c1
    exact j_vret E hr (Option.some.inj h) dX2_countAsked_33
  · have h := jif h c1
    refine j_aload_n E 0 rfl rfl dX2_countAsked_7 ?_
    refine j_get E 15 (wX_g15 ad cI cZ _) rfl 6 rfl in_X2_countAsked_X2 (by decide) (List.mem_of_getElem? (i := 2) rfl) (fun _ h9 => h9) dX2_countAsked_8 ?_
    refine j_aload_n E 0 rfl rfl dX2_countAsked_11 ?_
    refine j_get E 15 (wX_g15 ad cI cZ _) rfl 9 rfl in_X2_countAsked_X2 (by decide) (List.mem_of_getElem? (i := 1) rfl) (fun _ h9 => h9) dX2_countAsked_12 ?_
    refine j_iconst E (kc_1) dX2_countAsked_15 ?_
    refine j_isub E dX2_countAsked_16 ?_
    refine j_aload_n E 0 rfl rfl dX2_countAsked_17 ?_
    refine j_get E 15 (wX_g15 ad cI cZ _) rfl 6 rfl in_X2_countAsked_X2 (by decide) (List.mem_of_getElem? (i := 2) rfl) (fun _ h9 => h9) dX2_countAsked_18 ?_
    refine j_aload_n E 0 rfl rfl dX2_countAsked_21 ?_
    refine j_get E 15 (wX_g15 ad cI cZ _) rfl 9 rfl in_X2_countAsked_X2 (by decide) (List.mem_of_getElem? (i := 1) rfl) (fun _ h9 => h9) dX2_countAsked_22 ?_
    refine j_iconst E (kc_1) dX2_countAsked_25 ?_
    refine j_isub E dX2_countAsked_26 ?_
    obtain ⟨b2, h⟩ := job_else h
    refine j_iald E 22 0 (wX_g22 ad cI cZ _) rfl b2 dX2_countAsked_27 ?_
    refine j_iload_n E 1 rfl rfl dX2_countAsked_28 ?_
    refine j_mmin E (List.mem_of_getElem? (i := 3) rfl) (List.mem_of_getElem? (i := 4) rfl) (List.mem_of_getElem? (i := 5) rfl) (List.mem_of_getElem? (i := 6) rfl) (Nat.le_of_ble_eq_true rfl) (Nat.le_of_ble_eq_true rfl) ⟨Nat.zero_le _, Nat.zero_le _⟩ dX2_countAsked_29 ?_
    obtain ⟨b3, h⟩ := job_else h
    obtain ⟨s4, es4, h⟩ := jle h
    refine j_iast E 22 0 (wX_g22 ad cI cZ _) rfl (wX_s22 ad cI cZ _ _) b3 dX2_countAsked_32 ?_
    refine j_st es4 ?_
    exact j_vret E hr (Option.some.inj h) dX2_countAsked_33
abbrev rm_X2_end : Room := { frames := 2, cells := 0, slots := 0, locals := 45 }
theorem in_X2_end_X2 : ∀ w ∈ u_ws RX2 TX2 10, w ∈ wsX2_end := fun w h => (List.mem_cons_of_mem _ (List.mem_append_right _ h))
def f_X2_end (st : jS)  : Option jS :=
  if (st.2 2) = 0 then
    some st
  else
  jl (jis st 2 ((st.2 2) - 1)) fun s2 =>
  jl (s2.2 2) fun x3 =>
  bif job x3 101 then none else
  jl (jag s2 17 x3) fun x5 =>
  bif job x3 101 then none else
  (f_X5_cell (jag s2 16 x3) x5).bind fun r7 =>
  bif job r7 410 then none else
  jl (jas s2 23 r7 (-1)) fun s9 =>
  bif job x5 41 then none else
  bif job x3 101 then none else
  (f_X5_bit (jag s9 16 x3)).bind fun r12 =>
  bif job x5 41 then none else
  jl (jas s9 24 x5 ((jag s9 24 x5) &&& (r12 ^^^ (-1)))) fun s14 =>
  bif job x3 101 then none else
  (f_X2_countLook s14 (jag s14 20 x3)).bind fun r16 =>
  bif job x3 101 then none else
  (f_X2_countNames r16 (jag r16 21 x3) x5).bind fun r18 =>
  bif job x3 101 then none else
  (f_X2_countAsked r18 (jag r18 22 x3)).bind fun r20 =>
  some r20
set_option maxHeartbeats 4000000 in
set_option maxRecDepth 100000 in
theorem c_X2_end {l : Launch} {D : va_G} {ad : Nat → Nat} {cI cZ : ClassId} {st : jS}  {o : jS} (h : f_X2_end st = some o) : CtV l D (jT cI cZ) (wX ad cI cZ) yX2_end wsX2_end (rm_X2_end) [.ref (ad 15)] st o := by
  refine ctV_of (o := o) (cc := cX2_end) (nL := 3) (own := RX2) (by decide) rfl rfl (Nat.le_of_ble_eq_true rfl) (lv0 := [(0, .ref (ad 15))]) rfl ?_
  intro p e s m args below meth c A E hr
  rw [f_X2_end] at h
  refine j_aload_n E 0 rfl rfl dX2_end_0 ?_
  refine j_get E 15 (wX_g15 ad cI cZ _) rfl 9 rfl in_X2_end_X2 (by decide) (List.mem_of_getElem? (i := 1) rfl) (fun _ h9 => h9) dX2_end_1 ?_
  refine j_if_ne E (tgt := 8) (by decide) dX2_end_4 (fun c1 => ?_) (fun c1 => ?_)
  · have h := jif h c1
    refine j_aload_n E 0 rfl rfl dX2_end_8 ?_
    refine j_dup E rfl dX2_end_9 ?_
    refine j_get E 15 (wX_g15 ad cI cZ _) rfl 9 rfl in_X2_end_X2 (by decide) (List.mem_of_getElem? (i := 1) rfl) (fun _ h9 => h9) dX2_end_10 ?_
    refine j_iconst E (kc_1) dX2_end_13 ?_
    refine j_isub E dX2_end_14 ?_
    obtain ⟨s2, es2, h⟩ := jle h
    refine j_put E 15 (wX_g15 ad cI cZ _) rfl 9 (ty := .int) (wX_p15_9 ad cI cZ _ _) tyX2_ok nmX2 in_X2_end_X2 (by decide) (List.mem_of_getElem? (i := 1) rfl) (fun _ h9 => h9) rfl (tyX2_ok 9 (by decide)) rfl rfl (Nat.le_of_ble_eq_true rfl) dX2_end_15 ?_
    refine j_st es2 ?_
    refine j_aload_n E 0 rfl rfl dX2_end_18 ?_
    refine j_get E 15 (wX_g15 ad cI cZ _) rfl 9 rfl in_X2_end_X2 (by decide) (List.mem_of_getElem? (i := 1) rfl) (fun _ h9 => h9) dX2_end_19 ?_
    obtain ⟨x3, ex3, h⟩ := jle h
    refine j_topi ex3 ?_
    refine j_istore_n E rfl (by decide) (lv' := [(1, .int x3), (0, .ref (ad 15))]) rfl dX2_end_22 ?_
    refine j_aload_n E 1 rfl rfl dX2_end_23 ?_
    refine j_get E 15 (wX_g15 ad cI cZ _) rfl 1 rfl in_X2_end_X2 (by decide) (List.mem_of_getElem? (i := 2) rfl) (fun _ h9 => h9) dX2_end_24 ?_
    refine j_iload_n E 0 rfl rfl dX2_end_27 ?_
    obtain ⟨b4, h⟩ := job_else h
    refine j_iald E 17 0 (wX_g17 ad cI cZ _) rfl b4 dX2_end_28 ?_
    obtain ⟨x5, ex5, h⟩ := jle h
    refine j_topi ex5 ?_
    refine j_istore_n E rfl (by decide) (lv' := [(2, .int x5), (1, .int x3), (0, .ref (ad 15))]) rfl dX2_end_29 ?_
    refine j_aload_n E 2 rfl rfl dX2_end_30 ?_
    refine j_get E 15 (wX_g15 ad cI cZ _) rfl 7 rfl in_X2_end_X2 (by decide) (List.mem_of_getElem? (i := 3) rfl) (fun _ h9 => h9) dX2_end_31 ?_
    refine j_aload_n E 2 rfl rfl dX2_end_34 ?_
    refine j_get E 15 (wX_g15 ad cI cZ _) rfl 0 rfl in_X2_end_X2 (by decide) (List.mem_of_getElem? (i := 4) rfl) (fun _ h9 => h9) dX2_end_35 ?_
    refine j_iload_n E 1 rfl rfl dX2_end_38 ?_
    obtain ⟨b6, h⟩ := job_else h
    refine j_iald E 16 0 (wX_g16 ad cI cZ _) rfl b6 dX2_end_39 ?_
    refine j_iload_n E 0 rfl rfl dX2_end_40 ?_
    obtain ⟨r7, er7, h⟩ := jbd h
    refine j_callSNi E (As := [.int (jag s2 16 x3), .int x5]) (c_X5_cell er7) ⟨va_cnB 2 E.1.2.2.2.2 gX2_end_X5_cell_n54 rfl rfl rfl (E.2.2.2.1.2 _ (List.mem_of_getElem? (i := 5) rfl)) (E.1.2.2.2.2 _ (List.mem_of_getElem? (i := 10) rfl)) (by decide +kernel) ⟨Nat.le_of_ble_eq_true rfl, Nat.le_of_ble_eq_true rfl⟩, E.1.2.2.2.2 _ (List.mem_of_getElem? (i := 9) rfl), trivial⟩ rfl rfl (Nat.le_of_ble_eq_true rfl) ⟨Nat.zero_le _, Nat.zero_le _⟩ dX2_end_41 ?_
    refine j_iconst E (kc_m1) dX2_end_44 ?_
    obtain ⟨b8, h⟩ := job_else h
    obtain ⟨s9, es9, h⟩ := jle h
    refine j_iast E 23 0 (wX_g23 ad cI cZ _) rfl (wX_s23 ad cI cZ _ _) b8 dX2_end_45 ?_
    refine j_st es9 ?_
    refine j_aload_n E 2 rfl rfl dX2_end_46 ?_
    refine j_get E 15 (wX_g15 ad cI cZ _) rfl 8 rfl in_X2_end_X2 (by decide) (List.mem_of_getElem? (i := 5) rfl) (fun _ h9 => h9) dX2_end_47 ?_
    refine j_iload_n E 0 rfl rfl dX2_end_50 ?_
    refine j_dup2 E rfl rfl dX2_end_51 ?_
    obtain ⟨b10, h⟩ := job_else h
    refine j_iald E 24 0 (wX_g24 ad cI cZ _) rfl b10 dX2_end_52 ?_
    refine j_aload_n E 2 rfl rfl dX2_end_53 ?_
    refine j_get E 15 (wX_g15 ad cI cZ _) rfl 0 rfl in_X2_end_X2 (by decide) (List.mem_of_getElem? (i := 4) rfl) (fun _ h9 => h9) dX2_end_54 ?_
    refine j_iload_n E 1 rfl rfl dX2_end_57 ?_
    obtain ⟨b11, h⟩ := job_else h
    refine j_iald E 16 0 (wX_g16 ad cI cZ _) rfl b11 dX2_end_58 ?_
    obtain ⟨r12, er12, h⟩ := jbd h
    refine j_callSNi E (As := [.int (jag s9 16 x3)]) (c_X5_bit er12) ⟨va_cnB 1 E.1.2.2.2.2 gX2_end_X5_bit_n50 rfl rfl rfl (E.2.2.2.1.2 _ (List.mem_of_getElem? (i := 4) rfl)) (E.1.2.2.2.2 _ (List.mem_of_getElem? (i := 10) rfl)) (by decide +kernel) ⟨Nat.le_of_ble_eq_true rfl, Nat.le_of_ble_eq_true rfl⟩, E.1.2.2.2.2 _ (List.mem_of_getElem? (i := 12) rfl), trivial⟩ rfl rfl (Nat.le_of_ble_eq_true rfl) ⟨Nat.zero_le _, Nat.zero_le _⟩ dX2_end_59 ?_
    refine j_iconst E (kc_m1) dX2_end_62 ?_
    refine j_ixor E dX2_end_63 ?_
    refine j_iand E dX2_end_64 ?_
    obtain ⟨b13, h⟩ := job_else h
    obtain ⟨s14, es14, h⟩ := jle h
    refine j_iast E 24 0 (wX_g24 ad cI cZ _) rfl (wX_s24 ad cI cZ _ _) b13 dX2_end_65 ?_
    refine j_st es14 ?_
    refine j_aload_n E 2 rfl rfl dX2_end_66 ?_
    refine j_aload_n E 2 rfl rfl dX2_end_67 ?_
    refine j_get E 15 (wX_g15 ad cI cZ _) rfl 4 rfl in_X2_end_X2 (by decide) (List.mem_of_getElem? (i := 6) rfl) (fun _ h9 => h9) dX2_end_68 ?_
    refine j_iload_n E 1 rfl rfl dX2_end_71 ?_
    obtain ⟨b15, h⟩ := job_else h
    refine j_iald E 20 0 (wX_g20 ad cI cZ _) rfl b15 dX2_end_72 ?_
    obtain ⟨r16, er16, h⟩ := jbd h
    refine j_callVv E (As := [.int (jag s14 20 x3)]) (c_X2_countLook er16) (cwV 1 E.1.2.2.2.2 gX2_end_X2_countLook rfl rfl rfl (by decide +kernel) ⟨Nat.le_of_ble_eq_true rfl, Nat.le_of_ble_eq_true rfl⟩) (wX_g15 ad cI cZ _) rfl rfl rfl (Nat.le_of_ble_eq_true rfl) ⟨Nat.zero_le _, Nat.zero_le _⟩ dX2_end_73 ?_
    refine j_aload_n E 2 rfl rfl dX2_end_76 ?_
    refine j_aload_n E 2 rfl rfl dX2_end_77 ?_
    refine j_get E 15 (wX_g15 ad cI cZ _) rfl 5 rfl in_X2_end_X2 (by decide) (List.mem_of_getElem? (i := 7) rfl) (fun _ h9 => h9) dX2_end_78 ?_
    refine j_iload_n E 1 rfl rfl dX2_end_81 ?_
    obtain ⟨b17, h⟩ := job_else h
    refine j_iald E 21 0 (wX_g21 ad cI cZ _) rfl b17 dX2_end_82 ?_
    refine j_iload_n E 0 rfl rfl dX2_end_83 ?_
    obtain ⟨r18, er18, h⟩ := jbd h
    refine j_callVv E (As := [.int (jag r16 21 x3), .int x5]) (c_X2_countNames er18) (cwV 2 E.1.2.2.2.2 gX2_end_X2_countNames rfl rfl rfl (by decide +kernel) ⟨Nat.le_of_ble_eq_true rfl, Nat.le_of_ble_eq_true rfl⟩) (wX_g15 ad cI cZ _) rfl rfl rfl (Nat.le_of_ble_eq_true rfl) ⟨Nat.zero_le _, Nat.zero_le _⟩ dX2_end_84 ?_
    refine j_aload_n E 2 rfl rfl dX2_end_87 ?_
    refine j_aload_n E 2 rfl rfl dX2_end_88 ?_
    refine j_get E 15 (wX_g15 ad cI cZ _) rfl 6 rfl in_X2_end_X2 (by decide) (List.mem_of_getElem? (i := 8) rfl) (fun _ h9 => h9) dX2_end_89 ?_
    refine j_iload_n E 1 rfl rfl dX2_end_92 ?_
    obtain ⟨b19, h⟩ := job_else h
    refine j_iald E 22 0 (wX_g22 ad cI cZ _) rfl b19 dX2_end_93 ?_
    obtain ⟨r20, er20, h⟩ := jbd h
    refine j_callVv E (As := [.int (jag r18 22 x3)]) (c_X2_countAsked er20) (cwV 1 E.1.2.2.2.2 gX2_end_X2_countAsked rfl rfl rfl (by decide +kernel) ⟨Nat.le_of_ble_eq_true rfl, Nat.le_of_ble_eq_true rfl⟩) (wX_g15 ad cI cZ _) rfl rfl rfl (Nat.le_of_ble_eq_true rfl) ⟨Nat.zero_le _, Nat.zero_le _⟩ dX2_end_94 ?_
    exact j_vret E hr (Option.some.inj h) dX2_end_97
  · have h := jit h c1
    exact j_vret E hr (Option.some.inj h) dX2_end_7
abbrev rm_X2_askSeed : Room := { frames := 2, cells := 0, slots := 0, locals := 45 }
theorem in_X2_askSeed_X2 : ∀ w ∈ u_ws RX2 TX2 10, w ∈ wsX2_askSeed := fun w h => (List.mem_cons_of_mem _ (List.mem_append_right _ h))
def f_X2_askSeed (st : jS) (a1 : Int32) : Option (Int32 × jS) :=
  bif job a1 101 then none else
  jl (jas st 19 a1 (vp_nar .boolean 1)) fun s2 =>
  (f_X2_countAsked s2 a1).bind fun r3 =>
  bif job a1 101 then none else
  some ((jag r3 18 a1), r3)
set_option maxHeartbeats 4000000 in
set_option maxRecDepth 100000 in
theorem c_X2_askSeed {l : Launch} {D : va_G} {ad : Nat → Nat} {cI cZ : ClassId} {st : jS} {a1 : Int32} {o : (Int32 × jS)} (h : f_X2_askSeed st a1 = some o) : CtI l D (jT cI cZ) (wX ad cI cZ) yX2_askSeed wsX2_askSeed (rm_X2_askSeed) [.ref (ad 15), .int a1] st o.1 o.2 := by
  refine ctI_of (o := o) (cc := cX2_askSeed) (nL := 2) (own := RX2) (by decide) rfl rfl (Nat.le_of_ble_eq_true rfl) (lv0 := [(0, .ref (ad 15)), (1, .int a1)]) rfl ?_
  intro p e s m args below meth c A E hr
  rw [f_X2_askSeed] at h
  refine j_aload_n E 0 rfl rfl dX2_askSeed_0 ?_
  refine j_get E 15 (wX_g15 ad cI cZ _) rfl 3 rfl in_X2_askSeed_X2 (by decide) (List.mem_of_getElem? (i := 1) rfl) (fun _ h9 => h9) dX2_askSeed_1 ?_
  refine j_iload_n E 1 rfl rfl dX2_askSeed_4 ?_
  refine j_iconst E (kc_1) dX2_askSeed_5 ?_
  obtain ⟨b1, h⟩ := job_else h
  obtain ⟨s2, es2, h⟩ := jle h
  refine j_zast E 19 1 (wX_g19 ad cI cZ _) rfl (wX_s19 ad cI cZ _ _) b1 dX2_askSeed_6 ?_
  refine j_st es2 ?_
  refine j_aload_n E 0 rfl rfl dX2_askSeed_7 ?_
  refine j_iload_n E 1 rfl rfl dX2_askSeed_8 ?_
  obtain ⟨r3, er3, h⟩ := jbd h
  refine j_callVv E (As := [.int a1]) (c_X2_countAsked er3) (cwV 1 E.1.2.2.2.2 gX2_askSeed_X2_countAsked rfl rfl rfl (by decide +kernel) ⟨Nat.le_of_ble_eq_true rfl, Nat.le_of_ble_eq_true rfl⟩) (wX_g15 ad cI cZ _) rfl rfl rfl (Nat.le_of_ble_eq_true rfl) ⟨Nat.zero_le _, Nat.zero_le _⟩ dX2_askSeed_9 ?_
  refine j_aload_n E 0 rfl rfl dX2_askSeed_12 ?_
  refine j_get E 15 (wX_g15 ad cI cZ _) rfl 2 rfl in_X2_askSeed_X2 (by decide) (List.mem_of_getElem? (i := 2) rfl) (fun _ h9 => h9) dX2_askSeed_13 ?_
  refine j_iload_n E 1 rfl rfl dX2_askSeed_16 ?_
  obtain ⟨b4, h⟩ := job_else h
  refine j_iald E 18 0 (wX_g18 ad cI cZ _) rfl b4 dX2_askSeed_17 ?_
  exact j_iret E hr rfl (Option.some.inj h) dX2_askSeed_18
abbrev rm_X2_askedEarlierOne : Room := { frames := 0, cells := 0, slots := 0, locals := 0 }
theorem in_X2_askedEarlierOne_X2 : ∀ w ∈ u_ws RX2 TX2 10, w ∈ wsX2_askedEarlierOne := fun w h => (List.mem_cons_of_mem _ (List.mem_append_right _ h))
def f_X2_askedEarlierOne (st : jS) (a1 : Int32) : Option (Int32 × jS) :=
  bif job a1 101 then none else
  if (jag st 22 a1) ≥ a1 then
    some (0, st)
  else
  some (1, st)
set_option maxHeartbeats 4000000 in
set_option maxRecDepth 100000 in
theorem c_X2_askedEarlierOne {l : Launch} {D : va_G} {ad : Nat → Nat} {cI cZ : ClassId} {st : jS} {a1 : Int32} {o : (Int32 × jS)} (h : f_X2_askedEarlierOne st a1 = some o) : CtI l D (jT cI cZ) (wX ad cI cZ) yX2_askedEarlierOne wsX2_askedEarlierOne (rm_X2_askedEarlierOne) [.ref (ad 15), .int a1] st o.1 o.2 := by
  refine ctI_of (o := o) (cc := cX2_askedEarlierOne) (nL := 2) (own := RX2) (by decide) rfl rfl (Nat.le_of_ble_eq_true rfl) (lv0 := [(0, .ref (ad 15)), (1, .int a1)]) rfl ?_
  intro p e s m args below meth c A E hr
  rw [f_X2_askedEarlierOne] at h
  refine j_aload_n E 0 rfl rfl dX2_askedEarlierOne_0 ?_
  refine j_get E 15 (wX_g15 ad cI cZ _) rfl 6 rfl in_X2_askedEarlierOne_X2 (by decide) (List.mem_of_getElem? (i := 1) rfl) (fun _ h9 => h9) dX2_askedEarlierOne_1 ?_
  refine j_iload_n E 1 rfl rfl dX2_askedEarlierOne_4 ?_
  obtain ⟨b1, h⟩ := job_else h
  refine j_iald E 22 0 (wX_g22 ad cI cZ _) rfl b1 dX2_askedEarlierOne_5 ?_
  refine j_iload_n E 1 rfl rfl dX2_askedEarlierOne_6 ?_
  refine j_icmp_ge E (tgt := 14) (by decide) dX2_askedEarlierOne_7 (fun c2 => ?_) (fun c2 => ?_)
  · have h := jit h c2
    refine j_iconst E (kc_0) dX2_askedEarlierOne_14 ?_
    exact j_iret E hr rfl (Option.some.inj h) dX2_askedEarlierOne_15
  · have h := jif h c2
    refine j_iconst E (kc_1) dX2_askedEarlierOne_10 ?_
    refine j_goto E (tgt := 15) (by decide) dX2_askedEarlierOne_11 ?_
    exact j_iret E hr rfl (Option.some.inj h) dX2_askedEarlierOne_15
