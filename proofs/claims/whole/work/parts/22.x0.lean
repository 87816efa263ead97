abbrev rm_X0_isFull : Room := { frames := 0, cells := 0, slots := 0, locals := 0 }
theorem in_X0_isFull_X0 : ∀ w ∈ u_ws RX0 TX0 8, w ∈ wsX0_isFull := fun w h => (List.mem_cons_of_mem _ (List.mem_append_right _ h))
def f_X0_isFull (st : jS)  : Option (Int32 × jS) :=
  if (st.2 0) < 80 then
    some (0, st)
  else
  some (1, st)
set_option maxHeartbeats 4000000 in
set_option maxRecDepth 100000 in
theorem c_X0_isFull {l : Launch} {D : va_G} {ad : Nat → Nat} {cI cZ : ClassId} {st : jS}  {o : (Int32 × jS)} (h : f_X0_isFull st = some o) : CtI l D (jT cI cZ) (wX ad cI cZ) yX0_isFull wsX0_isFull (rm_X0_isFull) [.ref (ad 1)] st o.1 o.2 := by
  refine ctI_of (o := o) (cc := cX0_isFull) (nL := 1) (own := RX0) (by decide) rfl rfl (Nat.le_of_ble_eq_true rfl) (lv0 := [(0, .ref (ad 1))]) rfl ?_
  intro p e s m args below meth c A E hr
  rw [f_X0_isFull] at h
  refine j_aload_n E 0 rfl rfl dX0_isFull_0 ?_
  refine j_get E 1 (wX_g1 ad cI cZ _) rfl 4 rfl in_X0_isFull_X0 (by decide) (List.mem_of_getElem? (i := 1) rfl) (fun _ h9 => h9) dX0_isFull_1 ?_
  refine j_bipush E (kb_80) dX0_isFull_4 ?_
  refine j_icmp_lt E (tgt := 13) (by decide) dX0_isFull_6 (fun c1 => ?_) (fun c1 => ?_)
  · have h := jit h c1
    refine j_iconst E (kc_0) dX0_isFull_13 ?_
    exact j_iret E hr rfl (Option.some.inj h) dX0_isFull_14
  · have h := jif h c1
    refine j_iconst E (kc_1) dX0_isFull_9 ?_
    refine j_goto E (tgt := 14) (by decide) dX0_isFull_10 ?_
    exact j_iret E hr rfl (Option.some.inj h) dX0_isFull_14
abbrev rm_X0_has : Room := { frames := 0, cells := 0, slots := 0, locals := 0 }
theorem in_X0_has_X0 : ∀ w ∈ u_ws RX0 TX0 8, w ∈ wsX0_has := fun w h => (List.mem_cons_of_mem _ (List.mem_append_right _ h))
def f_X0_has (st : jS) (a1 : Int32) : Option (Int32 × jS) :=
  if a1 < 0 then
    some (0, st)
  else
  if a1 ≥ (st.2 0) then
    some (0, st)
  else
  some (1, st)
set_option maxHeartbeats 4000000 in
set_option maxRecDepth 100000 in
theorem c_X0_has {l : Launch} {D : va_G} {ad : Nat → Nat} {cI cZ : ClassId} {st : jS} {a1 : Int32} {o : (Int32 × jS)} (h : f_X0_has st a1 = some o) : CtI l D (jT cI cZ) (wX ad cI cZ) yX0_has wsX0_has (rm_X0_has) [.ref (ad 1), .int a1] st o.1 o.2 := by
  refine ctI_of (o := o) (cc := cX0_has) (nL := 2) (own := RX0) (by decide) rfl rfl (Nat.le_of_ble_eq_true rfl) (lv0 := [(0, .ref (ad 1)), (1, .int a1)]) rfl ?_
  intro p e s m args below meth c A E hr
  rw [f_X0_has] at h
  refine j_iload_n E 1 rfl rfl dX0_has_0 ?_
  refine j_if_lt E (tgt := 16) (by decide) dX0_has_1 (fun c1 => ?_) (fun c1 => ?_)
  · have h := jit h c1
    refine j_iconst E (kc_0) dX0_has_16 ?_
    exact j_iret E hr rfl (Option.some.inj h) dX0_has_17
  · have h := jif h c1
    refine j_iload_n E 1 rfl rfl dX0_has_4 ?_
    refine j_aload_n E 0 rfl rfl dX0_has_5 ?_
    refine j_get E 1 (wX_g1 ad cI cZ _) rfl 4 rfl in_X0_has_X0 (by decide) (List.mem_of_getElem? (i := 1) rfl) (fun _ h9 => h9) dX0_has_6 ?_
    refine j_icmp_ge E (tgt := 16) (by decide) dX0_has_9 (fun c2 => ?_) (fun c2 => ?_)
    · have h := jit h c2
      refine j_iconst E (kc_0) dX0_has_16 ?_
      exact j_iret E hr rfl (Option.some.inj h) dX0_has_17
    · have h := jif h c2
      refine j_iconst E (kc_1) dX0_has_12 ?_
      refine j_goto E (tgt := 17) (by decide) dX0_has_13 ?_
      exact j_iret E hr rfl (Option.some.inj h) dX0_has_17
abbrev rm_X0_add : Room := { frames := 0, cells := 0, slots := 0, locals := 0 }
theorem in_X0_add_X0 : ∀ w ∈ u_ws RX0 TX0 8, w ∈ wsX0_add := fun w h => (List.mem_cons_of_mem _ (List.mem_append_right _ h))
def f_X0_add (st : jS) (a1 : Int32) (a2 : Int32) (a3 : Int32) : Option (Int32 × jS) :=
  jl (st.2 0) fun x1 =>
  bif job x1 80 then none else
  jl (jas st 2 x1 a1) fun s3 =>
  bif job x1 80 then none else
  jl (jas s3 3 x1 a2) fun s5 =>
  bif job x1 80 then none else
  jl (jas s5 4 x1 a3) fun s7 =>
  jl (jis s7 0 ((s7.2 0) + 1)) fun s8 =>
  some (x1, s8)
set_option maxHeartbeats 4000000 in
set_option maxRecDepth 100000 in
theorem c_X0_add {l : Launch} {D : va_G} {ad : Nat → Nat} {cI cZ : ClassId} {st : jS} {a1 : Int32} {a2 : Int32} {a3 : Int32} {o : (Int32 × jS)} (h : f_X0_add st a1 a2 a3 = some o) : CtI l D (jT cI cZ) (wX ad cI cZ) yX0_add wsX0_add (rm_X0_add) [.ref (ad 1), .int a1, .int a2, .int a3] st o.1 o.2 := by
  refine ctI_of (o := o) (cc := cX0_add) (nL := 5) (own := RX0) (by decide) rfl rfl (Nat.le_of_ble_eq_true rfl) (lv0 := [(0, .ref (ad 1)), (1, .int a1), (2, .int a2), (3, .int a3)]) rfl ?_
  intro p e s m args below meth c A E hr
  rw [f_X0_add] at h
  refine j_aload_n E 0 rfl rfl dX0_add_0 ?_
  refine j_get E 1 (wX_g1 ad cI cZ _) rfl 4 rfl in_X0_add_X0 (by decide) (List.mem_of_getElem? (i := 1) rfl) (fun _ h9 => h9) dX0_add_1 ?_
  obtain ⟨x1, ex1, h⟩ := jle h
  refine j_topi ex1 ?_
  refine j_istore E (by decide) (lv' := [(4, .int x1), (0, .ref (ad 1)), (1, .int a1), (2, .int a2), (3, .int a3)]) rfl dX0_add_4 ?_
  refine j_aload_n E 1 rfl rfl dX0_add_6 ?_
  refine j_get E 1 (wX_g1 ad cI cZ _) rfl 0 rfl in_X0_add_X0 (by decide) (List.mem_of_getElem? (i := 2) rfl) (fun _ h9 => h9) dX0_add_7 ?_
  refine j_iload E 0 rfl dX0_add_10 ?_
  refine j_iload_n E 2 rfl rfl dX0_add_12 ?_
  obtain ⟨b2, h⟩ := job_else h
  obtain ⟨s3, es3, h⟩ := jle h
  refine j_iast E 2 0 (wX_g2 ad cI cZ _) rfl (wX_s2 ad cI cZ _ _) b2 dX0_add_13 ?_
  refine j_st es3 ?_
  refine j_aload_n E 1 rfl rfl dX0_add_14 ?_
  refine j_get E 1 (wX_g1 ad cI cZ _) rfl 1 rfl in_X0_add_X0 (by decide) (List.mem_of_getElem? (i := 3) rfl) (fun _ h9 => h9) dX0_add_15 ?_
  refine j_iload E 0 rfl dX0_add_18 ?_
  refine j_iload_n E 3 rfl rfl dX0_add_20 ?_
  obtain ⟨b4, h⟩ := job_else h
  obtain ⟨s5, es5, h⟩ := jle h
  refine j_iast E 3 0 (wX_g3 ad cI cZ _) rfl (wX_s3 ad cI cZ _ _) b4 dX0_add_21 ?_
  refine j_st es5 ?_
  refine j_aload_n E 1 rfl rfl dX0_add_22 ?_
  refine j_get E 1 (wX_g1 ad cI cZ _) rfl 2 rfl in_X0_add_X0 (by decide) (List.mem_of_getElem? (i := 4) rfl) (fun _ h9 => h9) dX0_add_23 ?_
  refine j_iload E 0 rfl dX0_add_26 ?_
  refine j_iload_n E 4 rfl rfl dX0_add_28 ?_
  obtain ⟨b6, h⟩ := job_else h
  obtain ⟨s7, es7, h⟩ := jle h
  refine j_iast E 4 0 (wX_g4 ad cI cZ _) rfl (wX_s4 ad cI cZ _ _) b6 dX0_add_29 ?_
  refine j_st es7 ?_
  refine j_aload_n E 1 rfl rfl dX0_add_30 ?_
  refine j_dup E rfl dX0_add_31 ?_
  refine j_get E 1 (wX_g1 ad cI cZ _) rfl 4 rfl in_X0_add_X0 (by decide) (List.mem_of_getElem? (i := 1) rfl) (fun _ h9 => h9) dX0_add_32 ?_
  refine j_iconst E (kc_1) dX0_add_35 ?_
  refine j_iadd E dX0_add_36 ?_
  obtain ⟨s8, es8, h⟩ := jle h
  refine j_put E 1 (wX_g1 ad cI cZ _) rfl 4 (ty := .int) (wX_p1_4 ad cI cZ _ _) tyX0_ok nmX0 in_X0_add_X0 (by decide) (List.mem_of_getElem? (i := 1) rfl) (fun _ h9 => h9) rfl (tyX0_ok 4 (by decide)) rfl rfl (Nat.le_of_ble_eq_true rfl) dX0_add_37 ?_
  refine j_st es8 ?_
  refine j_iload E 0 rfl dX0_add_40 ?_
  exact j_iret E hr rfl (Option.some.inj h) dX0_add_42
abbrev rm_X0_give : Room := { frames := 0, cells := 0, slots := 0, locals := 0 }
theorem in_X0_give_X0 : ∀ w ∈ u_ws RX0 TX0 8, w ∈ wsX0_give := fun w h => (List.mem_cons_of_mem _ (List.mem_append_right _ h))
def f_X0_give (st : jS) (a1 : Int32) (a2 : Int32) : Option (Int32 × jS) :=
  bif job a1 10 then none else
  jl (jag st 5 a1) fun x2 =>
  bif job a1 10 then none else
  jl (jas st 5 a1 a2) fun s4 =>
  some (x2, s4)
set_option maxHeartbeats 4000000 in
set_option maxRecDepth 100000 in
theorem c_X0_give {l : Launch} {D : va_G} {ad : Nat → Nat} {cI cZ : ClassId} {st : jS} {a1 : Int32} {a2 : Int32} {o : (Int32 × jS)} (h : f_X0_give st a1 a2 = some o) : CtI l D (jT cI cZ) (wX ad cI cZ) yX0_give wsX0_give (rm_X0_give) [.ref (ad 1), .int a1, .int a2] st o.1 o.2 := by
  refine ctI_of (o := o) (cc := cX0_give) (nL := 4) (own := RX0) (by decide) rfl rfl (Nat.le_of_ble_eq_true rfl) (lv0 := [(0, .ref (ad 1)), (1, .int a1), (2, .int a2)]) rfl ?_
  intro p e s m args below meth c A E hr
  rw [f_X0_give] at h
  refine j_aload_n E 0 rfl rfl dX0_give_0 ?_
  refine j_get E 1 (wX_g1 ad cI cZ _) rfl 3 rfl in_X0_give_X0 (by decide) (List.mem_of_getElem? (i := 1) rfl) (fun _ h9 => h9) dX0_give_1 ?_
  refine j_iload_n E 1 rfl rfl dX0_give_4 ?_
  obtain ⟨b1, h⟩ := job_else h
  refine j_iald E 5 0 (wX_g5 ad cI cZ _) rfl b1 dX0_give_5 ?_
  obtain ⟨x2, ex2, h⟩ := jle h
  refine j_topi ex2 ?_
  refine j_istore_n E rfl (by decide) (lv' := [(3, .int x2), (0, .ref (ad 1)), (1, .int a1), (2, .int a2)]) rfl dX0_give_6 ?_
  refine j_aload_n E 1 rfl rfl dX0_give_7 ?_
  refine j_get E 1 (wX_g1 ad cI cZ _) rfl 3 rfl in_X0_give_X0 (by decide) (List.mem_of_getElem? (i := 1) rfl) (fun _ h9 => h9) dX0_give_8 ?_
  refine j_iload_n E 2 rfl rfl dX0_give_11 ?_
  refine j_iload_n E 3 rfl rfl dX0_give_12 ?_
  obtain ⟨b3, h⟩ := job_else h
  obtain ⟨s4, es4, h⟩ := jle h
  refine j_iast E 5 0 (wX_g5 ad cI cZ _) rfl (wX_s5 ad cI cZ _ _) b3 dX0_give_13 ?_
  refine j_st es4 ?_
  refine j_iload_n E 0 rfl rfl dX0_give_14 ?_
  exact j_iret E hr rfl (Option.some.inj h) dX0_give_15
abbrev rm_X0_isEmptyByForm : Room := { frames := 1, cells := 0, slots := 0, locals := 20 }
theorem in_X0_isEmptyByForm_X0 : ∀ w ∈ u_ws RX0 TX0 8, w ∈ wsX0_isEmptyByForm := fun w h => (List.mem_cons_of_mem _ (List.mem_append_right _ h))
def f_X0_isEmptyByForm (st : jS) (a1 : Int32) : Option (Int32 × jS) :=
  bif job a1 80 then none else
  jl (jag st 3 a1) fun x2 =>
  bif job a1 80 then none else
  jl (jag st 4 a1) fun x4 =>
  bif job a1 80 then none else
  jl (jag st 2 a1) fun x6 =>
  if x6 = 2 then
    some (0, st)
  else
  if x6 = 3 then
    (f_X5_bit x2).bind fun r9 =>
    if ((st.2 8) &&& r9) = 0 then
      some (0, st)
    else
    some (1, st)
  else
  if x6 = 4 then
    bif job x2 80 then none else
    if (jag st 6 x2) = 0 then
      some (0, st)
    else
    bif job x4 80 then none else
    if (jag st 6 x4) = 0 then
      some (0, st)
    else
    some (1, st)
  else
  if x6 = 5 then
    bif job x2 80 then none else
    if (jag st 6 x2) = 0 then
      bif job x4 80 then none else
      if (jag st 6 x4) = 0 then
        some (0, st)
      else
      some (1, st)
    else
    some (1, st)
  else
  some (1, st)
set_option maxHeartbeats 4000000 in
set_option maxRecDepth 100000 in
theorem c_X0_isEmptyByForm {l : Launch} {D : va_G} {ad : Nat → Nat} {cI cZ : ClassId} {st : jS} {a1 : Int32} {o : (Int32 × jS)} (h : f_X0_isEmptyByForm st a1 = some o) : CtI l D (jT cI cZ) (wX ad cI cZ) yX0_isEmptyByForm wsX0_isEmptyByForm (rm_X0_isEmptyByForm) [.ref (ad 1), .int a1] st o.1 o.2 := by
  refine ctI_of (o := o) (cc := cX0_isEmptyByForm) (nL := 4) (own := RX0) (by decide) rfl rfl (Nat.le_of_ble_eq_true rfl) (lv0 := [(0, .ref (ad 1)), (1, .int a1)]) rfl ?_
  intro p e s m args below meth c A E hr
  rw [f_X0_isEmptyByForm] at h
  refine j_aload_n E 0 rfl rfl dX0_isEmptyByForm_0 ?_
  refine j_get E 1 (wX_g1 ad cI cZ _) rfl 1 rfl in_X0_isEmptyByForm_X0 (by decide) (List.mem_of_getElem? (i := 1) rfl) (fun _ h9 => h9) dX0_isEmptyByForm_1 ?_
  refine j_iload_n E 1 rfl rfl dX0_isEmptyByForm_4 ?_
  obtain ⟨b1, h⟩ := job_else h
  refine j_iald E 3 0 (wX_g3 ad cI cZ _) rfl b1 dX0_isEmptyByForm_5 ?_
  obtain ⟨x2, ex2, h⟩ := jle h
  refine j_topi ex2 ?_
  refine j_istore_n E rfl (by decide) (lv' := [(2, .int x2), (0, .ref (ad 1)), (1, .int a1)]) rfl dX0_isEmptyByForm_6 ?_
  refine j_aload_n E 1 rfl rfl dX0_isEmptyByForm_7 ?_
  refine j_get E 1 (wX_g1 ad cI cZ _) rfl 2 rfl in_X0_isEmptyByForm_X0 (by decide) (List.mem_of_getElem? (i := 2) rfl) (fun _ h9 => h9) dX0_isEmptyByForm_8 ?_
  refine j_iload_n E 2 rfl rfl dX0_isEmptyByForm_11 ?_
  obtain ⟨b3, h⟩ := job_else h
  refine j_iald E 4 0 (wX_g4 ad cI cZ _) rfl b3 dX0_isEmptyByForm_12 ?_
  obtain ⟨x4, ex4, h⟩ := jle h
  refine j_topi ex4 ?_
  refine j_istore_n E rfl (by decide) (lv' := [(3, .int x4), (2, .int x2), (0, .ref (ad 1)), (1, .int a1)]) rfl dX0_isEmptyByForm_13 ?_
  refine j_aload_n E 2 rfl rfl dX0_isEmptyByForm_14 ?_
  refine j_get E 1 (wX_g1 ad cI cZ _) rfl 0 rfl in_X0_isEmptyByForm_X0 (by decide) (List.mem_of_getElem? (i := 3) rfl) (fun _ h9 => h9) dX0_isEmptyByForm_15 ?_
  refine j_iload_n E 3 rfl rfl dX0_isEmptyByForm_18 ?_
  obtain ⟨b5, h⟩ := job_else h
  refine j_iald E 2 0 (wX_g2 ad cI cZ _) rfl b5 dX0_isEmptyByForm_19 ?_
  obtain ⟨x6, ex6, h⟩ := jle h
  refine j_topi ex6 ?_
  by_cases c7 : x6 = 2
  · have h := jit h c7
    refine j_tableIn E dX0_isEmptyByForm_20 (by rw [c7]; decide) (by rw [c7]; decide) (by rw [c7]; rfl) (tgt := 52) (by decide) ?_
    refine j_iconst E (kc_0) dX0_isEmptyByForm_52 ?_
    exact j_iret E hr rfl (Option.some.inj h) dX0_isEmptyByForm_53
  have h := jif h c7
  by_cases c8 : x6 = 3
  · have h := jit h c8
    refine j_tableIn E dX0_isEmptyByForm_20 (by rw [c8]; decide) (by rw [c8]; decide) (by rw [c8]; rfl) (tgt := 54) (by decide) ?_
    refine j_aload_n E 2 rfl rfl dX0_isEmptyByForm_54 ?_
    refine j_get E 1 (wX_g1 ad cI cZ _) rfl 6 rfl in_X0_isEmptyByForm_X0 (by decide) (List.mem_of_getElem? (i := 4) rfl) (fun _ h9 => h9) dX0_isEmptyByForm_55 ?_
    refine j_iload_n E 1 rfl rfl dX0_isEmptyByForm_58 ?_
    obtain ⟨r9, er9, h⟩ := jbd h
    refine j_callSNi E (As := [.int x2]) (c_X5_bit er9) ⟨va_cnB 1 E.1.2.2.2.2 gX0_isEmptyByForm_X5_bit_n54 rfl rfl rfl (E.2.2.2.1.2 _ (List.mem_of_getElem? (i := 1) rfl)) (E.1.2.2.2.2 _ (List.mem_of_getElem? (i := 7) rfl)) (by decide +kernel) ⟨Nat.le_of_ble_eq_true rfl, Nat.le_of_ble_eq_true rfl⟩, E.1.2.2.2.2 _ (List.mem_of_getElem? (i := 6) rfl), trivial⟩ rfl rfl (Nat.le_of_ble_eq_true rfl) ⟨Nat.zero_le _, Nat.zero_le _⟩ dX0_isEmptyByForm_59 ?_
    refine j_iand E dX0_isEmptyByForm_62 ?_
    refine j_if_eq E (tgt := 70) (by decide) dX0_isEmptyByForm_63 (fun c10 => ?_) (fun c10 => ?_)
    · have h := jit h c10
      refine j_iconst E (kc_0) dX0_isEmptyByForm_70 ?_
      exact j_iret E hr rfl (Option.some.inj h) dX0_isEmptyByForm_71
    · have h := jif h c10
      refine j_iconst E (kc_1) dX0_isEmptyByForm_66 ?_
      refine j_goto E (tgt := 71) (by decide) dX0_isEmptyByForm_67 ?_
      exact j_iret E hr rfl (Option.some.inj h) dX0_isEmptyByForm_71
  have h := jif h c8
  by_cases c11 : x6 = 4
  · have h := jit h c11
    refine j_tableIn E dX0_isEmptyByForm_20 (by rw [c11]; decide) (by rw [c11]; decide) (by rw [c11]; rfl) (tgt := 72) (by decide) ?_
    refine j_aload_n E 2 rfl rfl dX0_isEmptyByForm_72 ?_
    refine j_get E 1 (wX_g1 ad cI cZ _) rfl 5 rfl in_X0_isEmptyByForm_X0 (by decide) (List.mem_of_getElem? (i := 5) rfl) (fun _ h9 => h9) dX0_isEmptyByForm_73 ?_
    refine j_iload_n E 1 rfl rfl dX0_isEmptyByForm_76 ?_
    obtain ⟨b12, h⟩ := job_else h
    refine j_zald E 6 1 (wX_g6 ad cI cZ _) rfl b12 dX0_isEmptyByForm_77 ?_
    refine j_if_eq E (tgt := 94) (by decide) dX0_isEmptyByForm_78 (fun c13 => ?_) (fun c13 => ?_)
    · have h := jit h c13
      refine j_iconst E (kc_0) dX0_isEmptyByForm_94 ?_
      exact j_iret E hr rfl (Option.some.inj h) dX0_isEmptyByForm_95
    · have h := jif h c13
      refine j_aload_n E 2 rfl rfl dX0_isEmptyByForm_81 ?_
      refine j_get E 1 (wX_g1 ad cI cZ _) rfl 5 rfl in_X0_isEmptyByForm_X0 (by decide) (List.mem_of_getElem? (i := 5) rfl) (fun _ h9 => h9) dX0_isEmptyByForm_82 ?_
      refine j_iload_n E 0 rfl rfl dX0_isEmptyByForm_85 ?_
      obtain ⟨b14, h⟩ := job_else h
      refine j_zald E 6 1 (wX_g6 ad cI cZ _) rfl b14 dX0_isEmptyByForm_86 ?_
      refine j_if_eq E (tgt := 94) (by decide) dX0_isEmptyByForm_87 (fun c15 => ?_) (fun c15 => ?_)
      · have h := jit h c15
        refine j_iconst E (kc_0) dX0_isEmptyByForm_94 ?_
        exact j_iret E hr rfl (Option.some.inj h) dX0_isEmptyByForm_95
      · have h := jif h c15
        refine j_iconst E (kc_1) dX0_isEmptyByForm_90 ?_
        refine j_goto E (tgt := 95) (by decide) dX0_isEmptyByForm_91 ?_
        exact j_iret E hr rfl (Option.some.inj h) dX0_isEmptyByForm_95
  have h := jif h c11
  by_cases c16 : x6 = 5
  · have h := jit h c16
    refine j_tableIn E dX0_isEmptyByForm_20 (by rw [c16]; decide) (by rw [c16]; decide) (by rw [c16]; rfl) (tgt := 96) (by decide) ?_
    refine j_aload_n E 2 rfl rfl dX0_isEmptyByForm_96 ?_
    refine j_get E 1 (wX_g1 ad cI cZ _) rfl 5 rfl in_X0_isEmptyByForm_X0 (by decide) (List.mem_of_getElem? (i := 5) rfl) (fun _ h9 => h9) dX0_isEmptyByForm_97 ?_
    refine j_iload_n E 1 rfl rfl dX0_isEmptyByForm_100 ?_
    obtain ⟨b17, h⟩ := job_else h
    refine j_zald E 6 1 (wX_g6 ad cI cZ _) rfl b17 dX0_isEmptyByForm_101 ?_
    refine j_if_ne E (tgt := 114) (by decide) dX0_isEmptyByForm_102 (fun c18 => ?_) (fun c18 => ?_)
    · have h := jif h c18
      refine j_iconst E (kc_1) dX0_isEmptyByForm_114 ?_
      refine j_goto E (tgt := 119) (by decide) dX0_isEmptyByForm_115 ?_
      exact j_iret E hr rfl (Option.some.inj h) dX0_isEmptyByForm_119
    · have h := jit h c18
      refine j_aload_n E 2 rfl rfl dX0_isEmptyByForm_105 ?_
      refine j_get E 1 (wX_g1 ad cI cZ _) rfl 5 rfl in_X0_isEmptyByForm_X0 (by decide) (List.mem_of_getElem? (i := 5) rfl) (fun _ h9 => h9) dX0_isEmptyByForm_106 ?_
      refine j_iload_n E 0 rfl rfl dX0_isEmptyByForm_109 ?_
      obtain ⟨b19, h⟩ := job_else h
      refine j_zald E 6 1 (wX_g6 ad cI cZ _) rfl b19 dX0_isEmptyByForm_110 ?_
      refine j_if_eq E (tgt := 118) (by decide) dX0_isEmptyByForm_111 (fun c20 => ?_) (fun c20 => ?_)
      · have h := jit h c20
        refine j_iconst E (kc_0) dX0_isEmptyByForm_118 ?_
        exact j_iret E hr rfl (Option.some.inj h) dX0_isEmptyByForm_119
      · have h := jif h c20
        refine j_iconst E (kc_1) dX0_isEmptyByForm_114 ?_
        refine j_goto E (tgt := 119) (by decide) dX0_isEmptyByForm_115 ?_
        exact j_iret E hr rfl (Option.some.inj h) dX0_isEmptyByForm_119
  have h := jif h c16
  refine j_tableOut E dX0_isEmptyByForm_20 (jOut2_5 c7 c8 c11 c16) (tgt := 120) (by decide) ?_
  refine j_iconst E (kc_1) dX0_isEmptyByForm_120 ?_
  exact j_iret E hr rfl (Option.some.inj h) dX0_isEmptyByForm_121
abbrev rm_X0_addEmptyRules : Room := { frames := 1, cells := 0, slots := 0, locals := 21 }
theorem in_X0_addEmptyRules_X0 : ∀ w ∈ u_ws RX0 TX0 8, w ∈ wsX0_addEmptyRules := fun w h => (List.mem_cons_of_mem _ (List.mem_append_right _ h))
def f_X0_addEmptyRules_7 (K : jS → Int32 → Int32 → Option (Int32 × jS)) : Nat → jS → Int32 → Int32 → Option (Int32 × jS)
  | 0, _, _, _ => none
  | n + 1, st, v1, v2 =>
    if v2 ≥ 10 then
      K st v1 v2
    else
    bif job v2 10 then none else
    jl (jag st 5 v2) fun x4 =>
    (f_X0_has st x4).bind fun r5 =>
    if r5.1 = 0 then
      jl (v2 + 1) fun x7 =>
      f_X0_addEmptyRules_7 K n r5.2 v1 x7
    else
    bif job x4 80 then none else
    if (jag r5.2 6 x4) = 0 then
      jl (v2 + 1) fun x10 =>
      f_X0_addEmptyRules_7 K n r5.2 v1 x10
    else
    (f_X5_bit v2).bind fun r11 =>
    jl (jis r5.2 8 ((r5.2.2 8) ||| r11)) fun s12 =>
    jl (v2 + 1) fun x13 =>
    f_X0_addEmptyRules_7 K n s12 v1 x13
def f_X0_addEmptyRules (st : jS)  : Option (Int32 × jS) :=
  jl (st.2 8) fun x1 =>
  f_X0_addEmptyRules_7 (fun s16 y14 y15 =>
    if (s16.2 8) = y14 then
      some (0, s16)
    else
    some (1, s16)
    ) jFuel st x1 0
set_option maxHeartbeats 4000000 in
set_option maxRecDepth 100000 in
theorem w_X0_addEmptyRules_7 {ad : Nat → Nat} {cI cZ : ClassId} {p : Program} {l : Launch} {e : Env} {s : State} {m : MethodId} {args : Array Value} {below : List Frame} {meth : Method} {c : Code} {D : va_G} {A : Nat → Prop} {o : (Int32 × jS)} (E : jE p s m args meth c cX0_addEmptyRules 4 RX0 wsX0_addEmptyRules D (jT cI cZ) A) (hr : meth.sig.returnType = (some .boolean)) {K : jS → Int32 → Int32 → Option (Int32 × jS)} (hK : ∀ (st : jS) (v1 : Int32) (v2 : Int32), K st v1 v2 = some o → J p l e (rm_X0_addEmptyRules) s m args below meth c 4 D A (wX ad cI cZ) (jZI D (wX ad cI cZ) A below args s o) 0 0 st 56 [(0, .ref (ad 1)), (1, .int v1), (2, .int v2)] []) :
    ∀ (n : Nat) (st : jS) (v1 : Int32) (v2 : Int32), f_X0_addEmptyRules_7 K n st v1 v2 = some o → J p l e (rm_X0_addEmptyRules) s m args below meth c 4 D A (wX ad cI cZ) (jZI D (wX ad cI cZ) A below args s o) 0 0 st 7 [(0, .ref (ad 1)), (1, .int v1), (2, .int v2)] [] := by
  intro n
  induction n with
  | zero => intro st v1 v2 h; cases h
  | succ n ih =>
    intro st v1 v2 h
    rw [f_X0_addEmptyRules_7] at h
    refine j_iload_n E 2 rfl rfl dX0_addEmptyRules_7 ?_
    refine j_bipush E (kb_10) dX0_addEmptyRules_8 ?_
    refine j_icmp_ge E (tgt := 56) (by decide) dX0_addEmptyRules_10 (fun c2 => ?_) (fun c2 => ?_)
    · have h := jit h c2
      refine j_sub [0, 1, 2] (lv' := [(0, .ref (ad 1)), (1, .int v1), (2, .int v2)]) rfl ?_
      exact hK _ _ _ h
    · have h := jif h c2
      refine j_aload_n E 0 rfl rfl dX0_addEmptyRules_13 ?_
      refine j_get E 1 (wX_g1 ad cI cZ _) rfl 3 rfl in_X0_addEmptyRules_X0 (by decide) (List.mem_of_getElem? (i := 2) rfl) (fun _ h9 => h9) dX0_addEmptyRules_14 ?_
      refine j_iload_n E 2 rfl rfl dX0_addEmptyRules_17 ?_
      obtain ⟨b3, h⟩ := job_else h
      refine j_iald E 5 0 (wX_g5 ad cI cZ _) rfl b3 dX0_addEmptyRules_18 ?_
      obtain ⟨x4, ex4, h⟩ := jle h
      refine j_topi ex4 ?_
      refine j_istore_n E rfl (by decide) (lv' := [(3, .int x4), (0, .ref (ad 1)), (1, .int v1), (2, .int v2)]) rfl dX0_addEmptyRules_19 ?_
      refine j_aload_n E 1 rfl rfl dX0_addEmptyRules_20 ?_
      refine j_iload_n E 0 rfl rfl dX0_addEmptyRules_21 ?_
      obtain ⟨r5, er5, h⟩ := jbd h
      refine j_callVi E (As := [.int x4]) (c_X0_has er5) (cwV 1 E.1.2.2.2.2 gX0_addEmptyRules_X0_has rfl rfl rfl (by decide +kernel) ⟨Nat.le_of_ble_eq_true rfl, Nat.le_of_ble_eq_true rfl⟩) (wX_g1 ad cI cZ _) rfl rfl rfl (Nat.le_of_ble_eq_true rfl) ⟨Nat.zero_le _, Nat.zero_le _⟩ dX0_addEmptyRules_22 ?_
      refine j_if_eq E (tgt := 50) (by decide) dX0_addEmptyRules_25 (fun c6 => ?_) (fun c6 => ?_)
      · have h := jit h c6
        obtain ⟨x7, ex7, h⟩ := jle h
        refine j_iinc E 3 rfl kc_1 ex7 (by decide) (lv' := [(2, .int x7), (3, .int x4), (0, .ref (ad 1)), (1, .int v1)]) rfl dX0_addEmptyRules_50 ?_
        refine j_goto E (tgt := 7) (by decide) dX0_addEmptyRules_53 ?_
        refine j_sub [2, 3, 0] (lv' := [(0, .ref (ad 1)), (1, .int v1), (2, .int x7)]) rfl ?_
        exact ih _ _ _ h
      · have h := jif h c6
        refine j_aload_n E 1 rfl rfl dX0_addEmptyRules_28 ?_
        refine j_get E 1 (wX_g1 ad cI cZ _) rfl 5 rfl in_X0_addEmptyRules_X0 (by decide) (List.mem_of_getElem? (i := 3) rfl) (fun _ h9 => h9) dX0_addEmptyRules_29 ?_
        refine j_iload_n E 0 rfl rfl dX0_addEmptyRules_32 ?_
        obtain ⟨b8, h⟩ := job_else h
        refine j_zald E 6 1 (wX_g6 ad cI cZ _) rfl b8 dX0_addEmptyRules_33 ?_
        refine j_if_eq E (tgt := 50) (by decide) dX0_addEmptyRules_34 (fun c9 => ?_) (fun c9 => ?_)
        · have h := jit h c9
          obtain ⟨x10, ex10, h⟩ := jle h
          refine j_iinc E 3 rfl kc_1 ex10 (by decide) (lv' := [(2, .int x10), (3, .int x4), (0, .ref (ad 1)), (1, .int v1)]) rfl dX0_addEmptyRules_50 ?_
          refine j_goto E (tgt := 7) (by decide) dX0_addEmptyRules_53 ?_
          refine j_sub [2, 3, 0] (lv' := [(0, .ref (ad 1)), (1, .int v1), (2, .int x10)]) rfl ?_
          exact ih _ _ _ h
        · have h := jif h c9
          refine j_aload_n E 1 rfl rfl dX0_addEmptyRules_37 ?_
          refine j_dup E rfl dX0_addEmptyRules_38 ?_
          refine j_get E 1 (wX_g1 ad cI cZ _) rfl 6 rfl in_X0_addEmptyRules_X0 (by decide) (List.mem_of_getElem? (i := 1) rfl) (fun _ h9 => h9) dX0_addEmptyRules_39 ?_
          refine j_iload_n E 3 rfl rfl dX0_addEmptyRules_42 ?_
          obtain ⟨r11, er11, h⟩ := jbd h
          refine j_callSNi E (As := [.int v2]) (c_X5_bit er11) ⟨va_cnB 1 E.1.2.2.2.2 gX0_addEmptyRules_X5_bit_n54 rfl rfl rfl (E.2.2.2.1.2 _ (List.mem_of_getElem? (i := 1) rfl)) (E.1.2.2.2.2 _ (List.mem_of_getElem? (i := 11) rfl)) (by decide +kernel) ⟨Nat.le_of_ble_eq_true rfl, Nat.le_of_ble_eq_true rfl⟩, E.1.2.2.2.2 _ (List.mem_of_getElem? (i := 10) rfl), trivial⟩ rfl rfl (Nat.le_of_ble_eq_true rfl) ⟨Nat.zero_le _, Nat.zero_le _⟩ dX0_addEmptyRules_43 ?_
          refine j_ior E dX0_addEmptyRules_46 ?_
          obtain ⟨s12, es12, h⟩ := jle h
          refine j_put E 1 (wX_g1 ad cI cZ _) rfl 6 (ty := .int) (wX_p1_6 ad cI cZ _ _) tyX0_ok nmX0 in_X0_addEmptyRules_X0 (by decide) (List.mem_of_getElem? (i := 1) rfl) (fun _ h9 => h9) rfl (tyX0_ok 6 (by decide)) rfl rfl (Nat.le_of_ble_eq_true rfl) dX0_addEmptyRules_47 ?_
          refine j_st es12 ?_
          obtain ⟨x13, ex13, h⟩ := jle h
          refine j_iinc E 3 rfl kc_1 ex13 (by decide) (lv' := [(2, .int x13), (3, .int x4), (0, .ref (ad 1)), (1, .int v1)]) rfl dX0_addEmptyRules_50 ?_
          refine j_goto E (tgt := 7) (by decide) dX0_addEmptyRules_53 ?_
          refine j_sub [2, 3, 0] (lv' := [(0, .ref (ad 1)), (1, .int v1), (2, .int x13)]) rfl ?_
          exact ih _ _ _ h
set_option maxHeartbeats 4000000 in
set_option maxRecDepth 100000 in
theorem c_X0_addEmptyRules {l : Launch} {D : va_G} {ad : Nat → Nat} {cI cZ : ClassId} {st : jS}  {o : (Int32 × jS)} (h : f_X0_addEmptyRules st = some o) : CtI l D (jT cI cZ) (wX ad cI cZ) yX0_addEmptyRules wsX0_addEmptyRules (rm_X0_addEmptyRules) [.ref (ad 1)] st o.1 o.2 := by
  refine ctI_of (o := o) (cc := cX0_addEmptyRules) (nL := 4) (own := RX0) (by decide) rfl rfl (Nat.le_of_ble_eq_true rfl) (lv0 := [(0, .ref (ad 1))]) rfl ?_
  intro p e s m args below meth c A E hr
  rw [f_X0_addEmptyRules] at h
  refine j_aload_n E 0 rfl rfl dX0_addEmptyRules_0 ?_
  refine j_get E 1 (wX_g1 ad cI cZ _) rfl 6 rfl in_X0_addEmptyRules_X0 (by decide) (List.mem_of_getElem? (i := 1) rfl) (fun _ h9 => h9) dX0_addEmptyRules_1 ?_
  obtain ⟨x1, ex1, h⟩ := jle h
  refine j_topi ex1 ?_
  refine j_istore_n E rfl (by decide) (lv' := [(1, .int x1), (0, .ref (ad 1))]) rfl dX0_addEmptyRules_4 ?_
  refine j_iconst E (kc_0) dX0_addEmptyRules_5 ?_
  refine j_istore_n E rfl (by decide) (lv' := [(2, .int 0), (1, .int x1), (0, .ref (ad 1))]) rfl dX0_addEmptyRules_6 ?_
  refine j_sub [2, 1, 0] (lv' := [(0, .ref (ad 1)), (1, .int x1), (2, .int 0)]) rfl ?_
  refine w_X0_addEmptyRules_7 E hr (fun s16 y14 y15 h => ?_) _ _ _ _ h
  refine j_aload_n E 0 rfl rfl dX0_addEmptyRules_56 ?_
  refine j_get E 1 (wX_g1 ad cI cZ _) rfl 6 rfl in_X0_addEmptyRules_X0 (by decide) (List.mem_of_getElem? (i := 1) rfl) (fun _ h9 => h9) dX0_addEmptyRules_57 ?_
  refine j_iload_n E 1 rfl rfl dX0_addEmptyRules_60 ?_
  refine j_icmp_eq E (tgt := 68) (by decide) dX0_addEmptyRules_61 (fun c17 => ?_) (fun c17 => ?_)
  · have h := jit h c17
    refine j_iconst E (kc_0) dX0_addEmptyRules_68 ?_
    exact j_iret E hr rfl (Option.some.inj h) dX0_addEmptyRules_69
  · have h := jif h c17
    refine j_iconst E (kc_1) dX0_addEmptyRules_64 ?_
    refine j_goto E (tgt := 69) (by decide) dX0_addEmptyRules_65 ?_
    exact j_iret E hr rfl (Option.some.inj h) dX0_addEmptyRules_69
abbrev rm_X0_beginningsByForm : Room := { frames := 1, cells := 0, slots := 0, locals := 20 }
theorem in_X0_beginningsByForm_X0 : ∀ w ∈ u_ws RX0 TX0 8, w ∈ wsX0_beginningsByForm := fun w h => (List.mem_cons_of_mem _ (List.mem_append_right _ h))
def f_X0_beginningsByForm (st : jS) (a1 : Int32) : Option (Int32 × jS) :=
  bif job a1 80 then none else
  jl (jag st 3 a1) fun x2 =>
  bif job a1 80 then none else
  jl (jag st 4 a1) fun x4 =>
  bif job a1 80 then none else
  jl (jag st 2 a1) fun x6 =>
  if x6 = 0 then
    some (0, st)
  else
  if x6 = 1 then
    some (0, st)
  else
  if x6 = 2 then
    some (0, st)
  else
  if x6 = 3 then
    (f_X5_bit x2).bind fun r11 =>
    some (r11, st)
  else
  if x6 = 4 then
    bif job x2 80 then none else
    bif job x2 80 then none else
    if (jag st 6 x2) = 0 then
      some (((jag st 8 x2) ||| 0), st)
    else
    bif job x4 80 then none else
    some (((jag st 8 x2) ||| (jag st 8 x4)), st)
  else
  if x6 = 5 then
    bif job x2 80 then none else
    bif job x4 80 then none else
    some (((jag st 8 x2) ||| (jag st 8 x4)), st)
  else
  bif job x2 80 then none else
  some ((jag st 8 x2), st)
set_option maxHeartbeats 4000000 in
set_option maxRecDepth 100000 in
theorem c_X0_beginningsByForm {l : Launch} {D : va_G} {ad : Nat → Nat} {cI cZ : ClassId} {st : jS} {a1 : Int32} {o : (Int32 × jS)} (h : f_X0_beginningsByForm st a1 = some o) : CtI l D (jT cI cZ) (wX ad cI cZ) yX0_beginningsByForm wsX0_beginningsByForm (rm_X0_beginningsByForm) [.ref (ad 1), .int a1] st o.1 o.2 := by
  refine ctI_of (o := o) (cc := cX0_beginningsByForm) (nL := 4) (own := RX0) (by decide) rfl rfl (Nat.le_of_ble_eq_true rfl) (lv0 := [(0, .ref (ad 1)), (1, .int a1)]) rfl ?_
  intro p e s m args below meth c A E hr
  rw [f_X0_beginningsByForm] at h
  refine j_aload_n E 0 rfl rfl dX0_beginningsByForm_0 ?_
  refine j_get E 1 (wX_g1 ad cI cZ _) rfl 1 rfl in_X0_beginningsByForm_X0 (by decide) (List.mem_of_getElem? (i := 1) rfl) (fun _ h9 => h9) dX0_beginningsByForm_1 ?_
  refine j_iload_n E 1 rfl rfl dX0_beginningsByForm_4 ?_
  obtain ⟨b1, h⟩ := job_else h
  refine j_iald E 3 0 (wX_g3 ad cI cZ _) rfl b1 dX0_beginningsByForm_5 ?_
  obtain ⟨x2, ex2, h⟩ := jle h
  refine j_topi ex2 ?_
  refine j_istore_n E rfl (by decide) (lv' := [(2, .int x2), (0, .ref (ad 1)), (1, .int a1)]) rfl dX0_beginningsByForm_6 ?_
  refine j_aload_n E 1 rfl rfl dX0_beginningsByForm_7 ?_
  refine j_get E 1 (wX_g1 ad cI cZ _) rfl 2 rfl in_X0_beginningsByForm_X0 (by decide) (List.mem_of_getElem? (i := 2) rfl) (fun _ h9 => h9) dX0_beginningsByForm_8 ?_
  refine j_iload_n E 2 rfl rfl dX0_beginningsByForm_11 ?_
  obtain ⟨b3, h⟩ := job_else h
  refine j_iald E 4 0 (wX_g4 ad cI cZ _) rfl b3 dX0_beginningsByForm_12 ?_
  obtain ⟨x4, ex4, h⟩ := jle h
  refine j_topi ex4 ?_
  refine j_istore_n E rfl (by decide) (lv' := [(3, .int x4), (2, .int x2), (0, .ref (ad 1)), (1, .int a1)]) rfl dX0_beginningsByForm_13 ?_
  refine j_aload_n E 2 rfl rfl dX0_beginningsByForm_14 ?_
  refine j_get E 1 (wX_g1 ad cI cZ _) rfl 0 rfl in_X0_beginningsByForm_X0 (by decide) (List.mem_of_getElem? (i := 3) rfl) (fun _ h9 => h9) dX0_beginningsByForm_15 ?_
  refine j_iload_n E 3 rfl rfl dX0_beginningsByForm_18 ?_
  obtain ⟨b5, h⟩ := job_else h
  refine j_iald E 2 0 (wX_g2 ad cI cZ _) rfl b5 dX0_beginningsByForm_19 ?_
  obtain ⟨x6, ex6, h⟩ := jle h
  refine j_topi ex6 ?_
  by_cases c7 : x6 = 0
  · have h := jit h c7
    refine j_tableIn E dX0_beginningsByForm_20 (by rw [c7]; decide) (by rw [c7]; decide) (by rw [c7]; rfl) (tgt := 60) (by decide) ?_
    refine j_iconst E (kc_0) dX0_beginningsByForm_60 ?_
    exact j_iret E hr rfl (Option.some.inj h) dX0_beginningsByForm_61
  have h := jif h c7
  by_cases c8 : x6 = 1
  · have h := jit h c8
    refine j_tableIn E dX0_beginningsByForm_20 (by rw [c8]; decide) (by rw [c8]; decide) (by rw [c8]; rfl) (tgt := 60) (by decide) ?_
    refine j_iconst E (kc_0) dX0_beginningsByForm_60 ?_
    exact j_iret E hr rfl (Option.some.inj h) dX0_beginningsByForm_61
  have h := jif h c8
  by_cases c9 : x6 = 2
  · have h := jit h c9
    refine j_tableIn E dX0_beginningsByForm_20 (by rw [c9]; decide) (by rw [c9]; decide) (by rw [c9]; rfl) (tgt := 60) (by decide) ?_
    refine j_iconst E (kc_0) dX0_beginningsByForm_60 ?_
    exact j_iret E hr rfl (Option.some.inj h) dX0_beginningsByForm_61
  have h := jif h c9
  by_cases c10 : x6 = 3
  · have h := jit h c10
    refine j_tableIn E dX0_beginningsByForm_20 (by rw [c10]; decide) (by rw [c10]; decide) (by rw [c10]; rfl) (tgt := 62) (by decide) ?_
    refine j_iload_n E 1 rfl rfl dX0_beginningsByForm_62 ?_
    obtain ⟨r11, er11, h⟩ := jbd h
    refine j_callSNi E (As := [.int x2]) (c_X5_bit er11) ⟨va_cnB 1 E.1.2.2.2.2 gX0_beginningsByForm_X5_bit_n54 rfl rfl rfl (E.2.2.2.1.2 _ (List.mem_of_getElem? (i := 1) rfl)) (E.1.2.2.2.2 _ (List.mem_of_getElem? (i := 7) rfl)) (by decide +kernel) ⟨Nat.le_of_ble_eq_true rfl, Nat.le_of_ble_eq_true rfl⟩, E.1.2.2.2.2 _ (List.mem_of_getElem? (i := 6) rfl), trivial⟩ rfl rfl (Nat.le_of_ble_eq_true rfl) ⟨Nat.zero_le _, Nat.zero_le _⟩ dX0_beginningsByForm_63 ?_
    exact j_iret E hr rfl (Option.some.inj h) dX0_beginningsByForm_66
  have h := jif h c10
  by_cases c12 : x6 = 4
  · have h := jit h c12
    refine j_tableIn E dX0_beginningsByForm_20 (by rw [c12]; decide) (by rw [c12]; decide) (by rw [c12]; rfl) (tgt := 67) (by decide) ?_
    refine j_aload_n E 2 rfl rfl dX0_beginningsByForm_67 ?_
    refine j_get E 1 (wX_g1 ad cI cZ _) rfl 7 rfl in_X0_beginningsByForm_X0 (by decide) (List.mem_of_getElem? (i := 4) rfl) (fun _ h9 => h9) dX0_beginningsByForm_68 ?_
    refine j_iload_n E 1 rfl rfl dX0_beginningsByForm_71 ?_
    obtain ⟨b13, h⟩ := job_else h
    refine j_iald E 8 0 (wX_g8 ad cI cZ _) rfl b13 dX0_beginningsByForm_72 ?_
    refine j_aload_n E 2 rfl rfl dX0_beginningsByForm_73 ?_
    refine j_get E 1 (wX_g1 ad cI cZ _) rfl 5 rfl in_X0_beginningsByForm_X0 (by decide) (List.mem_of_getElem? (i := 5) rfl) (fun _ h9 => h9) dX0_beginningsByForm_74 ?_
    refine j_iload_n E 1 rfl rfl dX0_beginningsByForm_77 ?_
    obtain ⟨b14, h⟩ := job_else h
    refine j_zald E 6 1 (wX_g6 ad cI cZ _) rfl b14 dX0_beginningsByForm_78 ?_
    refine j_if_eq E (tgt := 91) (by decide) dX0_beginningsByForm_79 (fun c15 => ?_) (fun c15 => ?_)
    · have h := jit h c15
      refine j_iconst E (kc_0) dX0_beginningsByForm_91 ?_
      refine j_ior E dX0_beginningsByForm_92 ?_
      exact j_iret E hr rfl (Option.some.inj h) dX0_beginningsByForm_93
    · have h := jif h c15
      refine j_aload_n E 2 rfl rfl dX0_beginningsByForm_82 ?_
      refine j_get E 1 (wX_g1 ad cI cZ _) rfl 7 rfl in_X0_beginningsByForm_X0 (by decide) (List.mem_of_getElem? (i := 4) rfl) (fun _ h9 => h9) dX0_beginningsByForm_83 ?_
      refine j_iload_n E 0 rfl rfl dX0_beginningsByForm_86 ?_
      obtain ⟨b16, h⟩ := job_else h
      refine j_iald E 8 0 (wX_g8 ad cI cZ _) rfl b16 dX0_beginningsByForm_87 ?_
      refine j_goto E (tgt := 92) (by decide) dX0_beginningsByForm_88 ?_
      refine j_ior E dX0_beginningsByForm_92 ?_
      exact j_iret E hr rfl (Option.some.inj h) dX0_beginningsByForm_93
  have h := jif h c12
  by_cases c17 : x6 = 5
  · have h := jit h c17
    refine j_tableIn E dX0_beginningsByForm_20 (by rw [c17]; decide) (by rw [c17]; decide) (by rw [c17]; rfl) (tgt := 94) (by decide) ?_
    refine j_aload_n E 2 rfl rfl dX0_beginningsByForm_94 ?_
    refine j_get E 1 (wX_g1 ad cI cZ _) rfl 7 rfl in_X0_beginningsByForm_X0 (by decide) (List.mem_of_getElem? (i := 4) rfl) (fun _ h9 => h9) dX0_beginningsByForm_95 ?_
    refine j_iload_n E 1 rfl rfl dX0_beginningsByForm_98 ?_
    obtain ⟨b18, h⟩ := job_else h
    refine j_iald E 8 0 (wX_g8 ad cI cZ _) rfl b18 dX0_beginningsByForm_99 ?_
    refine j_aload_n E 2 rfl rfl dX0_beginningsByForm_100 ?_
    refine j_get E 1 (wX_g1 ad cI cZ _) rfl 7 rfl in_X0_beginningsByForm_X0 (by decide) (List.mem_of_getElem? (i := 4) rfl) (fun _ h9 => h9) dX0_beginningsByForm_101 ?_
    refine j_iload_n E 0 rfl rfl dX0_beginningsByForm_104 ?_
    obtain ⟨b19, h⟩ := job_else h
    refine j_iald E 8 0 (wX_g8 ad cI cZ _) rfl b19 dX0_beginningsByForm_105 ?_
    refine j_ior E dX0_beginningsByForm_106 ?_
    exact j_iret E hr rfl (Option.some.inj h) dX0_beginningsByForm_107
  have h := jif h c17
  refine j_tableOut E dX0_beginningsByForm_20 (jOut0_5 c7 c8 c9 c10 c12 c17) (tgt := 108) (by decide) ?_
  refine j_aload_n E 2 rfl rfl dX0_beginningsByForm_108 ?_
  refine j_get E 1 (wX_g1 ad cI cZ _) rfl 7 rfl in_X0_beginningsByForm_X0 (by decide) (List.mem_of_getElem? (i := 4) rfl) (fun _ h9 => h9) dX0_beginningsByForm_109 ?_
  refine j_iload_n E 1 rfl rfl dX0_beginningsByForm_112 ?_
  obtain ⟨b20, h⟩ := job_else h
  refine j_iald E 8 0 (wX_g8 ad cI cZ _) rfl b20 dX0_beginningsByForm_113 ?_
  exact j_iret E hr rfl (Option.some.inj h) dX0_beginningsByForm_114
abbrev rm_X0_findBeginnings : Room := { frames := 2, cells := 0, slots := 0, locals := 43 }
theorem in_X0_findBeginnings_X0 : ∀ w ∈ u_ws RX0 TX0 8, w ∈ wsX0_findBeginnings := fun w h => (List.mem_cons_of_mem _ (List.mem_append_right _ h))
def f_X0_findBeginnings_2 (K : jS → Int32 → Option jS) : Nat → jS → Int32 → Option jS
  | 0, _, _ => none
  | n + 1, st, v1 =>
    if v1 ≥ (st.2 0) then
      K st v1
    else
    (f_X0_beginningsByForm st v1).bind fun r2 =>
    bif job v1 80 then none else
    jl (jas r2.2 8 v1 r2.1) fun s4 =>
    jl (v1 + 1) fun x5 =>
    f_X0_findBeginnings_2 K n s4 x5
def f_X0_findBeginnings (st : jS)  : Option jS :=
  f_X0_findBeginnings_2 (fun s7 y6 =>
    some s7
    ) jFuel st 0
set_option maxHeartbeats 4000000 in
set_option maxRecDepth 100000 in
theorem w_X0_findBeginnings_2 {ad : Nat → Nat} {cI cZ : ClassId} {p : Program} {l : Launch} {e : Env} {s : State} {m : MethodId} {args : Array Value} {below : List Frame} {meth : Method} {c : Code} {D : va_G} {A : Nat → Prop} {o : jS} (E : jE p s m args meth c cX0_findBeginnings 2 RX0 wsX0_findBeginnings D (jT cI cZ) A) (hr : meth.sig.returnType = none) {K : jS → Int32 → Option jS} (hK : ∀ (st : jS) (v1 : Int32), K st v1 = some o → J p l e (rm_X0_findBeginnings) s m args below meth c 2 D A (wX ad cI cZ) (jZV D (wX ad cI cZ) A below args s o) 0 0 st 27 [(0, .ref (ad 1)), (1, .int v1)] []) :
    ∀ (n : Nat) (st : jS) (v1 : Int32), f_X0_findBeginnings_2 K n st v1 = some o → J p l e (rm_X0_findBeginnings) s m args below meth c 2 D A (wX ad cI cZ) (jZV D (wX ad cI cZ) A below args s o) 0 0 st 2 [(0, .ref (ad 1)), (1, .int v1)] [] := by
  intro n
  induction n with
  | zero => intro st v1 h; cases h
  | succ n ih =>
    intro st v1 h
    rw [f_X0_findBeginnings_2] at h
    refine j_iload_n E 1 rfl rfl dX0_findBeginnings_2 ?_
    refine j_aload_n E 0 rfl rfl dX0_findBeginnings_3 ?_
    refine j_get E 1 (wX_g1 ad cI cZ _) rfl 4 rfl in_X0_findBeginnings_X0 (by decide) (List.mem_of_getElem? (i := 1) rfl) (fun _ h9 => h9) dX0_findBeginnings_4 ?_
    refine j_icmp_ge E (tgt := 27) (by decide) dX0_findBeginnings_7 (fun c1 => ?_) (fun c1 => ?_)
    · have h := jit h c1
      refine j_sub [0, 1] (lv' := [(0, .ref (ad 1)), (1, .int v1)]) rfl ?_
      exact hK _ _ h
    · have h := jif h c1
      refine j_aload_n E 0 rfl rfl dX0_findBeginnings_10 ?_
      refine j_get E 1 (wX_g1 ad cI cZ _) rfl 7 rfl in_X0_findBeginnings_X0 (by decide) (List.mem_of_getElem? (i := 2) rfl) (fun _ h9 => h9) dX0_findBeginnings_11 ?_
      refine j_iload_n E 1 rfl rfl dX0_findBeginnings_14 ?_
      refine j_aload_n E 0 rfl rfl dX0_findBeginnings_15 ?_
      refine j_iload_n E 1 rfl rfl dX0_findBeginnings_16 ?_
      obtain ⟨r2, er2, h⟩ := jbd h
      refine j_callVi E (As := [.int v1]) (c_X0_beginningsByForm er2) (cwV 1 E.1.2.2.2.2 gX0_findBeginnings_X0_beginningsByForm rfl rfl rfl (by decide +kernel) ⟨Nat.le_of_ble_eq_true rfl, Nat.le_of_ble_eq_true rfl⟩) (wX_g1 ad cI cZ _) rfl rfl rfl (Nat.le_of_ble_eq_true rfl) ⟨Nat.zero_le _, Nat.zero_le _⟩ dX0_findBeginnings_17 ?_
      obtain ⟨b3, h⟩ := job_else h
      obtain ⟨s4, es4, h⟩ := jle h
      refine j_iast E 8 0 (wX_g8 ad cI cZ _) rfl (wX_s8 ad cI cZ _ _) b3 dX0_findBeginnings_20 ?_
      refine j_st es4 ?_
      obtain ⟨x5, ex5, h⟩ := jle h
      refine j_iinc E 1 rfl kc_1 ex5 (by decide) (lv' := [(1, .int x5), (0, .ref (ad 1))]) rfl dX0_findBeginnings_21 ?_
      refine j_goto E (tgt := 2) (by decide) dX0_findBeginnings_24 ?_
      refine j_sub [1, 0] (lv' := [(0, .ref (ad 1)), (1, .int x5)]) rfl ?_
      exact ih _ _ h
set_option maxHeartbeats 4000000 in
set_option maxRecDepth 100000 in
theorem c_X0_findBeginnings {l : Launch} {D : va_G} {ad : Nat → Nat} {cI cZ : ClassId} {st : jS}  {o : jS} (h : f_X0_findBeginnings st = some o) : CtV l D (jT cI cZ) (wX ad cI cZ) yX0_findBeginnings wsX0_findBeginnings (rm_X0_findBeginnings) [.ref (ad 1)] st o := by
  refine ctV_of (o := o) (cc := cX0_findBeginnings) (nL := 2) (own := RX0) (by decide) rfl rfl (Nat.le_of_ble_eq_true rfl) (lv0 := [(0, .ref (ad 1))]) rfl ?_
  intro p e s m args below meth c A E hr
  rw [f_X0_findBeginnings] at h
  refine j_iconst E (kc_0) dX0_findBeginnings_0 ?_
  refine j_istore_n E rfl (by decide) (lv' := [(1, .int 0), (0, .ref (ad 1))]) rfl dX0_findBeginnings_1 ?_
  refine j_sub [1, 0] (lv' := [(0, .ref (ad 1)), (1, .int 0)]) rfl ?_
  refine w_X0_findBeginnings_2 E hr (fun s7 y6 h => ?_) _ _ _ h
  exact j_vret E hr (Option.some.inj h) dX0_findBeginnings_27
abbrev rm_X0_beginningsOfRule : Room := { frames := 1, cells := 0, slots := 0, locals := 21 }
theorem in_X0_beginningsOfRule_X0 : ∀ w ∈ u_ws RX0 TX0 8, w ∈ wsX0_beginningsOfRule := fun w h => (List.mem_cons_of_mem _ (List.mem_append_right _ h))
def f_X0_beginningsOfRule (st : jS) (a1 : Int32) : Option (Int32 × jS) :=
  bif job a1 10 then none else
  jl (jag st 5 a1) fun x2 =>
  (f_X0_has st x2).bind fun r3 =>
  if r3.1 = 0 then
    some (0, r3.2)
  else
  bif job x2 80 then none else
  some ((jag r3.2 8 x2), r3.2)
set_option maxHeartbeats 4000000 in
set_option maxRecDepth 100000 in
theorem c_X0_beginningsOfRule {l : Launch} {D : va_G} {ad : Nat → Nat} {cI cZ : ClassId} {st : jS} {a1 : Int32} {o : (Int32 × jS)} (h : f_X0_beginningsOfRule st a1 = some o) : CtI l D (jT cI cZ) (wX ad cI cZ) yX0_beginningsOfRule wsX0_beginningsOfRule (rm_X0_beginningsOfRule) [.ref (ad 1), .int a1] st o.1 o.2 := by
  refine ctI_of (o := o) (cc := cX0_beginningsOfRule) (nL := 3) (own := RX0) (by decide) rfl rfl (Nat.le_of_ble_eq_true rfl) (lv0 := [(0, .ref (ad 1)), (1, .int a1)]) rfl ?_
  intro p e s m args below meth c A E hr
  rw [f_X0_beginningsOfRule] at h
  refine j_aload_n E 0 rfl rfl dX0_beginningsOfRule_0 ?_
  refine j_get E 1 (wX_g1 ad cI cZ _) rfl 3 rfl in_X0_beginningsOfRule_X0 (by decide) (List.mem_of_getElem? (i := 1) rfl) (fun _ h9 => h9) dX0_beginningsOfRule_1 ?_
  refine j_iload_n E 1 rfl rfl dX0_beginningsOfRule_4 ?_
  obtain ⟨b1, h⟩ := job_else h
  refine j_iald E 5 0 (wX_g5 ad cI cZ _) rfl b1 dX0_beginningsOfRule_5 ?_
  obtain ⟨x2, ex2, h⟩ := jle h
  refine j_topi ex2 ?_
  refine j_istore_n E rfl (by decide) (lv' := [(2, .int x2), (0, .ref (ad 1)), (1, .int a1)]) rfl dX0_beginningsOfRule_6 ?_
  refine j_aload_n E 1 rfl rfl dX0_beginningsOfRule_7 ?_
  refine j_iload_n E 0 rfl rfl dX0_beginningsOfRule_8 ?_
  obtain ⟨r3, er3, h⟩ := jbd h
  refine j_callVi E (As := [.int x2]) (c_X0_has er3) (cwV 1 E.1.2.2.2.2 gX0_beginningsOfRule_X0_has rfl rfl rfl (by decide +kernel) ⟨Nat.le_of_ble_eq_true rfl, Nat.le_of_ble_eq_true rfl⟩) (wX_g1 ad cI cZ _) rfl rfl rfl (Nat.le_of_ble_eq_true rfl) ⟨Nat.zero_le _, Nat.zero_le _⟩ dX0_beginningsOfRule_9 ?_
  refine j_if_eq E (tgt := 24) (by decide) dX0_beginningsOfRule_12 (fun c4 => ?_) (fun c4 => ?_)
  · have h := jit h c4
    refine j_iconst E (kc_0) dX0_beginningsOfRule_24 ?_
    exact j_iret E hr rfl (Option.some.inj h) dX0_beginningsOfRule_25
  · have h := jif h c4
    refine j_aload_n E 1 rfl rfl dX0_beginningsOfRule_15 ?_
    refine j_get E 1 (wX_g1 ad cI cZ _) rfl 7 rfl in_X0_beginningsOfRule_X0 (by decide) (List.mem_of_getElem? (i := 2) rfl) (fun _ h9 => h9) dX0_beginningsOfRule_16 ?_
    refine j_iload_n E 0 rfl rfl dX0_beginningsOfRule_19 ?_
    obtain ⟨b5, h⟩ := job_else h
    refine j_iald E 8 0 (wX_g8 ad cI cZ _) rfl b5 dX0_beginningsOfRule_20 ?_
    refine j_goto E (tgt := 25) (by decide) dX0_beginningsOfRule_21 ?_
    exact j_iret E hr rfl (Option.some.inj h) dX0_beginningsOfRule_25
abbrev rm_X0_addToDigest : Room := { frames := 1, cells := 0, slots := 0, locals := 22 }
theorem in_X0_addToDigest_X0 : ∀ w ∈ u_ws RX0 TX0 8, w ∈ wsX0_addToDigest := fun w h => (List.mem_cons_of_mem _ (List.mem_append_right _ h))
def f_X0_addToDigest_12 (K : jS → Int64 → Int64 → Int32 → Option (Int64 × jS)) : Nat → jS → Int64 → Int64 → Int32 → Option (Int64 × jS)
  | 0, _, _, _, _ => none
  | n + 1, st, v1, v3, v5 =>
    if v5 ≥ 10 then
      K st v1 v3 v5
    else
    bif job v5 10 then none else
    (f_X5_mix v3 (jag st 5 v5)).bind fun r4 =>
    jl (v5 + 1) fun x5 =>
    f_X0_addToDigest_12 K n st v1 r4 x5
def f_X0_addToDigest (st : jS) (a1 : Int64) : Option (Int64 × jS) :=
  (f_X5_mix a1 (st.2 0)).bind fun r1 =>
  f_X0_addToDigest_12 (fun s9 y6 y7 y8 =>
    some (y7, s9)
    ) jFuel st a1 r1 0
set_option maxHeartbeats 4000000 in
set_option maxRecDepth 100000 in
theorem w_X0_addToDigest_12 {ad : Nat → Nat} {cI cZ : ClassId} {p : Program} {l : Launch} {e : Env} {s : State} {m : MethodId} {args : Array Value} {below : List Frame} {meth : Method} {c : Code} {D : va_G} {A : Nat → Prop} {o : (Int64 × jS)} (E : jE p s m args meth c cX0_addToDigest 6 RX0 wsX0_addToDigest D (jT cI cZ) A) (hr : meth.sig.returnType = (some .long)) {K : jS → Int64 → Int64 → Int32 → Option (Int64 × jS)} (hK : ∀ (st : jS) (v1 : Int64) (v3 : Int64) (v5 : Int32), K st v1 v3 v5 = some o → J p l e (rm_X0_addToDigest) s m args below meth c 6 D A (wX ad cI cZ) (jZL D (wX ad cI cZ) A below args s o) 0 0 st 37 [(0, .ref (ad 1)), (1, .long v1), (3, .long v3), (5, .int v5)] []) :
    ∀ (n : Nat) (st : jS) (v1 : Int64) (v3 : Int64) (v5 : Int32), f_X0_addToDigest_12 K n st v1 v3 v5 = some o → J p l e (rm_X0_addToDigest) s m args below meth c 6 D A (wX ad cI cZ) (jZL D (wX ad cI cZ) A below args s o) 0 0 st 12 [(0, .ref (ad 1)), (1, .long v1), (3, .long v3), (5, .int v5)] [] := by
  intro n
  induction n with
  | zero => intro st v1 v3 v5 h; cases h
  | succ n ih =>
    intro st v1 v3 v5 h
    rw [f_X0_addToDigest_12] at h
    refine j_iload E 3 rfl dX0_addToDigest_12 ?_
    refine j_bipush E (kb_10) dX0_addToDigest_14 ?_
    refine j_icmp_ge E (tgt := 37) (by decide) dX0_addToDigest_16 (fun c2 => ?_) (fun c2 => ?_)
    · have h := jit h c2
      refine j_sub [0, 1, 2, 3] (lv' := [(0, .ref (ad 1)), (1, .long v1), (3, .long v3), (5, .int v5)]) rfl ?_
      exact hK _ _ _ _ h
    · have h := jif h c2
      refine j_lload_n E 2 rfl rfl dX0_addToDigest_19 ?_
      refine j_aload_n E 0 rfl rfl dX0_addToDigest_20 ?_
      refine j_get E 1 (wX_g1 ad cI cZ _) rfl 3 rfl in_X0_addToDigest_X0 (by decide) (List.mem_of_getElem? (i := 2) rfl) (fun _ h9 => h9) dX0_addToDigest_21 ?_
      refine j_iload E 3 rfl dX0_addToDigest_24 ?_
      obtain ⟨b3, h⟩ := job_else h
      refine j_iald E 5 0 (wX_g5 ad cI cZ _) rfl b3 dX0_addToDigest_26 ?_
      obtain ⟨r4, er4, h⟩ := jbd h
      refine j_callSNl E (As := [.long v3, .int (jag st 5 v5)]) (c_X5_mix er4) ⟨va_cnB 2 E.1.2.2.2.2 gX0_addToDigest_X5_mix_n57 rfl rfl rfl (E.2.2.2.1.2 _ (List.mem_of_getElem? (i := 2) rfl)) (E.1.2.2.2.2 _ (List.mem_of_getElem? (i := 4) rfl)) (by decide +kernel) ⟨Nat.le_of_ble_eq_true rfl, Nat.le_of_ble_eq_true rfl⟩, E.1.2.2.2.2 _ (List.mem_of_getElem? (i := 3) rfl), trivial⟩ rfl rfl (Nat.le_of_ble_eq_true rfl) ⟨Nat.zero_le _, Nat.zero_le _⟩ dX0_addToDigest_27 ?_
      refine j_lstore_n E rfl (by decide) (lv' := [(3, .long r4), (0, .ref (ad 1)), (1, .long v1), (5, .int v5)]) rfl dX0_addToDigest_30 ?_
      obtain ⟨x5, ex5, h⟩ := jle h
      refine j_iinc E 3 rfl kc_1 ex5 (by decide) (lv' := [(5, .int x5), (3, .long r4), (0, .ref (ad 1)), (1, .long v1)]) rfl dX0_addToDigest_31 ?_
      refine j_goto E (tgt := 12) (by decide) dX0_addToDigest_34 ?_
      refine j_sub [2, 3, 1, 0] (lv' := [(0, .ref (ad 1)), (1, .long v1), (3, .long r4), (5, .int x5)]) rfl ?_
      exact ih _ _ _ _ h
set_option maxHeartbeats 4000000 in
set_option maxRecDepth 100000 in
theorem c_X0_addToDigest {l : Launch} {D : va_G} {ad : Nat → Nat} {cI cZ : ClassId} {st : jS} {a1 : Int64} {o : (Int64 × jS)} (h : f_X0_addToDigest st a1 = some o) : CtL l D (jT cI cZ) (wX ad cI cZ) yX0_addToDigest wsX0_addToDigest (rm_X0_addToDigest) [.ref (ad 1), .long a1] st o.1 o.2 := by
  refine ctL_of (o := o) (cc := cX0_addToDigest) (nL := 6) (own := RX0) (by decide) rfl rfl (Nat.le_of_ble_eq_true rfl) (lv0 := [(0, .ref (ad 1)), (1, .long a1)]) rfl ?_
  intro p e s m args below meth c A E hr
  rw [f_X0_addToDigest] at h
  refine j_lload_n E 1 rfl rfl dX0_addToDigest_0 ?_
  refine j_aload_n E 0 rfl rfl dX0_addToDigest_1 ?_
  refine j_get E 1 (wX_g1 ad cI cZ _) rfl 4 rfl in_X0_addToDigest_X0 (by decide) (List.mem_of_getElem? (i := 1) rfl) (fun _ h9 => h9) dX0_addToDigest_2 ?_
  obtain ⟨r1, er1, h⟩ := jbd h
  refine j_callSNl E (As := [.long a1, .int (st.2 0)]) (c_X5_mix er1) ⟨va_cnB 2 E.1.2.2.2.2 gX0_addToDigest_X5_mix_n57 rfl rfl rfl (E.2.2.2.1.2 _ (List.mem_of_getElem? (i := 2) rfl)) (E.1.2.2.2.2 _ (List.mem_of_getElem? (i := 4) rfl)) (by decide +kernel) ⟨Nat.le_of_ble_eq_true rfl, Nat.le_of_ble_eq_true rfl⟩, E.1.2.2.2.2 _ (List.mem_of_getElem? (i := 3) rfl), trivial⟩ rfl rfl (Nat.le_of_ble_eq_true rfl) ⟨Nat.zero_le _, Nat.zero_le _⟩ dX0_addToDigest_5 ?_
  refine j_lstore_n E rfl (by decide) (lv' := [(3, .long r1), (0, .ref (ad 1)), (1, .long a1)]) rfl dX0_addToDigest_8 ?_
  refine j_iconst E (kc_0) dX0_addToDigest_9 ?_
  refine j_istore E (by decide) (lv' := [(5, .int 0), (3, .long r1), (0, .ref (ad 1)), (1, .long a1)]) rfl dX0_addToDigest_10 ?_
  refine j_sub [2, 3, 1, 0] (lv' := [(0, .ref (ad 1)), (1, .long a1), (3, .long r1), (5, .int 0)]) rfl ?_
  refine w_X0_addToDigest_12 E hr (fun s9 y6 y7 y8 h => ?_) _ _ _ _ _ h
  refine j_lload_n E 2 rfl rfl dX0_addToDigest_37 ?_
  exact j_lret E hr (Option.some.inj h) dX0_addToDigest_38
abbrev rm_X0_findEmpties : Room := { frames := 2, cells := 0, slots := 0, locals := 44 }
theorem in_X0_findEmpties_X0 : ∀ w ∈ u_ws RX0 TX0 8, w ∈ wsX0_findEmpties := fun w h => (List.mem_cons_of_mem _ (List.mem_append_right _ h))
def f_X0_findEmpties_21 (K : jS → Int32 → Int32 → Int32 → Option jS) : Nat → jS → Int32 → Int32 → Int32 → Option jS
  | 0, _, _, _, _ => none
  | n + 1, st, v1, v2, v3 =>
    if v3 ≥ (st.2 0) then
      K st v1 v2 v3
    else
    (f_X0_isEmptyByForm st v3).bind fun r5 =>
    bif job v3 80 then none else
    jl (jas r5.2 6 v3 (vp_nar .boolean r5.1)) fun s7 =>
    jl (v3 + 1) fun x8 =>
    f_X0_findEmpties_21 K n s7 v1 v2 x8
def f_X0_findEmpties_9 (K : jS → Int32 → Int32 → Option jS) : Nat → jS → Int32 → Int32 → Option jS
  | 0, _, _, _ => none
  | n + 1, st, v1, v2 =>
    if v2 > 10 then
      K st v1 v2
    else
    if v1 = 0 then
      K st v1 v2
    else
    f_X0_findEmpties_21 (fun s12 y9 y10 y11 =>
      (f_X0_addEmptyRules s12).bind fun r13 =>
      jl (y10 + 1) fun x14 =>
      f_X0_findEmpties_9 K n r13.2 r13.1 x14
      ) jFuel st v1 v2 0
def f_X0_findEmpties (st : jS)  : Option jS :=
  jl (jis st 8 0) fun s1 =>
  f_X0_findEmpties_9 (fun s17 y15 y16 =>
    some s17
    ) jFuel s1 1 0
set_option maxHeartbeats 4000000 in
set_option maxRecDepth 100000 in
theorem w_X0_findEmpties_21 {ad : Nat → Nat} {cI cZ : ClassId} {p : Program} {l : Launch} {e : Env} {s : State} {m : MethodId} {args : Array Value} {below : List Frame} {meth : Method} {c : Code} {D : va_G} {A : Nat → Prop} {o : jS} (E : jE p s m args meth c cX0_findEmpties 4 RX0 wsX0_findEmpties D (jT cI cZ) A) (hr : meth.sig.returnType = none) {K : jS → Int32 → Int32 → Int32 → Option jS} (hK : ∀ (st : jS) (v1 : Int32) (v2 : Int32) (v3 : Int32), K st v1 v2 v3 = some o → J p l e (rm_X0_findEmpties) s m args below meth c 4 D A (wX ad cI cZ) (jZV D (wX ad cI cZ) A below args s o) 0 0 st 46 [(0, .ref (ad 1)), (1, .int v1), (2, .int v2), (3, .int v3)] []) :
    ∀ (n : Nat) (st : jS) (v1 : Int32) (v2 : Int32) (v3 : Int32), f_X0_findEmpties_21 K n st v1 v2 v3 = some o → J p l e (rm_X0_findEmpties) s m args below meth c 4 D A (wX ad cI cZ) (jZV D (wX ad cI cZ) A below args s o) 0 0 st 21 [(0, .ref (ad 1)), (1, .int v1), (2, .int v2), (3, .int v3)] [] := by
  intro n
  induction n with
  | zero => intro st v1 v2 v3 h; cases h
  | succ n ih =>
    intro st v1 v2 v3 h
    rw [f_X0_findEmpties_21] at h
    refine j_iload_n E 3 rfl rfl dX0_findEmpties_21 ?_
    refine j_aload_n E 0 rfl rfl dX0_findEmpties_22 ?_
    refine j_get E 1 (wX_g1 ad cI cZ _) rfl 4 rfl in_X0_findEmpties_X0 (by decide) (List.mem_of_getElem? (i := 2) rfl) (fun _ h9 => h9) dX0_findEmpties_23 ?_
    refine j_icmp_ge E (tgt := 46) (by decide) dX0_findEmpties_26 (fun c4 => ?_) (fun c4 => ?_)
    · have h := jit h c4
      refine j_sub [0, 1, 2, 3] (lv' := [(0, .ref (ad 1)), (1, .int v1), (2, .int v2), (3, .int v3)]) rfl ?_
      exact hK _ _ _ _ h
    · have h := jif h c4
      refine j_aload_n E 0 rfl rfl dX0_findEmpties_29 ?_
      refine j_get E 1 (wX_g1 ad cI cZ _) rfl 5 rfl in_X0_findEmpties_X0 (by decide) (List.mem_of_getElem? (i := 3) rfl) (fun _ h9 => h9) dX0_findEmpties_30 ?_
      refine j_iload_n E 3 rfl rfl dX0_findEmpties_33 ?_
      refine j_aload_n E 0 rfl rfl dX0_findEmpties_34 ?_
      refine j_iload_n E 3 rfl rfl dX0_findEmpties_35 ?_
      obtain ⟨r5, er5, h⟩ := jbd h
      refine j_callVi E (As := [.int v3]) (c_X0_isEmptyByForm er5) (cwV 1 E.1.2.2.2.2 gX0_findEmpties_X0_isEmptyByForm rfl rfl rfl (by decide +kernel) ⟨Nat.le_of_ble_eq_true rfl, Nat.le_of_ble_eq_true rfl⟩) (wX_g1 ad cI cZ _) rfl rfl rfl (Nat.le_of_ble_eq_true rfl) ⟨Nat.zero_le _, Nat.zero_le _⟩ dX0_findEmpties_36 ?_
      obtain ⟨b6, h⟩ := job_else h
      obtain ⟨s7, es7, h⟩ := jle h
      refine j_zast E 6 1 (wX_g6 ad cI cZ _) rfl (wX_s6 ad cI cZ _ _) b6 dX0_findEmpties_39 ?_
      refine j_st es7 ?_
      obtain ⟨x8, ex8, h⟩ := jle h
      refine j_iinc E 3 rfl kc_1 ex8 (by decide) (lv' := [(3, .int x8), (0, .ref (ad 1)), (1, .int v1), (2, .int v2)]) rfl dX0_findEmpties_40 ?_
      refine j_goto E (tgt := 21) (by decide) dX0_findEmpties_43 ?_
      refine j_sub [1, 2, 3, 0] (lv' := [(0, .ref (ad 1)), (1, .int v1), (2, .int v2), (3, .int x8)]) rfl ?_
      exact ih _ _ _ _ h
set_option maxHeartbeats 4000000 in
set_option maxRecDepth 100000 in
theorem w_X0_findEmpties_9 {ad : Nat → Nat} {cI cZ : ClassId} {p : Program} {l : Launch} {e : Env} {s : State} {m : MethodId} {args : Array Value} {below : List Frame} {meth : Method} {c : Code} {D : va_G} {A : Nat → Prop} {o : jS} (E : jE p s m args meth c cX0_findEmpties 4 RX0 wsX0_findEmpties D (jT cI cZ) A) (hr : meth.sig.returnType = none) {K : jS → Int32 → Int32 → Option jS} (hK : ∀ (st : jS) (v1 : Int32) (v2 : Int32), K st v1 v2 = some o → J p l e (rm_X0_findEmpties) s m args below meth c 4 D A (wX ad cI cZ) (jZV D (wX ad cI cZ) A below args s o) 0 0 st 57 [(0, .ref (ad 1)), (1, .int v1), (2, .int v2)] []) :
    ∀ (n : Nat) (st : jS) (v1 : Int32) (v2 : Int32), f_X0_findEmpties_9 K n st v1 v2 = some o → J p l e (rm_X0_findEmpties) s m args below meth c 4 D A (wX ad cI cZ) (jZV D (wX ad cI cZ) A below args s o) 0 0 st 9 [(0, .ref (ad 1)), (1, .int v1), (2, .int v2)] [] := by
  intro n
  induction n with
  | zero => intro st v1 v2 h; cases h
  | succ n ih =>
    intro st v1 v2 h
    rw [f_X0_findEmpties_9] at h
    refine j_iload_n E 2 rfl rfl dX0_findEmpties_9 ?_
    refine j_bipush E (kb_10) dX0_findEmpties_10 ?_
    refine j_icmp_gt E (tgt := 57) (by decide) dX0_findEmpties_12 (fun c2 => ?_) (fun c2 => ?_)
    · have h := jit h c2
      refine j_sub [0, 1, 2] (lv' := [(0, .ref (ad 1)), (1, .int v1), (2, .int v2)]) rfl ?_
      exact hK _ _ _ h
    · have h := jif h c2
      refine j_iload_n E 1 rfl rfl dX0_findEmpties_15 ?_
      refine j_if_eq E (tgt := 57) (by decide) dX0_findEmpties_16 (fun c3 => ?_) (fun c3 => ?_)
      · have h := jit h c3
        refine j_sub [0, 1, 2] (lv' := [(0, .ref (ad 1)), (1, .int v1), (2, .int v2)]) rfl ?_
        exact hK _ _ _ h
      · have h := jif h c3
        refine j_iconst E (kc_0) dX0_findEmpties_19 ?_
        refine j_istore_n E rfl (by decide) (lv' := [(3, .int 0), (0, .ref (ad 1)), (1, .int v1), (2, .int v2)]) rfl dX0_findEmpties_20 ?_
        refine j_sub [1, 2, 3, 0] (lv' := [(0, .ref (ad 1)), (1, .int v1), (2, .int v2), (3, .int 0)]) rfl ?_
        refine w_X0_findEmpties_21 E hr (fun s12 y9 y10 y11 h => ?_) _ _ _ _ _ h
        refine j_aload_n E 0 rfl rfl dX0_findEmpties_46 ?_
        obtain ⟨r13, er13, h⟩ := jbd h
        refine j_callVi E (As := []) (c_X0_addEmptyRules er13) (cwV 0 E.1.2.2.2.2 gX0_findEmpties_X0_addEmptyRules rfl rfl rfl (by decide +kernel) ⟨Nat.le_of_ble_eq_true rfl, Nat.le_of_ble_eq_true rfl⟩) (wX_g1 ad cI cZ _) rfl rfl rfl (Nat.le_of_ble_eq_true rfl) ⟨Nat.zero_le _, Nat.zero_le _⟩ dX0_findEmpties_47 ?_
        refine j_istore_n E rfl (by decide) (lv' := [(1, .int r13.1), (0, .ref (ad 1)), (2, .int y10), (3, .int y11)]) rfl dX0_findEmpties_50 ?_
        obtain ⟨x14, ex14, h⟩ := jle h
        refine j_iinc E 2 rfl kc_1 ex14 (by decide) (lv' := [(2, .int x14), (1, .int r13.1), (0, .ref (ad 1)), (3, .int y11)]) rfl dX0_findEmpties_51 ?_
        refine j_goto E (tgt := 9) (by decide) dX0_findEmpties_54 ?_
        refine j_sub [2, 1, 0] (lv' := [(0, .ref (ad 1)), (1, .int r13.1), (2, .int x14)]) rfl ?_
        exact ih _ _ _ h
set_option maxHeartbeats 4000000 in
set_option maxRecDepth 100000 in
theorem c_X0_findEmpties {l : Launch} {D : va_G} {ad : Nat → Nat} {cI cZ : ClassId} {st : jS}  {o : jS} (h : f_X0_findEmpties st = some o) : CtV l D (jT cI cZ) (wX ad cI cZ) yX0_findEmpties wsX0_findEmpties (rm_X0_findEmpties) [.ref (ad 1)] st o := by
  refine ctV_of (o := o) (cc := cX0_findEmpties) (nL := 4) (own := RX0) (by decide) rfl rfl (Nat.le_of_ble_eq_true rfl) (lv0 := [(0, .ref (ad 1))]) rfl ?_
  intro p e s m args below meth c A E hr
  rw [f_X0_findEmpties] at h
  refine j_aload_n E 0 rfl rfl dX0_findEmpties_0 ?_
  refine j_iconst E (kc_0) dX0_findEmpties_1 ?_
  obtain ⟨s1, es1, h⟩ := jle h
  refine j_put E 1 (wX_g1 ad cI cZ _) rfl 6 (ty := .int) (wX_p1_6 ad cI cZ _ _) tyX0_ok nmX0 in_X0_findEmpties_X0 (by decide) (List.mem_of_getElem? (i := 1) rfl) (fun _ h9 => h9) rfl (tyX0_ok 6 (by decide)) rfl rfl (Nat.le_of_ble_eq_true rfl) dX0_findEmpties_2 ?_
  refine j_st es1 ?_
  refine j_iconst E (kc_1) dX0_findEmpties_5 ?_
  refine j_istore_n E rfl (by decide) (lv' := [(1, .int 1), (0, .ref (ad 1))]) rfl dX0_findEmpties_6 ?_
  refine j_iconst E (kc_0) dX0_findEmpties_7 ?_
  refine j_istore_n E rfl (by decide) (lv' := [(2, .int 0), (1, .int 1), (0, .ref (ad 1))]) rfl dX0_findEmpties_8 ?_
  refine j_sub [2, 1, 0] (lv' := [(0, .ref (ad 1)), (1, .int 1), (2, .int 0)]) rfl ?_
  refine w_X0_findEmpties_9 E hr (fun s17 y15 y16 h => ?_) _ _ _ _ h
  exact j_vret E hr (Option.some.inj h) dX0_findEmpties_57
abbrev rm_X0_succeedsInPlace : Room := { frames := 3, cells := 0, slots := 0, locals := 67 }
theorem in_X0_succeedsInPlace_X0 : ∀ w ∈ u_ws RX0 TX0 8, w ∈ wsX0_succeedsInPlace := fun w h => (List.mem_cons_of_mem _ (List.mem_append_right _ h))
def f_X0_succeedsInPlace (st : jS) (a1 : Int32) : Option (Int32 × jS) :=
  (f_X0_findEmpties st).bind fun r1 =>
  bif job a1 80 then none else
  bif jnb (jag r1 6 a1) then none else
  some ((jag r1 6 a1), r1)
set_option maxHeartbeats 4000000 in
set_option maxRecDepth 100000 in
theorem c_X0_succeedsInPlace {l : Launch} {D : va_G} {ad : Nat → Nat} {cI cZ : ClassId} {st : jS} {a1 : Int32} {o : (Int32 × jS)} (h : f_X0_succeedsInPlace st a1 = some o) : CtI l D (jT cI cZ) (wX ad cI cZ) yX0_succeedsInPlace wsX0_succeedsInPlace (rm_X0_succeedsInPlace) [.ref (ad 1), .int a1] st o.1 o.2 := by
  refine ctI_of (o := o) (cc := cX0_succeedsInPlace) (nL := 2) (own := RX0) (by decide) rfl rfl (Nat.le_of_ble_eq_true rfl) (lv0 := [(0, .ref (ad 1)), (1, .int a1)]) rfl ?_
  intro p e s m args below meth c A E hr
  rw [f_X0_succeedsInPlace] at h
  refine j_aload_n E 0 rfl rfl dX0_succeedsInPlace_0 ?_
  obtain ⟨r1, er1, h⟩ := jbd h
  refine j_callVv E (As := []) (c_X0_findEmpties er1) (cwV 0 E.1.2.2.2.2 gX0_succeedsInPlace_X0_findEmpties rfl rfl rfl (by decide +kernel) ⟨Nat.le_of_ble_eq_true rfl, Nat.le_of_ble_eq_true rfl⟩) (wX_g1 ad cI cZ _) rfl rfl rfl (Nat.le_of_ble_eq_true rfl) ⟨Nat.zero_le _, Nat.zero_le _⟩ dX0_succeedsInPlace_1 ?_
  refine j_aload_n E 0 rfl rfl dX0_succeedsInPlace_4 ?_
  refine j_get E 1 (wX_g1 ad cI cZ _) rfl 5 rfl in_X0_succeedsInPlace_X0 (by decide) (List.mem_of_getElem? (i := 1) rfl) (fun _ h9 => h9) dX0_succeedsInPlace_5 ?_
  refine j_iload_n E 1 rfl rfl dX0_succeedsInPlace_8 ?_
  obtain ⟨b2, h⟩ := job_else h
  refine j_zald E 6 1 (wX_g6 ad cI cZ _) rfl b2 dX0_succeedsInPlace_9 ?_
  obtain ⟨b3, h⟩ := jnb_else h
  exact j_iret E hr b3 (Option.some.inj h) dX0_succeedsInPlace_10
abbrev rm_X0_beginsWithItself : Room := { frames := 3, cells := 0, slots := 0, locals := 67 }
def f_X0_beginsWithItself_25 (K : jS → Int32 → Int32 → Int32 → Int32 → Option (Int32 × jS)) : Nat → jS → Int32 → Int32 → Int32 → Int32 → Option (Int32 × jS)
  | 0, _, _, _, _, _ => none
  | n + 1, st, v1, v2, v3, v4 =>
    if v4 ≥ 10 then
      K st v1 v2 v3 v4
    else
    (f_X5_bit v4).bind fun r6 =>
    if (v2 &&& r6) = 0 then
      jl (v4 + 1) fun x8 =>
      f_X0_beginsWithItself_25 K n st v1 v2 v3 x8
    else
    (f_X0_beginningsOfRule st v4).bind fun r9 =>
    jl (v2 ||| r9.1) fun x10 =>
    jl (v4 + 1) fun x11 =>
    f_X0_beginsWithItself_25 K n r9.2 v1 x10 v3 x11
def f_X0_beginsWithItself_16 (K : jS → Int32 → Int32 → Int32 → Option (Int32 × jS)) : Nat → jS → Int32 → Int32 → Int32 → Option (Int32 × jS)
  | 0, _, _, _, _ => none
  | n + 1, st, v1, v2, v3 =>
    if v3 ≥ 10 then
      K st v1 v2 v3
    else
    f_X0_beginsWithItself_25 (fun s16 y12 y13 y14 y15 =>
      jl (y14 + 1) fun x17 =>
      f_X0_beginsWithItself_16 K n s16 y12 y13 x17
      ) jFuel st v1 v2 v3 0
def f_X0_beginsWithItself (st : jS) (a1 : Int32) : Option (Int32 × jS) :=
  (f_X0_findEmpties st).bind fun r1 =>
  (f_X0_findBeginnings r1).bind fun r2 =>
  (f_X0_beginningsOfRule r2 a1).bind fun r3 =>
  f_X0_beginsWithItself_16 (fun s21 y18 y19 y20 =>
    (f_X5_bit y18).bind fun r22 =>
    if (y19 &&& r22) = 0 then
      some (0, s21)
    else
    some (1, s21)
    ) jFuel r3.2 a1 r3.1 0
set_option maxHeartbeats 4000000 in
set_option maxRecDepth 100000 in
theorem w_X0_beginsWithItself_25 {ad : Nat → Nat} {cI cZ : ClassId} {p : Program} {l : Launch} {e : Env} {s : State} {m : MethodId} {args : Array Value} {below : List Frame} {meth : Method} {c : Code} {D : va_G} {A : Nat → Prop} {o : (Int32 × jS)} (E : jE p s m args meth c cX0_beginsWithItself 5 RX0 wsX0_beginsWithItself D (jT cI cZ) A) (hr : meth.sig.returnType = (some .boolean)) {K : jS → Int32 → Int32 → Int32 → Int32 → Option (Int32 × jS)} (hK : ∀ (st : jS) (v1 : Int32) (v2 : Int32) (v3 : Int32) (v4 : Int32), K st v1 v2 v3 v4 = some o → J p l e (rm_X0_beginsWithItself) s m args below meth c 5 D A (wX ad cI cZ) (jZI D (wX ad cI cZ) A below args s o) 0 0 st 57 [(0, .ref (ad 1)), (1, .int v1), (2, .int v2), (3, .int v3), (4, .int v4)] []) :
    ∀ (n : Nat) (st : jS) (v1 : Int32) (v2 : Int32) (v3 : Int32) (v4 : Int32), f_X0_beginsWithItself_25 K n st v1 v2 v3 v4 = some o → J p l e (rm_X0_beginsWithItself) s m args below meth c 5 D A (wX ad cI cZ) (jZI D (wX ad cI cZ) A below args s o) 0 0 st 25 [(0, .ref (ad 1)), (1, .int v1), (2, .int v2), (3, .int v3), (4, .int v4)] [] := by
  intro n
  induction n with
  | zero => intro st v1 v2 v3 v4 h; cases h
  | succ n ih =>
    intro st v1 v2 v3 v4 h
    rw [f_X0_beginsWithItself_25] at h
    refine j_iload E 4 rfl dX0_beginsWithItself_25 ?_
    refine j_bipush E (kb_10) dX0_beginsWithItself_27 ?_
    refine j_icmp_ge E (tgt := 57) (by decide) dX0_beginsWithItself_29 (fun c5 => ?_) (fun c5 => ?_)
    · have h := jit h c5
      refine j_sub [0, 1, 2, 3, 4] (lv' := [(0, .ref (ad 1)), (1, .int v1), (2, .int v2), (3, .int v3), (4, .int v4)]) rfl ?_
      exact hK _ _ _ _ _ h
    · have h := jif h c5
      refine j_iload_n E 2 rfl rfl dX0_beginsWithItself_32 ?_
      refine j_iload E 4 rfl dX0_beginsWithItself_33 ?_
      obtain ⟨r6, er6, h⟩ := jbd h
      refine j_callSNi E (As := [.int v4]) (c_X5_bit er6) ⟨va_cnB 1 E.1.2.2.2.2 gX0_beginsWithItself_X5_bit_n54 rfl rfl rfl (E.2.2.2.1.2 _ (List.mem_of_getElem? (i := 1) rfl)) (E.1.2.2.2.2 _ (List.mem_of_getElem? (i := 17) rfl)) (by decide +kernel) ⟨Nat.le_of_ble_eq_true rfl, Nat.le_of_ble_eq_true rfl⟩, E.1.2.2.2.2 _ (List.mem_of_getElem? (i := 16) rfl), trivial⟩ rfl rfl (Nat.le_of_ble_eq_true rfl) ⟨Nat.zero_le _, Nat.zero_le _⟩ dX0_beginsWithItself_35 ?_
      refine j_iand E dX0_beginsWithItself_38 ?_
      refine j_if_eq E (tgt := 51) (by decide) dX0_beginsWithItself_39 (fun c7 => ?_) (fun c7 => ?_)
      · have h := jit h c7
        obtain ⟨x8, ex8, h⟩ := jle h
        refine j_iinc E 4 rfl kc_1 ex8 (by decide) (lv' := [(4, .int x8), (0, .ref (ad 1)), (1, .int v1), (2, .int v2), (3, .int v3)]) rfl dX0_beginsWithItself_51 ?_
        refine j_goto E (tgt := 25) (by decide) dX0_beginsWithItself_54 ?_
        refine j_sub [1, 2, 3, 4, 0] (lv' := [(0, .ref (ad 1)), (1, .int v1), (2, .int v2), (3, .int v3), (4, .int x8)]) rfl ?_
        exact ih _ _ _ _ _ h
      · have h := jif h c7
        refine j_iload_n E 2 rfl rfl dX0_beginsWithItself_42 ?_
        refine j_aload_n E 0 rfl rfl dX0_beginsWithItself_43 ?_
        refine j_iload E 4 rfl dX0_beginsWithItself_44 ?_
        obtain ⟨r9, er9, h⟩ := jbd h
        refine j_callVi E (As := [.int v4]) (c_X0_beginningsOfRule er9) (cwV 1 E.1.2.2.2.2 gX0_beginsWithItself_X0_beginningsOfRule rfl rfl rfl (by decide +kernel) ⟨Nat.le_of_ble_eq_true rfl, Nat.le_of_ble_eq_true rfl⟩) (wX_g1 ad cI cZ _) rfl rfl rfl (Nat.le_of_ble_eq_true rfl) ⟨Nat.zero_le _, Nat.zero_le _⟩ dX0_beginsWithItself_46 ?_
        refine j_ior E dX0_beginsWithItself_49 ?_
        obtain ⟨x10, ex10, h⟩ := jle h
        refine j_topi ex10 ?_
        refine j_istore_n E rfl (by decide) (lv' := [(2, .int x10), (0, .ref (ad 1)), (1, .int v1), (3, .int v3), (4, .int v4)]) rfl dX0_beginsWithItself_50 ?_
        obtain ⟨x11, ex11, h⟩ := jle h
        refine j_iinc E 4 rfl kc_1 ex11 (by decide) (lv' := [(4, .int x11), (2, .int x10), (0, .ref (ad 1)), (1, .int v1), (3, .int v3)]) rfl dX0_beginsWithItself_51 ?_
        refine j_goto E (tgt := 25) (by decide) dX0_beginsWithItself_54 ?_
        refine j_sub [2, 3, 1, 4, 0] (lv' := [(0, .ref (ad 1)), (1, .int v1), (2, .int x10), (3, .int v3), (4, .int x11)]) rfl ?_
        exact ih _ _ _ _ _ h
set_option maxHeartbeats 4000000 in
set_option maxRecDepth 100000 in
theorem w_X0_beginsWithItself_16 {ad : Nat → Nat} {cI cZ : ClassId} {p : Program} {l : Launch} {e : Env} {s : State} {m : MethodId} {args : Array Value} {below : List Frame} {meth : Method} {c : Code} {D : va_G} {A : Nat → Prop} {o : (Int32 × jS)} (E : jE p s m args meth c cX0_beginsWithItself 5 RX0 wsX0_beginsWithItself D (jT cI cZ) A) (hr : meth.sig.returnType = (some .boolean)) {K : jS → Int32 → Int32 → Int32 → Option (Int32 × jS)} (hK : ∀ (st : jS) (v1 : Int32) (v2 : Int32) (v3 : Int32), K st v1 v2 v3 = some o → J p l e (rm_X0_beginsWithItself) s m args below meth c 5 D A (wX ad cI cZ) (jZI D (wX ad cI cZ) A below args s o) 0 0 st 63 [(0, .ref (ad 1)), (1, .int v1), (2, .int v2), (3, .int v3)] []) :
    ∀ (n : Nat) (st : jS) (v1 : Int32) (v2 : Int32) (v3 : Int32), f_X0_beginsWithItself_16 K n st v1 v2 v3 = some o → J p l e (rm_X0_beginsWithItself) s m args below meth c 5 D A (wX ad cI cZ) (jZI D (wX ad cI cZ) A below args s o) 0 0 st 16 [(0, .ref (ad 1)), (1, .int v1), (2, .int v2), (3, .int v3)] [] := by
  intro n
  induction n with
  | zero => intro st v1 v2 v3 h; cases h
  | succ n ih =>
    intro st v1 v2 v3 h
    rw [f_X0_beginsWithItself_16] at h
    refine j_iload_n E 3 rfl rfl dX0_beginsWithItself_16 ?_
    refine j_bipush E (kb_10) dX0_beginsWithItself_17 ?_
    refine j_icmp_ge E (tgt := 63) (by decide) dX0_beginsWithItself_19 (fun c4 => ?_) (fun c4 => ?_)
    · have h := jit h c4
      refine j_sub [0, 1, 2, 3] (lv' := [(0, .ref (ad 1)), (1, .int v1), (2, .int v2), (3, .int v3)]) rfl ?_
      exact hK _ _ _ _ h
    · have h := jif h c4
      refine j_iconst E (kc_0) dX0_beginsWithItself_22 ?_
      refine j_istore E (by decide) (lv' := [(4, .int 0), (0, .ref (ad 1)), (1, .int v1), (2, .int v2), (3, .int v3)]) rfl dX0_beginsWithItself_23 ?_
      refine j_sub [1, 2, 3, 4, 0] (lv' := [(0, .ref (ad 1)), (1, .int v1), (2, .int v2), (3, .int v3), (4, .int 0)]) rfl ?_
      refine w_X0_beginsWithItself_25 E hr (fun s16 y12 y13 y14 y15 h => ?_) _ _ _ _ _ _ h
      obtain ⟨x17, ex17, h⟩ := jle h
      refine j_iinc E 3 rfl kc_1 ex17 (by decide) (lv' := [(3, .int x17), (0, .ref (ad 1)), (1, .int y12), (2, .int y13), (4, .int y15)]) rfl dX0_beginsWithItself_57 ?_
      refine j_goto E (tgt := 16) (by decide) dX0_beginsWithItself_60 ?_
      refine j_sub [1, 2, 3, 0] (lv' := [(0, .ref (ad 1)), (1, .int y12), (2, .int y13), (3, .int x17)]) rfl ?_
      exact ih _ _ _ _ h
set_option maxHeartbeats 4000000 in
set_option maxRecDepth 100000 in
theorem c_X0_beginsWithItself {l : Launch} {D : va_G} {ad : Nat → Nat} {cI cZ : ClassId} {st : jS} {a1 : Int32} {o : (Int32 × jS)} (h : f_X0_beginsWithItself st a1 = some o) : CtI l D (jT cI cZ) (wX ad cI cZ) yX0_beginsWithItself wsX0_beginsWithItself (rm_X0_beginsWithItself) [.ref (ad 1), .int a1] st o.1 o.2 := by
  refine ctI_of (o := o) (cc := cX0_beginsWithItself) (nL := 5) (own := RX0) (by decide) rfl rfl (Nat.le_of_ble_eq_true rfl) (lv0 := [(0, .ref (ad 1)), (1, .int a1)]) rfl ?_
  intro p e s m args below meth c A E hr
  rw [f_X0_beginsWithItself] at h
  refine j_aload_n E 0 rfl rfl dX0_beginsWithItself_0 ?_
  obtain ⟨r1, er1, h⟩ := jbd h
  refine j_callVv E (As := []) (c_X0_findEmpties er1) (cwV 0 E.1.2.2.2.2 gX0_beginsWithItself_X0_findEmpties rfl rfl rfl (by decide +kernel) ⟨Nat.le_of_ble_eq_true rfl, Nat.le_of_ble_eq_true rfl⟩) (wX_g1 ad cI cZ _) rfl rfl rfl (Nat.le_of_ble_eq_true rfl) ⟨Nat.zero_le _, Nat.zero_le _⟩ dX0_beginsWithItself_1 ?_
  refine j_aload_n E 0 rfl rfl dX0_beginsWithItself_4 ?_
  obtain ⟨r2, er2, h⟩ := jbd h
  refine j_callVv E (As := []) (c_X0_findBeginnings er2) (cwV 0 E.1.2.2.2.2 gX0_beginsWithItself_X0_findBeginnings rfl rfl rfl (by decide +kernel) ⟨Nat.le_of_ble_eq_true rfl, Nat.le_of_ble_eq_true rfl⟩) (wX_g1 ad cI cZ _) rfl rfl rfl (Nat.le_of_ble_eq_true rfl) ⟨Nat.zero_le _, Nat.zero_le _⟩ dX0_beginsWithItself_5 ?_
  refine j_aload_n E 0 rfl rfl dX0_beginsWithItself_8 ?_
  refine j_iload_n E 1 rfl rfl dX0_beginsWithItself_9 ?_
  obtain ⟨r3, er3, h⟩ := jbd h
  refine j_callVi E (As := [.int a1]) (c_X0_beginningsOfRule er3) (cwV 1 E.1.2.2.2.2 gX0_beginsWithItself_X0_beginningsOfRule rfl rfl rfl (by decide +kernel) ⟨Nat.le_of_ble_eq_true rfl, Nat.le_of_ble_eq_true rfl⟩) (wX_g1 ad cI cZ _) rfl rfl rfl (Nat.le_of_ble_eq_true rfl) ⟨Nat.zero_le _, Nat.zero_le _⟩ dX0_beginsWithItself_10 ?_
  refine j_istore_n E rfl (by decide) (lv' := [(2, .int r3.1), (0, .ref (ad 1)), (1, .int a1)]) rfl dX0_beginsWithItself_13 ?_
  refine j_iconst E (kc_0) dX0_beginsWithItself_14 ?_
  refine j_istore_n E rfl (by decide) (lv' := [(3, .int 0), (2, .int r3.1), (0, .ref (ad 1)), (1, .int a1)]) rfl dX0_beginsWithItself_15 ?_
  refine j_sub [2, 3, 1, 0] (lv' := [(0, .ref (ad 1)), (1, .int a1), (2, .int r3.1), (3, .int 0)]) rfl ?_
  refine w_X0_beginsWithItself_16 E hr (fun s21 y18 y19 y20 h => ?_) _ _ _ _ _ h
  refine j_iload_n E 2 rfl rfl dX0_beginsWithItself_63 ?_
  refine j_iload_n E 1 rfl rfl dX0_beginsWithItself_64 ?_
  obtain ⟨r22, er22, h⟩ := jbd h
  refine j_callSNi E (As := [.int y18]) (c_X5_bit er22) ⟨va_cnB 1 E.1.2.2.2.2 gX0_beginsWithItself_X5_bit_n54 rfl rfl rfl (E.2.2.2.1.2 _ (List.mem_of_getElem? (i := 1) rfl)) (E.1.2.2.2.2 _ (List.mem_of_getElem? (i := 17) rfl)) (by decide +kernel) ⟨Nat.le_of_ble_eq_true rfl, Nat.le_of_ble_eq_true rfl⟩, E.1.2.2.2.2 _ (List.mem_of_getElem? (i := 16) rfl), trivial⟩ rfl rfl (Nat.le_of_ble_eq_true rfl) ⟨Nat.zero_le _, Nat.zero_le _⟩ dX0_beginsWithItself_65 ?_
  refine j_iand E dX0_beginsWithItself_68 ?_
  refine j_if_eq E (tgt := 76) (by decide) dX0_beginsWithItself_69 (fun c23 => ?_) (fun c23 => ?_)
  · have h := jit h c23
    refine j_iconst E (kc_0) dX0_beginsWithItself_76 ?_
    exact j_iret E hr rfl (Option.some.inj h) dX0_beginsWithItself_77
  · have h := jif h c23
    refine j_iconst E (kc_1) dX0_beginsWithItself_72 ?_
    refine j_goto E (tgt := 77) (by decide) dX0_beginsWithItself_73 ?_
    exact j_iret E hr rfl (Option.some.inj h) dX0_beginsWithItself_77
abbrev rm_X4_splice : Room := { frames := 2, cells := 0, slots := 0, locals := 60 }
theorem in_X4_splice_X4 : ∀ w ∈ u_ws RX4 TX4 2, w ∈ wsX4_splice := fun w h => (List.mem_cons_of_mem _ (List.mem_append_right _ h))
def f_X4_splice_41 (K : jS → Int32 → Int32 → Int64 → Int32 → Int32 → Int32 → Int32 → Option jS) : Nat → jS → Int32 → Int32 → Int64 → Int32 → Int32 → Int32 → Int32 → Option jS
  | 0, _, _, _, _, _, _, _, _ => none
  | n + 1, st, v1, v2, v3, v5, v6, v7, v8 =>
    if v8 ≥ 8 then
      K st v1 v2 v3 v5 v6 v7 v8
    else
    (f_X5_packedByte v3 v8).bind fun r6 =>
    if r6 = 0 then
      jl (v8 + 1) fun x8 =>
      f_X4_splice_41 K n st v1 v2 v3 v5 v6 v7 x8
    else
    bif job v7 40 then none else
    jl (jas st 10 v7 r6) fun s10 =>
    jl (v7 + 1) fun x11 =>
    jl (v8 + 1) fun x12 =>
    f_X4_splice_41 K n s10 v1 v2 v3 v5 v6 x11 x12
def f_X4_splice (st : jS) (a1 : Int32) (a2 : Int32) (a3 : Int64) : Option jS :=
  (f_X5_countBytes a3).bind fun r1 =>
  jl (a1 + a2) fun x2 =>
  bif jcb x2 (a1 + r1) ((st.2 1) - x2) 40 then none else
  jl (jaf st 10 (va_cpy (st.1 10) (st.1 10) (x2).toNatClampNeg ((a1 + r1)).toNatClampNeg (((st.2 1) - x2)).toNatClampNeg)) fun s4 =>
  f_X4_splice_41 (fun s20 y13 y14 y15 y16 y17 y18 y19 =>
    jl (jis s20 1 ((s20.2 1) + (y16 - y14))) fun s21 =>
    some s21
    ) jFuel s4 a1 a2 a3 r1 x2 a1 0
set_option maxHeartbeats 4000000 in
set_option maxRecDepth 100000 in
theorem w_X4_splice_41 {ad : Nat → Nat} {cI cZ : ClassId} {p : Program} {l : Launch} {e : Env} {s : State} {m : MethodId} {args : Array Value} {below : List Frame} {meth : Method} {c : Code} {D : va_G} {A : Nat → Prop} {o : jS} (E : jE p s m args meth c cX4_splice 10 RX4 wsX4_splice D (jT cI cZ) A) (hr : meth.sig.returnType = none) {K : jS → Int32 → Int32 → Int64 → Int32 → Int32 → Int32 → Int32 → Option jS} (hK : ∀ (st : jS) (v1 : Int32) (v2 : Int32) (v3 : Int64) (v5 : Int32) (v6 : Int32) (v7 : Int32) (v8 : Int32), K st v1 v2 v3 v5 v6 v7 v8 = some o → J p l e (rm_X4_splice) s m args below meth c 10 D A (wX ad cI cZ) (jZV D (wX ad cI cZ) A below args s o) 0 0 st 79 [(0, .ref (ad 9)), (1, .int v1), (2, .int v2), (3, .long v3), (5, .int v5), (6, .int v6), (7, .int v7), (8, .int v8)] []) :
    ∀ (n : Nat) (st : jS) (v1 : Int32) (v2 : Int32) (v3 : Int64) (v5 : Int32) (v6 : Int32) (v7 : Int32) (v8 : Int32), f_X4_splice_41 K n st v1 v2 v3 v5 v6 v7 v8 = some o → J p l e (rm_X4_splice) s m args below meth c 10 D A (wX ad cI cZ) (jZV D (wX ad cI cZ) A below args s o) 0 0 st 41 [(0, .ref (ad 9)), (1, .int v1), (2, .int v2), (3, .long v3), (5, .int v5), (6, .int v6), (7, .int v7), (8, .int v8)] [] := by
  intro n
  induction n with
  | zero => intro st v1 v2 v3 v5 v6 v7 v8 h; cases h
  | succ n ih =>
    intro st v1 v2 v3 v5 v6 v7 v8 h
    rw [f_X4_splice_41] at h
    refine j_iload E 7 rfl dX4_splice_41 ?_
    refine j_bipush E (kb_8) dX4_splice_43 ?_
    refine j_icmp_ge E (tgt := 79) (by decide) dX4_splice_45 (fun c5 => ?_) (fun c5 => ?_)
    · have h := jit h c5
      refine j_sub [0, 1, 2, 3, 4, 5, 6, 7] (lv' := [(0, .ref (ad 9)), (1, .int v1), (2, .int v2), (3, .long v3), (5, .int v5), (6, .int v6), (7, .int v7), (8, .int v8)]) rfl ?_
      exact hK _ _ _ _ _ _ _ _ h
    · have h := jif h c5
      refine j_lload_n E 3 rfl rfl dX4_splice_48 ?_
      refine j_iload E 7 rfl dX4_splice_49 ?_
      obtain ⟨r6, er6, h⟩ := jbd h
      refine j_callSNi E (As := [.long v3, .int v8]) (c_X5_packedByte er6) ⟨va_cnB 2 E.1.2.2.2.2 gX4_splice_X5_packedByte_n33 rfl rfl rfl (E.2.2.2.1.2 _ (List.mem_of_getElem? (i := 8) rfl)) (E.1.2.2.2.2 _ (List.mem_of_getElem? (i := 8) rfl)) (by decide +kernel) ⟨Nat.le_of_ble_eq_true rfl, Nat.le_of_ble_eq_true rfl⟩, E.1.2.2.2.2 _ (List.mem_of_getElem? (i := 11) rfl), trivial⟩ rfl rfl (Nat.le_of_ble_eq_true rfl) ⟨Nat.zero_le _, Nat.zero_le _⟩ dX4_splice_51 ?_
      refine j_istore E (by decide) (lv' := [(9, .int r6), (0, .ref (ad 9)), (1, .int v1), (2, .int v2), (3, .long v3), (5, .int v5), (6, .int v6), (7, .int v7), (8, .int v8)]) rfl dX4_splice_54 ?_
      refine j_iload E 0 rfl dX4_splice_56 ?_
      refine j_if_eq E (tgt := 73) (by decide) dX4_splice_58 (fun c7 => ?_) (fun c7 => ?_)
      · have h := jit h c7
        obtain ⟨x8, ex8, h⟩ := jle h
        refine j_iinc E 8 rfl kc_1 ex8 (by decide) (lv' := [(8, .int x8), (9, .int r6), (0, .ref (ad 9)), (1, .int v1), (2, .int v2), (3, .long v3), (5, .int v5), (6, .int v6), (7, .int v7)]) rfl dX4_splice_73 ?_
        refine j_goto E (tgt := 41) (by decide) dX4_splice_76 ?_
        refine j_sub [2, 3, 4, 5, 6, 7, 8, 0] (lv' := [(0, .ref (ad 9)), (1, .int v1), (2, .int v2), (3, .long v3), (5, .int v5), (6, .int v6), (7, .int v7), (8, .int x8)]) rfl ?_
        exact ih _ _ _ _ _ _ _ _ h
      · have h := jif h c7
        refine j_aload_n E 1 rfl rfl dX4_splice_61 ?_
        refine j_get E 9 (wX_g9 ad cI cZ _) rfl 0 rfl in_X4_splice_X4 (by decide) (List.mem_of_getElem? (i := 1) rfl) (fun _ h9 => h9) dX4_splice_62 ?_
        refine j_iload E 7 rfl dX4_splice_65 ?_
        refine j_iload E 0 rfl dX4_splice_67 ?_
        obtain ⟨b9, h⟩ := job_else h
        obtain ⟨s10, es10, h⟩ := jle h
        refine j_iast E 10 0 (wX_g10 ad cI cZ _) rfl (wX_s10 ad cI cZ _ _) b9 dX4_splice_69 ?_
        refine j_st es10 ?_
        obtain ⟨x11, ex11, h⟩ := jle h
        refine j_iinc E 7 rfl kc_1 ex11 (by decide) (lv' := [(7, .int x11), (9, .int r6), (0, .ref (ad 9)), (1, .int v1), (2, .int v2), (3, .long v3), (5, .int v5), (6, .int v6), (8, .int v8)]) rfl dX4_splice_70 ?_
        obtain ⟨x12, ex12, h⟩ := jle h
        refine j_iinc E 8 rfl kc_1 ex12 (by decide) (lv' := [(8, .int x12), (7, .int x11), (9, .int r6), (0, .ref (ad 9)), (1, .int v1), (2, .int v2), (3, .long v3), (5, .int v5), (6, .int v6)]) rfl dX4_splice_73 ?_
        refine j_goto E (tgt := 41) (by decide) dX4_splice_76 ?_
        refine j_sub [3, 4, 5, 6, 7, 8, 1, 0] (lv' := [(0, .ref (ad 9)), (1, .int v1), (2, .int v2), (3, .long v3), (5, .int v5), (6, .int v6), (7, .int x11), (8, .int x12)]) rfl ?_
        exact ih _ _ _ _ _ _ _ _ h
set_option maxHeartbeats 4000000 in
set_option maxRecDepth 100000 in
theorem c_X4_splice {l : Launch} {D : va_G} {ad : Nat → Nat} {cI cZ : ClassId} {st : jS} {a1 : Int32} {a2 : Int32} {a3 : Int64} {o : jS} (h : f_X4_splice st a1 a2 a3 = some o) : CtV l D (jT cI cZ) (wX ad cI cZ) yX4_splice wsX4_splice (rm_X4_splice) [.ref (ad 9), .int a1, .int a2, .long a3] st o := by
  refine ctV_of (o := o) (cc := cX4_splice) (nL := 10) (own := RX4) (by decide) rfl rfl (Nat.le_of_ble_eq_true rfl) (lv0 := [(0, .ref (ad 9)), (1, .int a1), (2, .int a2), (3, .long a3)]) rfl ?_
  intro p e s m args below meth c A E hr
  rw [f_X4_splice] at h
  refine j_lload_n E 3 rfl rfl dX4_splice_0 ?_
  obtain ⟨r1, er1, h⟩ := jbd h
  refine j_callSNi E (As := [.long a3]) (c_X5_countBytes er1) ⟨va_cnB 1 E.1.2.2.2.2 gX4_splice_X5_countBytes_n23 rfl rfl rfl (E.2.2.2.1.2 _ (List.mem_of_getElem? (i := 7) rfl)) (E.1.2.2.2.2 _ (List.mem_of_getElem? (i := 8) rfl)) (by decide +kernel) ⟨Nat.le_of_ble_eq_true rfl, Nat.le_of_ble_eq_true rfl⟩, E.1.2.2.2.2 _ (List.mem_of_getElem? (i := 7) rfl), trivial⟩ rfl rfl (Nat.le_of_ble_eq_true rfl) ⟨Nat.zero_le _, Nat.zero_le _⟩ dX4_splice_1 ?_
  refine j_istore E (by decide) (lv' := [(5, .int r1), (0, .ref (ad 9)), (1, .int a1), (2, .int a2), (3, .long a3)]) rfl dX4_splice_4 ?_
  refine j_iload_n E 2 rfl rfl dX4_splice_6 ?_
  refine j_iload_n E 3 rfl rfl dX4_splice_7 ?_
  refine j_iadd E dX4_splice_8 ?_
  obtain ⟨x2, ex2, h⟩ := jle h
  refine j_topi ex2 ?_
  refine j_istore E (by decide) (lv' := [(6, .int x2), (5, .int r1), (0, .ref (ad 9)), (1, .int a1), (2, .int a2), (3, .long a3)]) rfl dX4_splice_9 ?_
  refine j_aload_n E 2 rfl rfl dX4_splice_11 ?_
  refine j_get E 9 (wX_g9 ad cI cZ _) rfl 0 rfl in_X4_splice_X4 (by decide) (List.mem_of_getElem? (i := 1) rfl) (fun _ h9 => h9) dX4_splice_12 ?_
  refine j_iload E 0 rfl dX4_splice_15 ?_
  refine j_aload_n E 2 rfl rfl dX4_splice_17 ?_
  refine j_get E 9 (wX_g9 ad cI cZ _) rfl 0 rfl in_X4_splice_X4 (by decide) (List.mem_of_getElem? (i := 1) rfl) (fun _ h9 => h9) dX4_splice_18 ?_
  refine j_iload_n E 3 rfl rfl dX4_splice_21 ?_
  refine j_iload E 1 rfl dX4_splice_22 ?_
  refine j_iadd E dX4_splice_24 ?_
  refine j_aload_n E 2 rfl rfl dX4_splice_25 ?_
  refine j_get E 9 (wX_g9 ad cI cZ _) rfl 1 rfl in_X4_splice_X4 (by decide) (List.mem_of_getElem? (i := 2) rfl) (fun _ h9 => h9) dX4_splice_26 ?_
  refine j_iload E 0 rfl dX4_splice_29 ?_
  refine j_isub E dX4_splice_31 ?_
  obtain ⟨b3, h⟩ := jcb_else h
  obtain ⟨s4, es4, h⟩ := jle h
  refine j_copyi E 10 0 (wX_g10 ad cI cZ _) rfl (wX_s10 ad cI cZ _ _) b3 (List.mem_of_getElem? (i := 3) rfl) (List.mem_of_getElem? (i := 4) rfl) (List.mem_of_getElem? (i := 5) rfl) (List.mem_of_getElem? (i := 6) rfl) (Nat.le_of_ble_eq_true rfl) (Nat.le_of_ble_eq_true rfl) dX4_splice_32 ?_
  refine j_st es4 ?_
  refine j_iload_n E 3 rfl rfl dX4_splice_35 ?_
  refine j_istore E (by decide) (lv' := [(7, .int a1), (6, .int x2), (5, .int r1), (0, .ref (ad 9)), (1, .int a1), (2, .int a2), (3, .long a3)]) rfl dX4_splice_36 ?_
  refine j_iconst E (kc_0) dX4_splice_38 ?_
  refine j_istore E (by decide) (lv' := [(8, .int 0), (7, .int a1), (6, .int x2), (5, .int r1), (0, .ref (ad 9)), (1, .int a1), (2, .int a2), (3, .long a3)]) rfl dX4_splice_39 ?_
  refine j_sub [4, 5, 6, 7, 3, 2, 1, 0] (lv' := [(0, .ref (ad 9)), (1, .int a1), (2, .int a2), (3, .long a3), (5, .int r1), (6, .int x2), (7, .int a1), (8, .int 0)]) rfl ?_
  refine w_X4_splice_41 E hr (fun s20 y13 y14 y15 y16 y17 y18 y19 h => ?_) _ _ _ _ _ _ _ _ _ h
  refine j_aload_n E 0 rfl rfl dX4_splice_79 ?_
  refine j_dup E rfl dX4_splice_80 ?_
  refine j_get E 9 (wX_g9 ad cI cZ _) rfl 1 rfl in_X4_splice_X4 (by decide) (List.mem_of_getElem? (i := 2) rfl) (fun _ h9 => h9) dX4_splice_81 ?_
  refine j_iload E 4 rfl dX4_splice_84 ?_
  refine j_iload_n E 2 rfl rfl dX4_splice_86 ?_
  refine j_isub E dX4_splice_87 ?_
  refine j_iadd E dX4_splice_88 ?_
  obtain ⟨s21, es21, h⟩ := jle h
  refine j_put E 9 (wX_g9 ad cI cZ _) rfl 1 (ty := .int) (wX_p9_1 ad cI cZ _ _) tyX4_ok nmX4 in_X4_splice_X4 (by decide) (List.mem_of_getElem? (i := 2) rfl) (fun _ h9 => h9) rfl (tyX4_ok 1 (by decide)) rfl rfl (Nat.le_of_ble_eq_true rfl) dX4_splice_89 ?_
  refine j_st es21 ?_
  exact j_vret E hr (Option.some.inj h) dX4_splice_92
abbrev rm_X4_hasByte : Room := { frames := 0, cells := 0, slots := 0, locals := 0 }
theorem in_X4_hasByte_X4 : ∀ w ∈ u_ws RX4 TX4 2, w ∈ wsX4_hasByte := fun w h => (List.mem_cons_of_mem _ (List.mem_append_right _ h))
def f_X4_hasByte (st : jS) (a1 : Int32) : Option (Int32 × jS) :=
  if a1 < 0 then
    some (0, st)
  else
  if a1 ≥ (st.2 1) then
    some (0, st)
  else
  some (1, st)
set_option maxHeartbeats 4000000 in
set_option maxRecDepth 100000 in
theorem c_X4_hasByte {l : Launch} {D : va_G} {ad : Nat → Nat} {cI cZ : ClassId} {st : jS} {a1 : Int32} {o : (Int32 × jS)} (h : f_X4_hasByte st a1 = some o) : CtI l D (jT cI cZ) (wX ad cI cZ) yX4_hasByte wsX4_hasByte (rm_X4_hasByte) [.ref (ad 9), .int a1] st o.1 o.2 := by
  refine ctI_of (o := o) (cc := cX4_hasByte) (nL := 2) (own := RX4) (by decide) rfl rfl (Nat.le_of_ble_eq_true rfl) (lv0 := [(0, .ref (ad 9)), (1, .int a1)]) rfl ?_
  intro p e s m args below meth c A E hr
  rw [f_X4_hasByte] at h
  refine j_iload_n E 1 rfl rfl dX4_hasByte_0 ?_
  refine j_if_lt E (tgt := 16) (by decide) dX4_hasByte_1 (fun c1 => ?_) (fun c1 => ?_)
  · have h := jit h c1
    refine j_iconst E (kc_0) dX4_hasByte_16 ?_
    exact j_iret E hr rfl (Option.some.inj h) dX4_hasByte_17
  · have h := jif h c1
    refine j_iload_n E 1 rfl rfl dX4_hasByte_4 ?_
    refine j_aload_n E 0 rfl rfl dX4_hasByte_5 ?_
    refine j_get E 9 (wX_g9 ad cI cZ _) rfl 1 rfl in_X4_hasByte_X4 (by decide) (List.mem_of_getElem? (i := 1) rfl) (fun _ h9 => h9) dX4_hasByte_6 ?_
    refine j_icmp_ge E (tgt := 16) (by decide) dX4_hasByte_9 (fun c2 => ?_) (fun c2 => ?_)
    · have h := jit h c2
      refine j_iconst E (kc_0) dX4_hasByte_16 ?_
      exact j_iret E hr rfl (Option.some.inj h) dX4_hasByte_17
    · have h := jif h c2
      refine j_iconst E (kc_1) dX4_hasByte_12 ?_
      refine j_goto E (tgt := 17) (by decide) dX4_hasByte_13 ?_
      exact j_iret E hr rfl (Option.some.inj h) dX4_hasByte_17
abbrev rm_X4_byteOrNone : Room := { frames := 1, cells := 0, slots := 0, locals := 21 }
theorem in_X4_byteOrNone_X4 : ∀ w ∈ u_ws RX4 TX4 2, w ∈ wsX4_byteOrNone := fun w h => (List.mem_cons_of_mem _ (List.mem_append_right _ h))
def f_X4_byteOrNone (st : jS) (a1 : Int32) : Option (Int32 × jS) :=
  (f_X4_hasByte st a1).bind fun r1 =>
  if r1.1 = 0 then
    some ((-1), r1.2)
  else
  bif job a1 40 then none else
  some ((jag r1.2 10 a1), r1.2)
set_option maxHeartbeats 4000000 in
set_option maxRecDepth 100000 in
theorem c_X4_byteOrNone {l : Launch} {D : va_G} {ad : Nat → Nat} {cI cZ : ClassId} {st : jS} {a1 : Int32} {o : (Int32 × jS)} (h : f_X4_byteOrNone st a1 = some o) : CtI l D (jT cI cZ) (wX ad cI cZ) yX4_byteOrNone wsX4_byteOrNone (rm_X4_byteOrNone) [.ref (ad 9), .int a1] st o.1 o.2 := by
  refine ctI_of (o := o) (cc := cX4_byteOrNone) (nL := 2) (own := RX4) (by decide) rfl rfl (Nat.le_of_ble_eq_true rfl) (lv0 := [(0, .ref (ad 9)), (1, .int a1)]) rfl ?_
  intro p e s m args below meth c A E hr
  rw [f_X4_byteOrNone] at h
  refine j_aload_n E 0 rfl rfl dX4_byteOrNone_0 ?_
  refine j_iload_n E 1 rfl rfl dX4_byteOrNone_1 ?_
  obtain ⟨r1, er1, h⟩ := jbd h
  refine j_callVi E (As := [.int a1]) (c_X4_hasByte er1) (cwV 1 E.1.2.2.2.2 gX4_byteOrNone_X4_hasByte rfl rfl rfl (by decide +kernel) ⟨Nat.le_of_ble_eq_true rfl, Nat.le_of_ble_eq_true rfl⟩) (wX_g9 ad cI cZ _) rfl rfl rfl (Nat.le_of_ble_eq_true rfl) ⟨Nat.zero_le _, Nat.zero_le _⟩ dX4_byteOrNone_2 ?_
  refine j_if_eq E (tgt := 17) (by decide) dX4_byteOrNone_5 (fun c2 => ?_) (fun c2 => ?_)
  · have h := jit h c2
    refine j_iconst E (kc_m1) dX4_byteOrNone_17 ?_
    exact j_iret E hr rfl (Option.some.inj h) dX4_byteOrNone_18
  · have h := jif h c2
    refine j_aload_n E 0 rfl rfl dX4_byteOrNone_8 ?_
    refine j_get E 9 (wX_g9 ad cI cZ _) rfl 0 rfl in_X4_byteOrNone_X4 (by decide) (List.mem_of_getElem? (i := 1) rfl) (fun _ h9 => h9) dX4_byteOrNone_9 ?_
    refine j_iload_n E 1 rfl rfl dX4_byteOrNone_12 ?_
    obtain ⟨b3, h⟩ := job_else h
    refine j_iald E 10 0 (wX_g10 ad cI cZ _) rfl b3 dX4_byteOrNone_13 ?_
    refine j_goto E (tgt := 18) (by decide) dX4_byteOrNone_14 ?_
    exact j_iret E hr rfl (Option.some.inj h) dX4_byteOrNone_18
abbrev rm_X4_addToDigest : Room := { frames := 1, cells := 0, slots := 0, locals := 22 }
theorem in_X4_addToDigest_X4 : ∀ w ∈ u_ws RX4 TX4 2, w ∈ wsX4_addToDigest := fun w h => (List.mem_cons_of_mem _ (List.mem_append_right _ h))
def f_X4_addToDigest_12 (K : jS → Int64 → Int64 → Int32 → Option (Int64 × jS)) : Nat → jS → Int64 → Int64 → Int32 → Option (Int64 × jS)
  | 0, _, _, _, _ => none
  | n + 1, st, v1, v3, v5 =>
    if v5 ≥ (st.2 1) then
      K st v1 v3 v5
    else
    bif job v5 40 then none else
    (f_X5_mix v3 (jag st 10 v5)).bind fun r4 =>
    jl (v5 + 1) fun x5 =>
    f_X4_addToDigest_12 K n st v1 r4 x5
def f_X4_addToDigest (st : jS) (a1 : Int64) : Option (Int64 × jS) :=
  (f_X5_mix a1 (st.2 1)).bind fun r1 =>
  f_X4_addToDigest_12 (fun s9 y6 y7 y8 =>
    some (y7, s9)
    ) jFuel st a1 r1 0
set_option maxHeartbeats 4000000 in
set_option maxRecDepth 100000 in
theorem w_X4_addToDigest_12 {ad : Nat → Nat} {cI cZ : ClassId} {p : Program} {l : Launch} {e : Env} {s : State} {m : MethodId} {args : Array Value} {below : List Frame} {meth : Method} {c : Code} {D : va_G} {A : Nat → Prop} {o : (Int64 × jS)} (E : jE p s m args meth c cX4_addToDigest 6 RX4 wsX4_addToDigest D (jT cI cZ) A) (hr : meth.sig.returnType = (some .long)) {K : jS → Int64 → Int64 → Int32 → Option (Int64 × jS)} (hK : ∀ (st : jS) (v1 : Int64) (v3 : Int64) (v5 : Int32), K st v1 v3 v5 = some o → J p l e (rm_X4_addToDigest) s m args below meth c 6 D A (wX ad cI cZ) (jZL D (wX ad cI cZ) A below args s o) 0 0 st 39 [(0, .ref (ad 9)), (1, .long v1), (3, .long v3), (5, .int v5)] []) :
    ∀ (n : Nat) (st : jS) (v1 : Int64) (v3 : Int64) (v5 : Int32), f_X4_addToDigest_12 K n st v1 v3 v5 = some o → J p l e (rm_X4_addToDigest) s m args below meth c 6 D A (wX ad cI cZ) (jZL D (wX ad cI cZ) A below args s o) 0 0 st 12 [(0, .ref (ad 9)), (1, .long v1), (3, .long v3), (5, .int v5)] [] := by
  intro n
  induction n with
  | zero => intro st v1 v3 v5 h; cases h
  | succ n ih =>
    intro st v1 v3 v5 h
    rw [f_X4_addToDigest_12] at h
    refine j_iload E 3 rfl dX4_addToDigest_12 ?_
    refine j_aload_n E 0 rfl rfl dX4_addToDigest_14 ?_
    refine j_get E 9 (wX_g9 ad cI cZ _) rfl 1 rfl in_X4_addToDigest_X4 (by decide) (List.mem_of_getElem? (i := 1) rfl) (fun _ h9 => h9) dX4_addToDigest_15 ?_
    refine j_icmp_ge E (tgt := 39) (by decide) dX4_addToDigest_18 (fun c2 => ?_) (fun c2 => ?_)
    · have h := jit h c2
      refine j_sub [0, 1, 2, 3] (lv' := [(0, .ref (ad 9)), (1, .long v1), (3, .long v3), (5, .int v5)]) rfl ?_
      exact hK _ _ _ _ h
    · have h := jif h c2
      refine j_lload_n E 2 rfl rfl dX4_addToDigest_21 ?_
      refine j_aload_n E 0 rfl rfl dX4_addToDigest_22 ?_
      refine j_get E 9 (wX_g9 ad cI cZ _) rfl 0 rfl in_X4_addToDigest_X4 (by decide) (List.mem_of_getElem? (i := 2) rfl) (fun _ h9 => h9) dX4_addToDigest_23 ?_
      refine j_iload E 3 rfl dX4_addToDigest_26 ?_
      obtain ⟨b3, h⟩ := job_else h
      refine j_iald E 10 0 (wX_g10 ad cI cZ _) rfl b3 dX4_addToDigest_28 ?_
      obtain ⟨r4, er4, h⟩ := jbd h
      refine j_callSNl E (As := [.long v3, .int (jag st 10 v5)]) (c_X5_mix er4) ⟨va_cnB 2 E.1.2.2.2.2 gX4_addToDigest_X5_mix_n37 rfl rfl rfl (E.2.2.2.1.2 _ (List.mem_of_getElem? (i := 9) rfl)) (E.1.2.2.2.2 _ (List.mem_of_getElem? (i := 4) rfl)) (by decide +kernel) ⟨Nat.le_of_ble_eq_true rfl, Nat.le_of_ble_eq_true rfl⟩, E.1.2.2.2.2 _ (List.mem_of_getElem? (i := 3) rfl), trivial⟩ rfl rfl (Nat.le_of_ble_eq_true rfl) ⟨Nat.zero_le _, Nat.zero_le _⟩ dX4_addToDigest_29 ?_
      refine j_lstore_n E rfl (by decide) (lv' := [(3, .long r4), (0, .ref (ad 9)), (1, .long v1), (5, .int v5)]) rfl dX4_addToDigest_32 ?_
      obtain ⟨x5, ex5, h⟩ := jle h
      refine j_iinc E 3 rfl kc_1 ex5 (by decide) (lv' := [(5, .int x5), (3, .long r4), (0, .ref (ad 9)), (1, .long v1)]) rfl dX4_addToDigest_33 ?_
      refine j_goto E (tgt := 12) (by decide) dX4_addToDigest_36 ?_
      refine j_sub [2, 3, 1, 0] (lv' := [(0, .ref (ad 9)), (1, .long v1), (3, .long r4), (5, .int x5)]) rfl ?_
      exact ih _ _ _ _ h
set_option maxHeartbeats 4000000 in
set_option maxRecDepth 100000 in
theorem c_X4_addToDigest {l : Launch} {D : va_G} {ad : Nat → Nat} {cI cZ : ClassId} {st : jS} {a1 : Int64} {o : (Int64 × jS)} (h : f_X4_addToDigest st a1 = some o) : CtL l D (jT cI cZ) (wX ad cI cZ) yX4_addToDigest wsX4_addToDigest (rm_X4_addToDigest) [.ref (ad 9), .long a1] st o.1 o.2 := by
  refine ctL_of (o := o) (cc := cX4_addToDigest) (nL := 6) (own := RX4) (by decide) rfl rfl (Nat.le_of_ble_eq_true rfl) (lv0 := [(0, .ref (ad 9)), (1, .long a1)]) rfl ?_
  intro p e s m args below meth c A E hr
  rw [f_X4_addToDigest] at h
  refine j_lload_n E 1 rfl rfl dX4_addToDigest_0 ?_
  refine j_aload_n E 0 rfl rfl dX4_addToDigest_1 ?_
  refine j_get E 9 (wX_g9 ad cI cZ _) rfl 1 rfl in_X4_addToDigest_X4 (by decide) (List.mem_of_getElem? (i := 1) rfl) (fun _ h9 => h9) dX4_addToDigest_2 ?_
  obtain ⟨r1, er1, h⟩ := jbd h
  refine j_callSNl E (As := [.long a1, .int (st.2 1)]) (c_X5_mix er1) ⟨va_cnB 2 E.1.2.2.2.2 gX4_addToDigest_X5_mix_n37 rfl rfl rfl (E.2.2.2.1.2 _ (List.mem_of_getElem? (i := 9) rfl)) (E.1.2.2.2.2 _ (List.mem_of_getElem? (i := 4) rfl)) (by decide +kernel) ⟨Nat.le_of_ble_eq_true rfl, Nat.le_of_ble_eq_true rfl⟩, E.1.2.2.2.2 _ (List.mem_of_getElem? (i := 3) rfl), trivial⟩ rfl rfl (Nat.le_of_ble_eq_true rfl) ⟨Nat.zero_le _, Nat.zero_le _⟩ dX4_addToDigest_5 ?_
  refine j_lstore_n E rfl (by decide) (lv' := [(3, .long r1), (0, .ref (ad 9)), (1, .long a1)]) rfl dX4_addToDigest_8 ?_
  refine j_iconst E (kc_0) dX4_addToDigest_9 ?_
  refine j_istore E (by decide) (lv' := [(5, .int 0), (3, .long r1), (0, .ref (ad 9)), (1, .long a1)]) rfl dX4_addToDigest_10 ?_
  refine j_sub [2, 3, 1, 0] (lv' := [(0, .ref (ad 9)), (1, .long a1), (3, .long r1), (5, .int 0)]) rfl ?_
  refine w_X4_addToDigest_12 E hr (fun s9 y6 y7 y8 h => ?_) _ _ _ _ _ h
  refine j_lload_n E 2 rfl rfl dX4_addToDigest_39 ?_
  exact j_lret E hr (Option.some.inj h) dX4_addToDigest_40
