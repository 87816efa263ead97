abbrev rm_X6_isRule : Room := { frames := 0, cells := 0, slots := 0, locals := 0 }
def f_X6_isRule (a1 : Int32) : Option Int32 :=
  if a1 < 0 then
    some 0
  else
  if a1 ≥ 10 then
    some 0
  else
  some 1
set_option maxHeartbeats 4000000 in
set_option maxRecDepth 100000 in
theorem c_X6_isRule {l : Launch} {D : va_G} {S : Type} {wf : S → va_W} {st : S} {tys : List (ClassId × FieldType)} {a1 : Int32} {o : Int32} (h : f_X6_isRule a1 = some o) : CtI l D tys wf yX6_isRule wsX6_isRule (rm_X6_isRule) [.int a1] st o st := by
  refine ctI_of (o := (o, st)) (cc := cX6_isRule) (nL := 1) (own := RX6) (by decide) rfl rfl (Nat.le_of_ble_eq_true rfl) (lv0 := [(0, .int a1)]) rfl ?_
  intro p e s m args below meth c A E hr
  rw [f_X6_isRule] at h
  refine j_iload_n E 0 rfl rfl dX6_isRule_0 ?_
  refine j_if_lt E (tgt := 14) (by decide) dX6_isRule_1 (fun c1 => ?_) (fun c1 => ?_)
  · have h := jit h c1
    refine j_iconst E (kc_0) dX6_isRule_14 ?_
    exact j_iret E hr rfl (congrArg (fun z => (z, st)) (Option.some.inj h)) dX6_isRule_15
  · have h := jif h c1
    refine j_iload_n E 0 rfl rfl dX6_isRule_4 ?_
    refine j_bipush E (kb_10) dX6_isRule_5 ?_
    refine j_icmp_ge E (tgt := 14) (by decide) dX6_isRule_7 (fun c2 => ?_) (fun c2 => ?_)
    · have h := jit h c2
      refine j_iconst E (kc_0) dX6_isRule_14 ?_
      exact j_iret E hr rfl (congrArg (fun z => (z, st)) (Option.some.inj h)) dX6_isRule_15
    · have h := jif h c2
      refine j_iconst E (kc_1) dX6_isRule_10 ?_
      refine j_goto E (tgt := 15) (by decide) dX6_isRule_11 ?_
      exact j_iret E hr rfl (congrArg (fun z => (z, st)) (Option.some.inj h)) dX6_isRule_15
abbrev rm_X6_isByte : Room := { frames := 0, cells := 0, slots := 0, locals := 0 }
def f_X6_isByte (a1 : Int32) : Option Int32 :=
  if a1 < 32 then
    some 0
  else
  if a1 > 126 then
    some 0
  else
  some 1
set_option maxHeartbeats 4000000 in
set_option maxRecDepth 100000 in
theorem c_X6_isByte {l : Launch} {D : va_G} {S : Type} {wf : S → va_W} {st : S} {tys : List (ClassId × FieldType)} {a1 : Int32} {o : Int32} (h : f_X6_isByte a1 = some o) : CtI l D tys wf yX6_isByte wsX6_isByte (rm_X6_isByte) [.int a1] st o st := by
  refine ctI_of (o := (o, st)) (cc := cX6_isByte) (nL := 1) (own := RX6) (by decide) rfl rfl (Nat.le_of_ble_eq_true rfl) (lv0 := [(0, .int a1)]) rfl ?_
  intro p e s m args below meth c A E hr
  rw [f_X6_isByte] at h
  refine j_iload_n E 0 rfl rfl dX6_isByte_0 ?_
  refine j_bipush E (kb_32) dX6_isByte_1 ?_
  refine j_icmp_lt E (tgt := 16) (by decide) dX6_isByte_3 (fun c1 => ?_) (fun c1 => ?_)
  · have h := jit h c1
    refine j_iconst E (kc_0) dX6_isByte_16 ?_
    exact j_iret E hr rfl (congrArg (fun z => (z, st)) (Option.some.inj h)) dX6_isByte_17
  · have h := jif h c1
    refine j_iload_n E 0 rfl rfl dX6_isByte_6 ?_
    refine j_bipush E (kb_126) dX6_isByte_7 ?_
    refine j_icmp_gt E (tgt := 16) (by decide) dX6_isByte_9 (fun c2 => ?_) (fun c2 => ?_)
    · have h := jit h c2
      refine j_iconst E (kc_0) dX6_isByte_16 ?_
      exact j_iret E hr rfl (congrArg (fun z => (z, st)) (Option.some.inj h)) dX6_isByte_17
    · have h := jif h c2
      refine j_iconst E (kc_1) dX6_isByte_12 ?_
      refine j_goto E (tgt := 17) (by decide) dX6_isByte_13 ?_
      exact j_iret E hr rfl (congrArg (fun z => (z, st)) (Option.some.inj h)) dX6_isByte_17
abbrev rm_X6_byteOf : Room := { frames := 0, cells := 0, slots := 0, locals := 0 }
def f_X6_byteOf (a1 : Int64) (a2 : Int32) : Option Int32 :=
  some ((((a1 >>> (((56 - (8 * a2))).toInt64 &&& 63)) &&& (255 : Int64))).toInt32)
set_option maxHeartbeats 4000000 in
set_option maxRecDepth 100000 in
theorem c_X6_byteOf {l : Launch} {D : va_G} {S : Type} {wf : S → va_W} {st : S} {tys : List (ClassId × FieldType)} {a1 : Int64} {a2 : Int32} {o : Int32} (h : f_X6_byteOf a1 a2 = some o) : CtI l D tys wf yX6_byteOf wsX6_byteOf (rm_X6_byteOf) [.long a1, .int a2] st o st := by
  refine ctI_of (o := (o, st)) (cc := cX6_byteOf) (nL := 3) (own := RX6) (by decide) rfl rfl (Nat.le_of_ble_eq_true rfl) (lv0 := [(0, .long a1), (2, .int a2)]) rfl ?_
  intro p e s m args below meth c A E hr
  rw [f_X6_byteOf] at h
  refine j_lload_n E 0 rfl rfl dX6_byteOf_0 ?_
  refine j_bipush E (kb_56) dX6_byteOf_1 ?_
  refine j_bipush E (kb_8) dX6_byteOf_3 ?_
  refine j_iload_n E 1 rfl rfl dX6_byteOf_5 ?_
  refine j_imul E dX6_byteOf_6 ?_
  refine j_isub E dX6_byteOf_7 ?_
  refine j_lshr E dX6_byteOf_8 ?_
  refine j_ldc2 E (List.mem_of_getElem? (i := 1) rfl) dX6_byteOf_9 ?_
  refine j_land E dX6_byteOf_12 ?_
  refine j_l2i E dX6_byteOf_13 ?_
  exact j_iret E hr rfl (congrArg (fun z => (z, st)) (Option.some.inj h)) dX6_byteOf_14
abbrev rm_X6_thrown : Room := { frames := 0, cells := 0, slots := 0, locals := 0 }
theorem in_X6_thrown_X6 : ∀ w ∈ u_ws RX6 TX6 29, w ∈ wsX6_thrown := fun w h => (List.mem_cons_of_mem _ (List.mem_append_right _ h))
def f_X6_thrown (st : jS)  : Option (Int32 × jS) :=
  some ((st.2 0), st)
set_option maxHeartbeats 4000000 in
set_option maxRecDepth 100000 in
theorem c_X6_thrown {l : Launch} {D : va_G} {ad : Nat → Nat} {cI cZ : ClassId} {st : jS}  {o : (Int32 × jS)} (h : f_X6_thrown st = some o) : CtI l D (jT cI cZ) (wM ad cI cZ) yX6_thrown wsX6_thrown (rm_X6_thrown) [.ref (ad 0)] st o.1 o.2 := by
  refine ctI_of (o := o) (cc := cX6_thrown) (nL := 1) (own := RX6) (by decide) rfl rfl (Nat.le_of_ble_eq_true rfl) (lv0 := [(0, .ref (ad 0))]) rfl ?_
  intro p e s m args below meth c A E hr
  rw [f_X6_thrown] at h
  refine j_aload_n E 0 rfl rfl dX6_thrown_0 ?_
  refine j_get E 0 (wM_g0 ad cI cZ _) rfl 0 rfl in_X6_thrown_X6 (by decide) (List.mem_of_getElem? (i := 1) rfl) (fun _ h9 => h9) dX6_thrown_1 ?_
  exact j_iret E hr rfl (Option.some.inj h) dX6_thrown_4
abbrev rm_X6_fail : Room := { frames := 0, cells := 0, slots := 0, locals := 0 }
theorem in_X6_fail_X6 : ∀ w ∈ u_ws RX6 TX6 29, w ∈ wsX6_fail := fun w h => (List.mem_cons_of_mem _ (List.mem_append_right _ h))
def f_X6_fail (st : jS) (a1 : Int32) : Option (Int32 × jS) :=
  jl (jis st 0 a1) fun s1 =>
  some (0, s1)
set_option maxHeartbeats 4000000 in
set_option maxRecDepth 100000 in
theorem c_X6_fail {l : Launch} {D : va_G} {ad : Nat → Nat} {cI cZ : ClassId} {st : jS} {a1 : Int32} {o : (Int32 × jS)} (h : f_X6_fail st a1 = some o) : CtI l D (jT cI cZ) (wM ad cI cZ) yX6_fail wsX6_fail (rm_X6_fail) [.ref (ad 0), .int a1] st o.1 o.2 := by
  refine ctI_of (o := o) (cc := cX6_fail) (nL := 2) (own := RX6) (by decide) rfl rfl (Nat.le_of_ble_eq_true rfl) (lv0 := [(0, .ref (ad 0)), (1, .int a1)]) rfl ?_
  intro p e s m args below meth c A E hr
  rw [f_X6_fail] at h
  refine j_aload_n E 0 rfl rfl dX6_fail_0 ?_
  refine j_iload_n E 1 rfl rfl dX6_fail_1 ?_
  obtain ⟨s1, es1, h⟩ := jle h
  refine j_put E 0 (wM_g0 ad cI cZ _) rfl 0 (ty := .int) (wM_p0_0 ad cI cZ _ _) tyX6_ok nmX6 in_X6_fail_X6 (by decide) (List.mem_of_getElem? (i := 1) rfl) (fun _ h9 => h9) rfl (tyX6_ok 0 (by decide)) rfl rfl (Nat.le_of_ble_eq_true rfl) dX6_fail_2 ?_
  refine j_st es1 ?_
  refine j_iconst E (kc_0) dX6_fail_5 ?_
  exact j_iret E hr rfl (Option.some.inj h) dX6_fail_6
abbrev rm_X6_isExpression : Room := { frames := 0, cells := 0, slots := 0, locals := 0 }
theorem in_X6_isExpression_X6 : ∀ w ∈ u_ws RX6 TX6 29, w ∈ wsX6_isExpression := fun w h => (List.mem_cons_of_mem _ (List.mem_append_right _ h))
def f_X6_isExpression (st : jS) (a1 : Int32) : Option (Int32 × jS) :=
  if a1 < 0 then
    some (0, st)
  else
  if a1 ≥ (st.2 1) then
    some (0, st)
  else
  some (1, st)
set_option maxHeartbeats 4000000 in
set_option maxRecDepth 100000 in
theorem c_X6_isExpression {l : Launch} {D : va_G} {ad : Nat → Nat} {cI cZ : ClassId} {st : jS} {a1 : Int32} {o : (Int32 × jS)} (h : f_X6_isExpression st a1 = some o) : CtI l D (jT cI cZ) (wM ad cI cZ) yX6_isExpression wsX6_isExpression (rm_X6_isExpression) [.ref (ad 0), .int a1] st o.1 o.2 := by
  refine ctI_of (o := o) (cc := cX6_isExpression) (nL := 2) (own := RX6) (by decide) rfl rfl (Nat.le_of_ble_eq_true rfl) (lv0 := [(0, .ref (ad 0)), (1, .int a1)]) rfl ?_
  intro p e s m args below meth c A E hr
  rw [f_X6_isExpression] at h
  refine j_iload_n E 1 rfl rfl dX6_isExpression_0 ?_
  refine j_if_lt E (tgt := 16) (by decide) dX6_isExpression_1 (fun c1 => ?_) (fun c1 => ?_)
  · have h := jit h c1
    refine j_iconst E (kc_0) dX6_isExpression_16 ?_
    exact j_iret E hr rfl (Option.some.inj h) dX6_isExpression_17
  · have h := jif h c1
    refine j_iload_n E 1 rfl rfl dX6_isExpression_4 ?_
    refine j_aload_n E 0 rfl rfl dX6_isExpression_5 ?_
    refine j_get E 0 (wM_g0 ad cI cZ _) rfl 1 rfl in_X6_isExpression_X6 (by decide) (List.mem_of_getElem? (i := 1) rfl) (fun _ h9 => h9) dX6_isExpression_6 ?_
    refine j_icmp_ge E (tgt := 16) (by decide) dX6_isExpression_9 (fun c2 => ?_) (fun c2 => ?_)
    · have h := jit h c2
      refine j_iconst E (kc_0) dX6_isExpression_16 ?_
      exact j_iret E hr rfl (Option.some.inj h) dX6_isExpression_17
    · have h := jif h c2
      refine j_iconst E (kc_1) dX6_isExpression_12 ?_
      refine j_goto E (tgt := 17) (by decide) dX6_isExpression_13 ?_
      exact j_iret E hr rfl (Option.some.inj h) dX6_isExpression_17
abbrev rm_X6_isPlace : Room := { frames := 0, cells := 0, slots := 0, locals := 0 }
theorem in_X6_isPlace_X6 : ∀ w ∈ u_ws RX6 TX6 29, w ∈ wsX6_isPlace := fun w h => (List.mem_cons_of_mem _ (List.mem_append_right _ h))
def f_X6_isPlace (st : jS) (a1 : Int32) : Option (Int32 × jS) :=
  if a1 < 0 then
    some (0, st)
  else
  if a1 > (st.2 2) then
    some (0, st)
  else
  some (1, st)
set_option maxHeartbeats 4000000 in
set_option maxRecDepth 100000 in
theorem c_X6_isPlace {l : Launch} {D : va_G} {ad : Nat → Nat} {cI cZ : ClassId} {st : jS} {a1 : Int32} {o : (Int32 × jS)} (h : f_X6_isPlace st a1 = some o) : CtI l D (jT cI cZ) (wM ad cI cZ) yX6_isPlace wsX6_isPlace (rm_X6_isPlace) [.ref (ad 0), .int a1] st o.1 o.2 := by
  refine ctI_of (o := o) (cc := cX6_isPlace) (nL := 2) (own := RX6) (by decide) rfl rfl (Nat.le_of_ble_eq_true rfl) (lv0 := [(0, .ref (ad 0)), (1, .int a1)]) rfl ?_
  intro p e s m args below meth c A E hr
  rw [f_X6_isPlace] at h
  refine j_iload_n E 1 rfl rfl dX6_isPlace_0 ?_
  refine j_if_lt E (tgt := 16) (by decide) dX6_isPlace_1 (fun c1 => ?_) (fun c1 => ?_)
  · have h := jit h c1
    refine j_iconst E (kc_0) dX6_isPlace_16 ?_
    exact j_iret E hr rfl (Option.some.inj h) dX6_isPlace_17
  · have h := jif h c1
    refine j_iload_n E 1 rfl rfl dX6_isPlace_4 ?_
    refine j_aload_n E 0 rfl rfl dX6_isPlace_5 ?_
    refine j_get E 0 (wM_g0 ad cI cZ _) rfl 6 rfl in_X6_isPlace_X6 (by decide) (List.mem_of_getElem? (i := 1) rfl) (fun _ h9 => h9) dX6_isPlace_6 ?_
    refine j_icmp_gt E (tgt := 16) (by decide) dX6_isPlace_9 (fun c2 => ?_) (fun c2 => ?_)
    · have h := jit h c2
      refine j_iconst E (kc_0) dX6_isPlace_16 ?_
      exact j_iret E hr rfl (Option.some.inj h) dX6_isPlace_17
    · have h := jif h c2
      refine j_iconst E (kc_1) dX6_isPlace_12 ?_
      refine j_goto E (tgt := 17) (by decide) dX6_isPlace_13 ?_
      exact j_iret E hr rfl (Option.some.inj h) dX6_isPlace_17
abbrev rm_X6_add : Room := { frames := 0, cells := 0, slots := 0, locals := 0 }
theorem in_X6_add_X6 : ∀ w ∈ u_ws RX6 TX6 29, w ∈ wsX6_add := fun w h => (List.mem_cons_of_mem _ (List.mem_append_right _ h))
def f_X6_add (st : jS) (a1 : Int32) (a2 : Int32) (a3 : Int32) : Option (Int32 × jS) :=
  bif job (st.2 1) 80 then none else
  jl (jas st 1 (st.2 1) a1) fun s2 =>
  bif job (s2.2 1) 80 then none else
  jl (jas s2 2 (s2.2 1) a2) fun s4 =>
  bif job (s4.2 1) 80 then none else
  jl (jas s4 3 (s4.2 1) a3) fun s6 =>
  jl (jis s6 1 ((s6.2 1) + 1)) fun s7 =>
  some (((s7.2 1) - 1), s7)
set_option maxHeartbeats 4000000 in
set_option maxRecDepth 100000 in
theorem c_X6_add {l : Launch} {D : va_G} {ad : Nat → Nat} {cI cZ : ClassId} {st : jS} {a1 : Int32} {a2 : Int32} {a3 : Int32} {o : (Int32 × jS)} (h : f_X6_add st a1 a2 a3 = some o) : CtI l D (jT cI cZ) (wM ad cI cZ) yX6_add wsX6_add (rm_X6_add) [.ref (ad 0), .int a1, .int a2, .int a3] st o.1 o.2 := by
  refine ctI_of (o := o) (cc := cX6_add) (nL := 4) (own := RX6) (by decide) rfl rfl (Nat.le_of_ble_eq_true rfl) (lv0 := [(0, .ref (ad 0)), (1, .int a1), (2, .int a2), (3, .int a3)]) rfl ?_
  intro p e s m args below meth c A E hr
  rw [f_X6_add] at h
  refine j_aload_n E 0 rfl rfl dX6_add_0 ?_
  refine j_get E 0 (wM_g0 ad cI cZ _) rfl 2 rfl in_X6_add_X6 (by decide) (List.mem_of_getElem? (i := 1) rfl) (fun _ h9 => h9) dX6_add_1 ?_
  refine j_aload_n E 0 rfl rfl dX6_add_4 ?_
  refine j_get E 0 (wM_g0 ad cI cZ _) rfl 1 rfl in_X6_add_X6 (by decide) (List.mem_of_getElem? (i := 2) rfl) (fun _ h9 => h9) dX6_add_5 ?_
  refine j_iload_n E 1 rfl rfl dX6_add_8 ?_
  obtain ⟨b1, h⟩ := job_else h
  obtain ⟨s2, es2, h⟩ := jle h
  refine j_iast E 1 0 (wM_g1 ad cI cZ _) rfl (wM_s1 ad cI cZ _ _) b1 dX6_add_9 ?_
  refine j_st es2 ?_
  refine j_aload_n E 0 rfl rfl dX6_add_10 ?_
  refine j_get E 0 (wM_g0 ad cI cZ _) rfl 3 rfl in_X6_add_X6 (by decide) (List.mem_of_getElem? (i := 3) rfl) (fun _ h9 => h9) dX6_add_11 ?_
  refine j_aload_n E 0 rfl rfl dX6_add_14 ?_
  refine j_get E 0 (wM_g0 ad cI cZ _) rfl 1 rfl in_X6_add_X6 (by decide) (List.mem_of_getElem? (i := 2) rfl) (fun _ h9 => h9) dX6_add_15 ?_
  refine j_iload_n E 2 rfl rfl dX6_add_18 ?_
  obtain ⟨b3, h⟩ := job_else h
  obtain ⟨s4, es4, h⟩ := jle h
  refine j_iast E 2 0 (wM_g2 ad cI cZ _) rfl (wM_s2 ad cI cZ _ _) b3 dX6_add_19 ?_
  refine j_st es4 ?_
  refine j_aload_n E 0 rfl rfl dX6_add_20 ?_
  refine j_get E 0 (wM_g0 ad cI cZ _) rfl 4 rfl in_X6_add_X6 (by decide) (List.mem_of_getElem? (i := 4) rfl) (fun _ h9 => h9) dX6_add_21 ?_
  refine j_aload_n E 0 rfl rfl dX6_add_24 ?_
  refine j_get E 0 (wM_g0 ad cI cZ _) rfl 1 rfl in_X6_add_X6 (by decide) (List.mem_of_getElem? (i := 2) rfl) (fun _ h9 => h9) dX6_add_25 ?_
  refine j_iload_n E 3 rfl rfl dX6_add_28 ?_
  obtain ⟨b5, h⟩ := job_else h
  obtain ⟨s6, es6, h⟩ := jle h
  refine j_iast E 3 0 (wM_g3 ad cI cZ _) rfl (wM_s3 ad cI cZ _ _) b5 dX6_add_29 ?_
  refine j_st es6 ?_
  refine j_aload_n E 0 rfl rfl dX6_add_30 ?_
  refine j_dup E rfl dX6_add_31 ?_
  refine j_get E 0 (wM_g0 ad cI cZ _) rfl 1 rfl in_X6_add_X6 (by decide) (List.mem_of_getElem? (i := 2) rfl) (fun _ h9 => h9) dX6_add_32 ?_
  refine j_iconst E (kc_1) dX6_add_35 ?_
  refine j_iadd E dX6_add_36 ?_
  obtain ⟨s7, es7, h⟩ := jle h
  refine j_put E 0 (wM_g0 ad cI cZ _) rfl 1 (ty := .int) (wM_p0_1 ad cI cZ _ _) tyX6_ok nmX6 in_X6_add_X6 (by decide) (List.mem_of_getElem? (i := 2) rfl) (fun _ h9 => h9) rfl (tyX6_ok 1 (by decide)) rfl rfl (Nat.le_of_ble_eq_true rfl) dX6_add_37 ?_
  refine j_st es7 ?_
  refine j_aload_n E 0 rfl rfl dX6_add_40 ?_
  refine j_get E 0 (wM_g0 ad cI cZ _) rfl 1 rfl in_X6_add_X6 (by decide) (List.mem_of_getElem? (i := 2) rfl) (fun _ h9 => h9) dX6_add_41 ?_
  refine j_iconst E (kc_1) dX6_add_44 ?_
  refine j_isub E dX6_add_45 ?_
  exact j_iret E hr rfl (Option.some.inj h) dX6_add_46
abbrev rm_X6_plain : Room := { frames := 1, cells := 0, slots := 0, locals := 23 }
theorem in_X6_plain_X6 : ∀ w ∈ u_ws RX6 TX6 29, w ∈ wsX6_plain := fun w h => (List.mem_cons_of_mem _ (List.mem_append_right _ h))
def f_X6_plain (st : jS) (a1 : Int32) : Option (Int32 × jS) :=
  jl (jis st 0 0) fun s1 =>
  if a1 = 0 then
    if (s1.2 1) = 80 then
      (f_X6_fail s1 2).bind fun r5 =>
      some (r5.1, r5.2)
    else
    (f_X6_add s1 a1 0 0).bind fun r4 =>
    some (r4.1, r4.2)
  else
  if a1 = 1 then
    if (s1.2 1) = 80 then
      (f_X6_fail s1 2).bind fun r9 =>
      some (r9.1, r9.2)
    else
    (f_X6_add s1 a1 0 0).bind fun r8 =>
    some (r8.1, r8.2)
  else
  (f_X6_fail s1 1).bind fun r10 =>
  some (r10.1, r10.2)
set_option maxHeartbeats 4000000 in
set_option maxRecDepth 100000 in
theorem c_X6_plain {l : Launch} {D : va_G} {ad : Nat → Nat} {cI cZ : ClassId} {st : jS} {a1 : Int32} {o : (Int32 × jS)} (h : f_X6_plain st a1 = some o) : CtI l D (jT cI cZ) (wM ad cI cZ) yX6_plain wsX6_plain (rm_X6_plain) [.ref (ad 0), .int a1] st o.1 o.2 := by
  refine ctI_of (o := o) (cc := cX6_plain) (nL := 2) (own := RX6) (by decide) rfl rfl (Nat.le_of_ble_eq_true rfl) (lv0 := [(0, .ref (ad 0)), (1, .int a1)]) rfl ?_
  intro p e s m args below meth c A E hr
  rw [f_X6_plain] at h
  refine j_aload_n E 0 rfl rfl dX6_plain_0 ?_
  refine j_iconst E (kc_0) dX6_plain_1 ?_
  obtain ⟨s1, es1, h⟩ := jle h
  refine j_put E 0 (wM_g0 ad cI cZ _) rfl 0 (ty := .int) (wM_p0_0 ad cI cZ _ _) tyX6_ok nmX6 in_X6_plain_X6 (by decide) (List.mem_of_getElem? (i := 1) rfl) (fun _ h9 => h9) rfl (tyX6_ok 0 (by decide)) rfl rfl (Nat.le_of_ble_eq_true rfl) dX6_plain_2 ?_
  refine j_st es1 ?_
  refine j_iload_n E 1 rfl rfl dX6_plain_5 ?_
  refine j_if_eq E (tgt := 20) (by decide) dX6_plain_6 (fun c2 => ?_) (fun c2 => ?_)
  · have h := jit h c2
    refine j_aload_n E 0 rfl rfl dX6_plain_20 ?_
    refine j_get E 0 (wM_g0 ad cI cZ _) rfl 1 rfl in_X6_plain_X6 (by decide) (List.mem_of_getElem? (i := 2) rfl) (fun _ h9 => h9) dX6_plain_21 ?_
    refine j_bipush E (kb_80) dX6_plain_24 ?_
    refine j_icmp_ne E (tgt := 37) (by decide) dX6_plain_26 (fun c3 => ?_) (fun c3 => ?_)
    · have h := jif h c3
      refine j_aload_n E 0 rfl rfl dX6_plain_37 ?_
      refine j_iload_n E 1 rfl rfl dX6_plain_38 ?_
      refine j_iconst E (kc_0) dX6_plain_39 ?_
      refine j_iconst E (kc_0) dX6_plain_40 ?_
      obtain ⟨r4, er4, h⟩ := jbd h
      refine j_callVi E (As := [.int a1, .int 0, .int 0]) (c_X6_add er4) (cwV 3 E.1.2.2.2.2 gX6_plain_X6_add rfl rfl rfl (by decide +kernel) ⟨Nat.le_of_ble_eq_true rfl, Nat.le_of_ble_eq_true rfl⟩) (wM_g0 ad cI cZ _) rfl rfl rfl (Nat.le_of_ble_eq_true rfl) ⟨Nat.zero_le _, Nat.zero_le _⟩ dX6_plain_41 ?_
      exact j_iret E hr rfl (Option.some.inj h) dX6_plain_44
    · have h := jit h c3
      refine j_aload_n E 0 rfl rfl dX6_plain_29 ?_
      refine j_iconst E (kc_2) dX6_plain_30 ?_
      obtain ⟨r5, er5, h⟩ := jbd h
      refine j_callVi E (As := [.int 2]) (c_X6_fail er5) (cwV 1 E.1.2.2.2.2 gX6_plain_X6_fail rfl rfl rfl (by decide +kernel) ⟨Nat.le_of_ble_eq_true rfl, Nat.le_of_ble_eq_true rfl⟩) (wM_g0 ad cI cZ _) rfl rfl rfl (Nat.le_of_ble_eq_true rfl) ⟨Nat.zero_le _, Nat.zero_le _⟩ dX6_plain_31 ?_
      refine j_goto E (tgt := 44) (by decide) dX6_plain_34 ?_
      exact j_iret E hr rfl (Option.some.inj h) dX6_plain_44
  · have h := jif h c2
    refine j_iload_n E 1 rfl rfl dX6_plain_9 ?_
    refine j_iconst E (kc_1) dX6_plain_10 ?_
    refine j_icmp_eq E (tgt := 20) (by decide) dX6_plain_11 (fun c6 => ?_) (fun c6 => ?_)
    · have h := jit h c6
      refine j_aload_n E 0 rfl rfl dX6_plain_20 ?_
      refine j_get E 0 (wM_g0 ad cI cZ _) rfl 1 rfl in_X6_plain_X6 (by decide) (List.mem_of_getElem? (i := 2) rfl) (fun _ h9 => h9) dX6_plain_21 ?_
      refine j_bipush E (kb_80) dX6_plain_24 ?_
      refine j_icmp_ne E (tgt := 37) (by decide) dX6_plain_26 (fun c7 => ?_) (fun c7 => ?_)
      · have h := jif h c7
        refine j_aload_n E 0 rfl rfl dX6_plain_37 ?_
        refine j_iload_n E 1 rfl rfl dX6_plain_38 ?_
        refine j_iconst E (kc_0) dX6_plain_39 ?_
        refine j_iconst E (kc_0) dX6_plain_40 ?_
        obtain ⟨r8, er8, h⟩ := jbd h
        refine j_callVi E (As := [.int a1, .int 0, .int 0]) (c_X6_add er8) (cwV 3 E.1.2.2.2.2 gX6_plain_X6_add rfl rfl rfl (by decide +kernel) ⟨Nat.le_of_ble_eq_true rfl, Nat.le_of_ble_eq_true rfl⟩) (wM_g0 ad cI cZ _) rfl rfl rfl (Nat.le_of_ble_eq_true rfl) ⟨Nat.zero_le _, Nat.zero_le _⟩ dX6_plain_41 ?_
        exact j_iret E hr rfl (Option.some.inj h) dX6_plain_44
      · have h := jit h c7
        refine j_aload_n E 0 rfl rfl dX6_plain_29 ?_
        refine j_iconst E (kc_2) dX6_plain_30 ?_
        obtain ⟨r9, er9, h⟩ := jbd h
        refine j_callVi E (As := [.int 2]) (c_X6_fail er9) (cwV 1 E.1.2.2.2.2 gX6_plain_X6_fail rfl rfl rfl (by decide +kernel) ⟨Nat.le_of_ble_eq_true rfl, Nat.le_of_ble_eq_true rfl⟩) (wM_g0 ad cI cZ _) rfl rfl rfl (Nat.le_of_ble_eq_true rfl) ⟨Nat.zero_le _, Nat.zero_le _⟩ dX6_plain_31 ?_
        refine j_goto E (tgt := 44) (by decide) dX6_plain_34 ?_
        exact j_iret E hr rfl (Option.some.inj h) dX6_plain_44
    · have h := jif h c6
      refine j_aload_n E 0 rfl rfl dX6_plain_14 ?_
      refine j_iconst E (kc_1) dX6_plain_15 ?_
      obtain ⟨r10, er10, h⟩ := jbd h
      refine j_callVi E (As := [.int 1]) (c_X6_fail er10) (cwV 1 E.1.2.2.2.2 gX6_plain_X6_fail rfl rfl rfl (by decide +kernel) ⟨Nat.le_of_ble_eq_true rfl, Nat.le_of_ble_eq_true rfl⟩) (wM_g0 ad cI cZ _) rfl rfl rfl (Nat.le_of_ble_eq_true rfl) ⟨Nat.zero_le _, Nat.zero_le _⟩ dX6_plain_16 ?_
      exact j_iret E hr rfl (Option.some.inj h) dX6_plain_19
abbrev rm_X6_range : Room := { frames := 1, cells := 0, slots := 0, locals := 23 }
theorem in_X6_range_X6 : ∀ w ∈ u_ws RX6 TX6 29, w ∈ wsX6_range := fun w h => (List.mem_cons_of_mem _ (List.mem_append_right _ h))
def f_X6_range (st : jS) (a1 : Int32) (a2 : Int32) : Option (Int32 × jS) :=
  jl (jis st 0 0) fun s1 =>
  (f_X6_isByte a1).bind fun r2 =>
  if r2 = 0 then
    (f_X6_fail s1 1).bind fun r4 =>
    some (r4.1, r4.2)
  else
  (f_X6_isByte a2).bind fun r5 =>
  if r5 = 0 then
    (f_X6_fail s1 1).bind fun r7 =>
    some (r7.1, r7.2)
  else
  if a1 ≤ a2 then
    if (s1.2 1) = 80 then
      (f_X6_fail s1 2).bind fun r11 =>
      some (r11.1, r11.2)
    else
    (f_X6_add s1 2 a1 a2).bind fun r10 =>
    some (r10.1, r10.2)
  else
  (f_X6_fail s1 1).bind fun r12 =>
  some (r12.1, r12.2)
set_option maxHeartbeats 4000000 in
set_option maxRecDepth 100000 in
theorem c_X6_range {l : Launch} {D : va_G} {ad : Nat → Nat} {cI cZ : ClassId} {st : jS} {a1 : Int32} {a2 : Int32} {o : (Int32 × jS)} (h : f_X6_range st a1 a2 = some o) : CtI l D (jT cI cZ) (wM ad cI cZ) yX6_range wsX6_range (rm_X6_range) [.ref (ad 0), .int a1, .int a2] st o.1 o.2 := by
  refine ctI_of (o := o) (cc := cX6_range) (nL := 3) (own := RX6) (by decide) rfl rfl (Nat.le_of_ble_eq_true rfl) (lv0 := [(0, .ref (ad 0)), (1, .int a1), (2, .int a2)]) rfl ?_
  intro p e s m args below meth c A E hr
  rw [f_X6_range] at h
  refine j_aload_n E 0 rfl rfl dX6_range_0 ?_
  refine j_iconst E (kc_0) dX6_range_1 ?_
  obtain ⟨s1, es1, h⟩ := jle h
  refine j_put E 0 (wM_g0 ad cI cZ _) rfl 0 (ty := .int) (wM_p0_0 ad cI cZ _ _) tyX6_ok nmX6 in_X6_range_X6 (by decide) (List.mem_of_getElem? (i := 1) rfl) (fun _ h9 => h9) rfl (tyX6_ok 0 (by decide)) rfl rfl (Nat.le_of_ble_eq_true rfl) dX6_range_2 ?_
  refine j_st es1 ?_
  refine j_iload_n E 1 rfl rfl dX6_range_5 ?_
  obtain ⟨r2, er2, h⟩ := jbd h
  refine j_callSi E (As := [.int a1]) (c_X6_isByte er2) (va_cwS 1 E.1.2.2.2.2 gX6_range_X6_isByte rfl rfl rfl (by decide +kernel) ⟨Nat.le_of_ble_eq_true rfl, Nat.le_of_ble_eq_true rfl⟩) rfl rfl (Nat.le_of_ble_eq_true rfl) ⟨Nat.zero_le _, Nat.zero_le _⟩ dX6_range_6 ?_
  refine j_if_eq E (tgt := 24) (by decide) dX6_range_9 (fun c3 => ?_) (fun c3 => ?_)
  · have h := jit h c3
    refine j_aload_n E 0 rfl rfl dX6_range_24 ?_
    refine j_iconst E (kc_1) dX6_range_25 ?_
    obtain ⟨r4, er4, h⟩ := jbd h
    refine j_callVi E (As := [.int 1]) (c_X6_fail er4) (cwV 1 E.1.2.2.2.2 gX6_range_X6_fail rfl rfl rfl (by decide +kernel) ⟨Nat.le_of_ble_eq_true rfl, Nat.le_of_ble_eq_true rfl⟩) (wM_g0 ad cI cZ _) rfl rfl rfl (Nat.le_of_ble_eq_true rfl) ⟨Nat.zero_le _, Nat.zero_le _⟩ dX6_range_26 ?_
    exact j_iret E hr rfl (Option.some.inj h) dX6_range_29
  · have h := jif h c3
    refine j_iload_n E 2 rfl rfl dX6_range_12 ?_
    obtain ⟨r5, er5, h⟩ := jbd h
    refine j_callSi E (As := [.int a2]) (c_X6_isByte er5) (va_cwS 1 E.1.2.2.2.2 gX6_range_X6_isByte rfl rfl rfl (by decide +kernel) ⟨Nat.le_of_ble_eq_true rfl, Nat.le_of_ble_eq_true rfl⟩) rfl rfl (Nat.le_of_ble_eq_true rfl) ⟨Nat.zero_le _, Nat.zero_le _⟩ dX6_range_13 ?_
    refine j_if_eq E (tgt := 24) (by decide) dX6_range_16 (fun c6 => ?_) (fun c6 => ?_)
    · have h := jit h c6
      refine j_aload_n E 0 rfl rfl dX6_range_24 ?_
      refine j_iconst E (kc_1) dX6_range_25 ?_
      obtain ⟨r7, er7, h⟩ := jbd h
      refine j_callVi E (As := [.int 1]) (c_X6_fail er7) (cwV 1 E.1.2.2.2.2 gX6_range_X6_fail rfl rfl rfl (by decide +kernel) ⟨Nat.le_of_ble_eq_true rfl, Nat.le_of_ble_eq_true rfl⟩) (wM_g0 ad cI cZ _) rfl rfl rfl (Nat.le_of_ble_eq_true rfl) ⟨Nat.zero_le _, Nat.zero_le _⟩ dX6_range_26 ?_
      exact j_iret E hr rfl (Option.some.inj h) dX6_range_29
    · have h := jif h c6
      refine j_iload_n E 1 rfl rfl dX6_range_19 ?_
      refine j_iload_n E 2 rfl rfl dX6_range_20 ?_
      refine j_icmp_le E (tgt := 30) (by decide) dX6_range_21 (fun c8 => ?_) (fun c8 => ?_)
      · have h := jit h c8
        refine j_aload_n E 0 rfl rfl dX6_range_30 ?_
        refine j_get E 0 (wM_g0 ad cI cZ _) rfl 1 rfl in_X6_range_X6 (by decide) (List.mem_of_getElem? (i := 2) rfl) (fun _ h9 => h9) dX6_range_31 ?_
        refine j_bipush E (kb_80) dX6_range_34 ?_
        refine j_icmp_ne E (tgt := 47) (by decide) dX6_range_36 (fun c9 => ?_) (fun c9 => ?_)
        · have h := jif h c9
          refine j_aload_n E 0 rfl rfl dX6_range_47 ?_
          refine j_iconst E (kc_2) dX6_range_48 ?_
          refine j_iload_n E 1 rfl rfl dX6_range_49 ?_
          refine j_iload_n E 2 rfl rfl dX6_range_50 ?_
          obtain ⟨r10, er10, h⟩ := jbd h
          refine j_callVi E (As := [.int 2, .int a1, .int a2]) (c_X6_add er10) (cwV 3 E.1.2.2.2.2 gX6_range_X6_add rfl rfl rfl (by decide +kernel) ⟨Nat.le_of_ble_eq_true rfl, Nat.le_of_ble_eq_true rfl⟩) (wM_g0 ad cI cZ _) rfl rfl rfl (Nat.le_of_ble_eq_true rfl) ⟨Nat.zero_le _, Nat.zero_le _⟩ dX6_range_51 ?_
          exact j_iret E hr rfl (Option.some.inj h) dX6_range_54
        · have h := jit h c9
          refine j_aload_n E 0 rfl rfl dX6_range_39 ?_
          refine j_iconst E (kc_2) dX6_range_40 ?_
          obtain ⟨r11, er11, h⟩ := jbd h
          refine j_callVi E (As := [.int 2]) (c_X6_fail er11) (cwV 1 E.1.2.2.2.2 gX6_range_X6_fail rfl rfl rfl (by decide +kernel) ⟨Nat.le_of_ble_eq_true rfl, Nat.le_of_ble_eq_true rfl⟩) (wM_g0 ad cI cZ _) rfl rfl rfl (Nat.le_of_ble_eq_true rfl) ⟨Nat.zero_le _, Nat.zero_le _⟩ dX6_range_41 ?_
          refine j_goto E (tgt := 54) (by decide) dX6_range_44 ?_
          exact j_iret E hr rfl (Option.some.inj h) dX6_range_54
      · have h := jif h c8
        refine j_aload_n E 0 rfl rfl dX6_range_24 ?_
        refine j_iconst E (kc_1) dX6_range_25 ?_
        obtain ⟨r12, er12, h⟩ := jbd h
        refine j_callVi E (As := [.int 1]) (c_X6_fail er12) (cwV 1 E.1.2.2.2.2 gX6_range_X6_fail rfl rfl rfl (by decide +kernel) ⟨Nat.le_of_ble_eq_true rfl, Nat.le_of_ble_eq_true rfl⟩) (wM_g0 ad cI cZ _) rfl rfl rfl (Nat.le_of_ble_eq_true rfl) ⟨Nat.zero_le _, Nat.zero_le _⟩ dX6_range_26 ?_
        exact j_iret E hr rfl (Option.some.inj h) dX6_range_29
abbrev rm_X6_rule : Room := { frames := 1, cells := 0, slots := 0, locals := 23 }
theorem in_X6_rule_X6 : ∀ w ∈ u_ws RX6 TX6 29, w ∈ wsX6_rule := fun w h => (List.mem_cons_of_mem _ (List.mem_append_right _ h))
def f_X6_rule (st : jS) (a1 : Int32) : Option (Int32 × jS) :=
  jl (jis st 0 0) fun s1 =>
  (f_X6_isRule a1).bind fun r2 =>
  if r2 = 0 then
    (f_X6_fail s1 1).bind fun r7 =>
    some (r7.1, r7.2)
  else
  if (s1.2 1) = 80 then
    (f_X6_fail s1 2).bind fun r6 =>
    some (r6.1, r6.2)
  else
  (f_X6_add s1 3 a1 0).bind fun r5 =>
  some (r5.1, r5.2)
set_option maxHeartbeats 4000000 in
set_option maxRecDepth 100000 in
theorem c_X6_rule {l : Launch} {D : va_G} {ad : Nat → Nat} {cI cZ : ClassId} {st : jS} {a1 : Int32} {o : (Int32 × jS)} (h : f_X6_rule st a1 = some o) : CtI l D (jT cI cZ) (wM ad cI cZ) yX6_rule wsX6_rule (rm_X6_rule) [.ref (ad 0), .int a1] st o.1 o.2 := by
  refine ctI_of (o := o) (cc := cX6_rule) (nL := 2) (own := RX6) (by decide) rfl rfl (Nat.le_of_ble_eq_true rfl) (lv0 := [(0, .ref (ad 0)), (1, .int a1)]) rfl ?_
  intro p e s m args below meth c A E hr
  rw [f_X6_rule] at h
  refine j_aload_n E 0 rfl rfl dX6_rule_0 ?_
  refine j_iconst E (kc_0) dX6_rule_1 ?_
  obtain ⟨s1, es1, h⟩ := jle h
  refine j_put E 0 (wM_g0 ad cI cZ _) rfl 0 (ty := .int) (wM_p0_0 ad cI cZ _ _) tyX6_ok nmX6 in_X6_rule_X6 (by decide) (List.mem_of_getElem? (i := 1) rfl) (fun _ h9 => h9) rfl (tyX6_ok 0 (by decide)) rfl rfl (Nat.le_of_ble_eq_true rfl) dX6_rule_2 ?_
  refine j_st es1 ?_
  refine j_iload_n E 1 rfl rfl dX6_rule_5 ?_
  obtain ⟨r2, er2, h⟩ := jbd h
  refine j_callSi E (As := [.int a1]) (c_X6_isRule er2) (va_cwS 1 E.1.2.2.2.2 gX6_rule_X6_isRule rfl rfl rfl (by decide +kernel) ⟨Nat.le_of_ble_eq_true rfl, Nat.le_of_ble_eq_true rfl⟩) rfl rfl (Nat.le_of_ble_eq_true rfl) ⟨Nat.zero_le _, Nat.zero_le _⟩ dX6_rule_6 ?_
  refine j_if_ne E (tgt := 18) (by decide) dX6_rule_9 (fun c3 => ?_) (fun c3 => ?_)
  · have h := jif h c3
    refine j_aload_n E 0 rfl rfl dX6_rule_18 ?_
    refine j_get E 0 (wM_g0 ad cI cZ _) rfl 1 rfl in_X6_rule_X6 (by decide) (List.mem_of_getElem? (i := 2) rfl) (fun _ h9 => h9) dX6_rule_19 ?_
    refine j_bipush E (kb_80) dX6_rule_22 ?_
    refine j_icmp_ne E (tgt := 35) (by decide) dX6_rule_24 (fun c4 => ?_) (fun c4 => ?_)
    · have h := jif h c4
      refine j_aload_n E 0 rfl rfl dX6_rule_35 ?_
      refine j_iconst E (kc_3) dX6_rule_36 ?_
      refine j_iload_n E 1 rfl rfl dX6_rule_37 ?_
      refine j_iconst E (kc_0) dX6_rule_38 ?_
      obtain ⟨r5, er5, h⟩ := jbd h
      refine j_callVi E (As := [.int 3, .int a1, .int 0]) (c_X6_add er5) (cwV 3 E.1.2.2.2.2 gX6_rule_X6_add rfl rfl rfl (by decide +kernel) ⟨Nat.le_of_ble_eq_true rfl, Nat.le_of_ble_eq_true rfl⟩) (wM_g0 ad cI cZ _) rfl rfl rfl (Nat.le_of_ble_eq_true rfl) ⟨Nat.zero_le _, Nat.zero_le _⟩ dX6_rule_39 ?_
      exact j_iret E hr rfl (Option.some.inj h) dX6_rule_42
    · have h := jit h c4
      refine j_aload_n E 0 rfl rfl dX6_rule_27 ?_
      refine j_iconst E (kc_2) dX6_rule_28 ?_
      obtain ⟨r6, er6, h⟩ := jbd h
      refine j_callVi E (As := [.int 2]) (c_X6_fail er6) (cwV 1 E.1.2.2.2.2 gX6_rule_X6_fail rfl rfl rfl (by decide +kernel) ⟨Nat.le_of_ble_eq_true rfl, Nat.le_of_ble_eq_true rfl⟩) (wM_g0 ad cI cZ _) rfl rfl rfl (Nat.le_of_ble_eq_true rfl) ⟨Nat.zero_le _, Nat.zero_le _⟩ dX6_rule_29 ?_
      refine j_goto E (tgt := 42) (by decide) dX6_rule_32 ?_
      exact j_iret E hr rfl (Option.some.inj h) dX6_rule_42
  · have h := jit h c3
    refine j_aload_n E 0 rfl rfl dX6_rule_12 ?_
    refine j_iconst E (kc_1) dX6_rule_13 ?_
    obtain ⟨r7, er7, h⟩ := jbd h
    refine j_callVi E (As := [.int 1]) (c_X6_fail er7) (cwV 1 E.1.2.2.2.2 gX6_rule_X6_fail rfl rfl rfl (by decide +kernel) ⟨Nat.le_of_ble_eq_true rfl, Nat.le_of_ble_eq_true rfl⟩) (wM_g0 ad cI cZ _) rfl rfl rfl (Nat.le_of_ble_eq_true rfl) ⟨Nat.zero_le _, Nat.zero_le _⟩ dX6_rule_14 ?_
    exact j_iret E hr rfl (Option.some.inj h) dX6_rule_17
abbrev rm_X6_join : Room := { frames := 1, cells := 0, slots := 0, locals := 23 }
theorem in_X6_join_X6 : ∀ w ∈ u_ws RX6 TX6 29, w ∈ wsX6_join := fun w h => (List.mem_cons_of_mem _ (List.mem_append_right _ h))
def f_X6_join (st : jS) (a1 : Int32) (a2 : Int32) (a3 : Int32) : Option (Int32 × jS) :=
  jl (jis st 0 0) fun s1 =>
  (f_X6_isExpression s1 a2).bind fun r2 =>
  if r2.1 = 0 then
    (f_X6_fail r2.2 1).bind fun r4 =>
    some (r4.1, r4.2)
  else
  (f_X6_isExpression r2.2 a3).bind fun r5 =>
  if r5.1 = 0 then
    (f_X6_fail r5.2 1).bind fun r16 =>
    some (r16.1, r16.2)
  else
  if a1 = 4 then
    if (r5.2.2 1) = 80 then
      (f_X6_fail r5.2 3).bind fun r10 =>
      some (r10.1, r10.2)
    else
    (f_X6_add r5.2 a1 a2 a3).bind fun r9 =>
    some (r9.1, r9.2)
  else
  if a1 = 5 then
    if (r5.2.2 1) = 80 then
      (f_X6_fail r5.2 3).bind fun r14 =>
      some (r14.1, r14.2)
    else
    (f_X6_add r5.2 a1 a2 a3).bind fun r13 =>
    some (r13.1, r13.2)
  else
  (f_X6_fail r5.2 2).bind fun r15 =>
  some (r15.1, r15.2)
set_option maxHeartbeats 4000000 in
set_option maxRecDepth 100000 in
theorem c_X6_join {l : Launch} {D : va_G} {ad : Nat → Nat} {cI cZ : ClassId} {st : jS} {a1 : Int32} {a2 : Int32} {a3 : Int32} {o : (Int32 × jS)} (h : f_X6_join st a1 a2 a3 = some o) : CtI l D (jT cI cZ) (wM ad cI cZ) yX6_join wsX6_join (rm_X6_join) [.ref (ad 0), .int a1, .int a2, .int a3] st o.1 o.2 := by
  refine ctI_of (o := o) (cc := cX6_join) (nL := 4) (own := RX6) (by decide) rfl rfl (Nat.le_of_ble_eq_true rfl) (lv0 := [(0, .ref (ad 0)), (1, .int a1), (2, .int a2), (3, .int a3)]) rfl ?_
  intro p e s m args below meth c A E hr
  rw [f_X6_join] at h
  refine j_aload_n E 0 rfl rfl dX6_join_0 ?_
  refine j_iconst E (kc_0) dX6_join_1 ?_
  obtain ⟨s1, es1, h⟩ := jle h
  refine j_put E 0 (wM_g0 ad cI cZ _) rfl 0 (ty := .int) (wM_p0_0 ad cI cZ _ _) tyX6_ok nmX6 in_X6_join_X6 (by decide) (List.mem_of_getElem? (i := 1) rfl) (fun _ h9 => h9) rfl (tyX6_ok 0 (by decide)) rfl rfl (Nat.le_of_ble_eq_true rfl) dX6_join_2 ?_
  refine j_st es1 ?_
  refine j_aload_n E 0 rfl rfl dX6_join_5 ?_
  refine j_iload_n E 2 rfl rfl dX6_join_6 ?_
  obtain ⟨r2, er2, h⟩ := jbd h
  refine j_callVi E (As := [.int a2]) (c_X6_isExpression er2) (cwV 1 E.1.2.2.2.2 gX6_join_X6_isExpression rfl rfl rfl (by decide +kernel) ⟨Nat.le_of_ble_eq_true rfl, Nat.le_of_ble_eq_true rfl⟩) (wM_g0 ad cI cZ _) rfl rfl rfl (Nat.le_of_ble_eq_true rfl) ⟨Nat.zero_le _, Nat.zero_le _⟩ dX6_join_7 ?_
  refine j_if_eq E (tgt := 21) (by decide) dX6_join_10 (fun c3 => ?_) (fun c3 => ?_)
  · have h := jit h c3
    refine j_aload_n E 0 rfl rfl dX6_join_21 ?_
    refine j_iconst E (kc_1) dX6_join_22 ?_
    obtain ⟨r4, er4, h⟩ := jbd h
    refine j_callVi E (As := [.int 1]) (c_X6_fail er4) (cwV 1 E.1.2.2.2.2 gX6_join_X6_fail rfl rfl rfl (by decide +kernel) ⟨Nat.le_of_ble_eq_true rfl, Nat.le_of_ble_eq_true rfl⟩) (wM_g0 ad cI cZ _) rfl rfl rfl (Nat.le_of_ble_eq_true rfl) ⟨Nat.zero_le _, Nat.zero_le _⟩ dX6_join_23 ?_
    exact j_iret E hr rfl (Option.some.inj h) dX6_join_26
  · have h := jif h c3
    refine j_aload_n E 0 rfl rfl dX6_join_13 ?_
    refine j_iload_n E 3 rfl rfl dX6_join_14 ?_
    obtain ⟨r5, er5, h⟩ := jbd h
    refine j_callVi E (As := [.int a3]) (c_X6_isExpression er5) (cwV 1 E.1.2.2.2.2 gX6_join_X6_isExpression rfl rfl rfl (by decide +kernel) ⟨Nat.le_of_ble_eq_true rfl, Nat.le_of_ble_eq_true rfl⟩) (wM_g0 ad cI cZ _) rfl rfl rfl (Nat.le_of_ble_eq_true rfl) ⟨Nat.zero_le _, Nat.zero_le _⟩ dX6_join_15 ?_
    refine j_if_ne E (tgt := 27) (by decide) dX6_join_18 (fun c6 => ?_) (fun c6 => ?_)
    · have h := jif h c6
      refine j_iload_n E 1 rfl rfl dX6_join_27 ?_
      refine j_iconst E (kc_4) dX6_join_28 ?_
      refine j_icmp_eq E (tgt := 43) (by decide) dX6_join_29 (fun c7 => ?_) (fun c7 => ?_)
      · have h := jit h c7
        refine j_aload_n E 0 rfl rfl dX6_join_43 ?_
        refine j_get E 0 (wM_g0 ad cI cZ _) rfl 1 rfl in_X6_join_X6 (by decide) (List.mem_of_getElem? (i := 2) rfl) (fun _ h9 => h9) dX6_join_44 ?_
        refine j_bipush E (kb_80) dX6_join_47 ?_
        refine j_icmp_ne E (tgt := 60) (by decide) dX6_join_49 (fun c8 => ?_) (fun c8 => ?_)
        · have h := jif h c8
          refine j_aload_n E 0 rfl rfl dX6_join_60 ?_
          refine j_iload_n E 1 rfl rfl dX6_join_61 ?_
          refine j_iload_n E 2 rfl rfl dX6_join_62 ?_
          refine j_iload_n E 3 rfl rfl dX6_join_63 ?_
          obtain ⟨r9, er9, h⟩ := jbd h
          refine j_callVi E (As := [.int a1, .int a2, .int a3]) (c_X6_add er9) (cwV 3 E.1.2.2.2.2 gX6_join_X6_add rfl rfl rfl (by decide +kernel) ⟨Nat.le_of_ble_eq_true rfl, Nat.le_of_ble_eq_true rfl⟩) (wM_g0 ad cI cZ _) rfl rfl rfl (Nat.le_of_ble_eq_true rfl) ⟨Nat.zero_le _, Nat.zero_le _⟩ dX6_join_64 ?_
          exact j_iret E hr rfl (Option.some.inj h) dX6_join_67
        · have h := jit h c8
          refine j_aload_n E 0 rfl rfl dX6_join_52 ?_
          refine j_iconst E (kc_3) dX6_join_53 ?_
          obtain ⟨r10, er10, h⟩ := jbd h
          refine j_callVi E (As := [.int 3]) (c_X6_fail er10) (cwV 1 E.1.2.2.2.2 gX6_join_X6_fail rfl rfl rfl (by decide +kernel) ⟨Nat.le_of_ble_eq_true rfl, Nat.le_of_ble_eq_true rfl⟩) (wM_g0 ad cI cZ _) rfl rfl rfl (Nat.le_of_ble_eq_true rfl) ⟨Nat.zero_le _, Nat.zero_le _⟩ dX6_join_54 ?_
          refine j_goto E (tgt := 67) (by decide) dX6_join_57 ?_
          exact j_iret E hr rfl (Option.some.inj h) dX6_join_67
      · have h := jif h c7
        refine j_iload_n E 1 rfl rfl dX6_join_32 ?_
        refine j_iconst E (kc_5) dX6_join_33 ?_
        refine j_icmp_eq E (tgt := 43) (by decide) dX6_join_34 (fun c11 => ?_) (fun c11 => ?_)
        · have h := jit h c11
          refine j_aload_n E 0 rfl rfl dX6_join_43 ?_
          refine j_get E 0 (wM_g0 ad cI cZ _) rfl 1 rfl in_X6_join_X6 (by decide) (List.mem_of_getElem? (i := 2) rfl) (fun _ h9 => h9) dX6_join_44 ?_
          refine j_bipush E (kb_80) dX6_join_47 ?_
          refine j_icmp_ne E (tgt := 60) (by decide) dX6_join_49 (fun c12 => ?_) (fun c12 => ?_)
          · have h := jif h c12
            refine j_aload_n E 0 rfl rfl dX6_join_60 ?_
            refine j_iload_n E 1 rfl rfl dX6_join_61 ?_
            refine j_iload_n E 2 rfl rfl dX6_join_62 ?_
            refine j_iload_n E 3 rfl rfl dX6_join_63 ?_
            obtain ⟨r13, er13, h⟩ := jbd h
            refine j_callVi E (As := [.int a1, .int a2, .int a3]) (c_X6_add er13) (cwV 3 E.1.2.2.2.2 gX6_join_X6_add rfl rfl rfl (by decide +kernel) ⟨Nat.le_of_ble_eq_true rfl, Nat.le_of_ble_eq_true rfl⟩) (wM_g0 ad cI cZ _) rfl rfl rfl (Nat.le_of_ble_eq_true rfl) ⟨Nat.zero_le _, Nat.zero_le _⟩ dX6_join_64 ?_
            exact j_iret E hr rfl (Option.some.inj h) dX6_join_67
          · have h := jit h c12
            refine j_aload_n E 0 rfl rfl dX6_join_52 ?_
            refine j_iconst E (kc_3) dX6_join_53 ?_
            obtain ⟨r14, er14, h⟩ := jbd h
            refine j_callVi E (As := [.int 3]) (c_X6_fail er14) (cwV 1 E.1.2.2.2.2 gX6_join_X6_fail rfl rfl rfl (by decide +kernel) ⟨Nat.le_of_ble_eq_true rfl, Nat.le_of_ble_eq_true rfl⟩) (wM_g0 ad cI cZ _) rfl rfl rfl (Nat.le_of_ble_eq_true rfl) ⟨Nat.zero_le _, Nat.zero_le _⟩ dX6_join_54 ?_
            refine j_goto E (tgt := 67) (by decide) dX6_join_57 ?_
            exact j_iret E hr rfl (Option.some.inj h) dX6_join_67
        · have h := jif h c11
          refine j_aload_n E 0 rfl rfl dX6_join_37 ?_
          refine j_iconst E (kc_2) dX6_join_38 ?_
          obtain ⟨r15, er15, h⟩ := jbd h
          refine j_callVi E (As := [.int 2]) (c_X6_fail er15) (cwV 1 E.1.2.2.2.2 gX6_join_X6_fail rfl rfl rfl (by decide +kernel) ⟨Nat.le_of_ble_eq_true rfl, Nat.le_of_ble_eq_true rfl⟩) (wM_g0 ad cI cZ _) rfl rfl rfl (Nat.le_of_ble_eq_true rfl) ⟨Nat.zero_le _, Nat.zero_le _⟩ dX6_join_39 ?_
          exact j_iret E hr rfl (Option.some.inj h) dX6_join_42
    · have h := jit h c6
      refine j_aload_n E 0 rfl rfl dX6_join_21 ?_
      refine j_iconst E (kc_1) dX6_join_22 ?_
      obtain ⟨r16, er16, h⟩ := jbd h
      refine j_callVi E (As := [.int 1]) (c_X6_fail er16) (cwV 1 E.1.2.2.2.2 gX6_join_X6_fail rfl rfl rfl (by decide +kernel) ⟨Nat.le_of_ble_eq_true rfl, Nat.le_of_ble_eq_true rfl⟩) (wM_g0 ad cI cZ _) rfl rfl rfl (Nat.le_of_ble_eq_true rfl) ⟨Nat.zero_le _, Nat.zero_le _⟩ dX6_join_23 ?_
      exact j_iret E hr rfl (Option.some.inj h) dX6_join_26
abbrev rm_X6_wrap : Room := { frames := 1, cells := 0, slots := 0, locals := 23 }
theorem in_X6_wrap_X6 : ∀ w ∈ u_ws RX6 TX6 29, w ∈ wsX6_wrap := fun w h => (List.mem_cons_of_mem _ (List.mem_append_right _ h))
def f_X6_wrap (st : jS) (a1 : Int32) (a2 : Int32) : Option (Int32 × jS) :=
  jl (jis st 0 0) fun s1 =>
  (f_X6_isExpression s1 a2).bind fun r2 =>
  if r2.1 = 0 then
    (f_X6_fail r2.2 1).bind fun r11 =>
    some (r11.1, r11.2)
  else
  if a1 < 6 then
    (f_X6_fail r2.2 2).bind fun r5 =>
    some (r5.1, r5.2)
  else
  if a1 ≤ 9 then
    if (r2.2.2 1) = 80 then
      (f_X6_fail r2.2 3).bind fun r9 =>
      some (r9.1, r9.2)
    else
    (f_X6_add r2.2 a1 a2 0).bind fun r8 =>
    some (r8.1, r8.2)
  else
  (f_X6_fail r2.2 2).bind fun r10 =>
  some (r10.1, r10.2)
set_option maxHeartbeats 4000000 in
set_option maxRecDepth 100000 in
theorem c_X6_wrap {l : Launch} {D : va_G} {ad : Nat → Nat} {cI cZ : ClassId} {st : jS} {a1 : Int32} {a2 : Int32} {o : (Int32 × jS)} (h : f_X6_wrap st a1 a2 = some o) : CtI l D (jT cI cZ) (wM ad cI cZ) yX6_wrap wsX6_wrap (rm_X6_wrap) [.ref (ad 0), .int a1, .int a2] st o.1 o.2 := by
  refine ctI_of (o := o) (cc := cX6_wrap) (nL := 3) (own := RX6) (by decide) rfl rfl (Nat.le_of_ble_eq_true rfl) (lv0 := [(0, .ref (ad 0)), (1, .int a1), (2, .int a2)]) rfl ?_
  intro p e s m args below meth c A E hr
  rw [f_X6_wrap] at h
  refine j_aload_n E 0 rfl rfl dX6_wrap_0 ?_
  refine j_iconst E (kc_0) dX6_wrap_1 ?_
  obtain ⟨s1, es1, h⟩ := jle h
  refine j_put E 0 (wM_g0 ad cI cZ _) rfl 0 (ty := .int) (wM_p0_0 ad cI cZ _ _) tyX6_ok nmX6 in_X6_wrap_X6 (by decide) (List.mem_of_getElem? (i := 1) rfl) (fun _ h9 => h9) rfl (tyX6_ok 0 (by decide)) rfl rfl (Nat.le_of_ble_eq_true rfl) dX6_wrap_2 ?_
  refine j_st es1 ?_
  refine j_aload_n E 0 rfl rfl dX6_wrap_5 ?_
  refine j_iload_n E 2 rfl rfl dX6_wrap_6 ?_
  obtain ⟨r2, er2, h⟩ := jbd h
  refine j_callVi E (As := [.int a2]) (c_X6_isExpression er2) (cwV 1 E.1.2.2.2.2 gX6_wrap_X6_isExpression rfl rfl rfl (by decide +kernel) ⟨Nat.le_of_ble_eq_true rfl, Nat.le_of_ble_eq_true rfl⟩) (wM_g0 ad cI cZ _) rfl rfl rfl (Nat.le_of_ble_eq_true rfl) ⟨Nat.zero_le _, Nat.zero_le _⟩ dX6_wrap_7 ?_
  refine j_if_ne E (tgt := 19) (by decide) dX6_wrap_10 (fun c3 => ?_) (fun c3 => ?_)
  · have h := jif h c3
    refine j_iload_n E 1 rfl rfl dX6_wrap_19 ?_
    refine j_bipush E (kb_6) dX6_wrap_20 ?_
    refine j_icmp_lt E (tgt := 31) (by decide) dX6_wrap_22 (fun c4 => ?_) (fun c4 => ?_)
    · have h := jit h c4
      refine j_aload_n E 0 rfl rfl dX6_wrap_31 ?_
      refine j_iconst E (kc_2) dX6_wrap_32 ?_
      obtain ⟨r5, er5, h⟩ := jbd h
      refine j_callVi E (As := [.int 2]) (c_X6_fail er5) (cwV 1 E.1.2.2.2.2 gX6_wrap_X6_fail rfl rfl rfl (by decide +kernel) ⟨Nat.le_of_ble_eq_true rfl, Nat.le_of_ble_eq_true rfl⟩) (wM_g0 ad cI cZ _) rfl rfl rfl (Nat.le_of_ble_eq_true rfl) ⟨Nat.zero_le _, Nat.zero_le _⟩ dX6_wrap_33 ?_
      exact j_iret E hr rfl (Option.some.inj h) dX6_wrap_36
    · have h := jif h c4
      refine j_iload_n E 1 rfl rfl dX6_wrap_25 ?_
      refine j_bipush E (kb_9) dX6_wrap_26 ?_
      refine j_icmp_le E (tgt := 37) (by decide) dX6_wrap_28 (fun c6 => ?_) (fun c6 => ?_)
      · have h := jit h c6
        refine j_aload_n E 0 rfl rfl dX6_wrap_37 ?_
        refine j_get E 0 (wM_g0 ad cI cZ _) rfl 1 rfl in_X6_wrap_X6 (by decide) (List.mem_of_getElem? (i := 2) rfl) (fun _ h9 => h9) dX6_wrap_38 ?_
        refine j_bipush E (kb_80) dX6_wrap_41 ?_
        refine j_icmp_ne E (tgt := 54) (by decide) dX6_wrap_43 (fun c7 => ?_) (fun c7 => ?_)
        · have h := jif h c7
          refine j_aload_n E 0 rfl rfl dX6_wrap_54 ?_
          refine j_iload_n E 1 rfl rfl dX6_wrap_55 ?_
          refine j_iload_n E 2 rfl rfl dX6_wrap_56 ?_
          refine j_iconst E (kc_0) dX6_wrap_57 ?_
          obtain ⟨r8, er8, h⟩ := jbd h
          refine j_callVi E (As := [.int a1, .int a2, .int 0]) (c_X6_add er8) (cwV 3 E.1.2.2.2.2 gX6_wrap_X6_add rfl rfl rfl (by decide +kernel) ⟨Nat.le_of_ble_eq_true rfl, Nat.le_of_ble_eq_true rfl⟩) (wM_g0 ad cI cZ _) rfl rfl rfl (Nat.le_of_ble_eq_true rfl) ⟨Nat.zero_le _, Nat.zero_le _⟩ dX6_wrap_58 ?_
          exact j_iret E hr rfl (Option.some.inj h) dX6_wrap_61
        · have h := jit h c7
          refine j_aload_n E 0 rfl rfl dX6_wrap_46 ?_
          refine j_iconst E (kc_3) dX6_wrap_47 ?_
          obtain ⟨r9, er9, h⟩ := jbd h
          refine j_callVi E (As := [.int 3]) (c_X6_fail er9) (cwV 1 E.1.2.2.2.2 gX6_wrap_X6_fail rfl rfl rfl (by decide +kernel) ⟨Nat.le_of_ble_eq_true rfl, Nat.le_of_ble_eq_true rfl⟩) (wM_g0 ad cI cZ _) rfl rfl rfl (Nat.le_of_ble_eq_true rfl) ⟨Nat.zero_le _, Nat.zero_le _⟩ dX6_wrap_48 ?_
          refine j_goto E (tgt := 61) (by decide) dX6_wrap_51 ?_
          exact j_iret E hr rfl (Option.some.inj h) dX6_wrap_61
      · have h := jif h c6
        refine j_aload_n E 0 rfl rfl dX6_wrap_31 ?_
        refine j_iconst E (kc_2) dX6_wrap_32 ?_
        obtain ⟨r10, er10, h⟩ := jbd h
        refine j_callVi E (As := [.int 2]) (c_X6_fail er10) (cwV 1 E.1.2.2.2.2 gX6_wrap_X6_fail rfl rfl rfl (by decide +kernel) ⟨Nat.le_of_ble_eq_true rfl, Nat.le_of_ble_eq_true rfl⟩) (wM_g0 ad cI cZ _) rfl rfl rfl (Nat.le_of_ble_eq_true rfl) ⟨Nat.zero_le _, Nat.zero_le _⟩ dX6_wrap_33 ?_
        exact j_iret E hr rfl (Option.some.inj h) dX6_wrap_36
  · have h := jit h c3
    refine j_aload_n E 0 rfl rfl dX6_wrap_13 ?_
    refine j_iconst E (kc_1) dX6_wrap_14 ?_
    obtain ⟨r11, er11, h⟩ := jbd h
    refine j_callVi E (As := [.int 1]) (c_X6_fail er11) (cwV 1 E.1.2.2.2.2 gX6_wrap_X6_fail rfl rfl rfl (by decide +kernel) ⟨Nat.le_of_ble_eq_true rfl, Nat.le_of_ble_eq_true rfl⟩) (wM_g0 ad cI cZ _) rfl rfl rfl (Nat.le_of_ble_eq_true rfl) ⟨Nat.zero_le _, Nat.zero_le _⟩ dX6_wrap_15 ?_
    exact j_iret E hr rfl (Option.some.inj h) dX6_wrap_18
abbrev rm_X6_countAll : Room := { frames := 0, cells := 0, slots := 0, locals := 0 }
theorem in_X6_countAll_X6 : ∀ w ∈ u_ws RX6 TX6 29, w ∈ wsX6_countAll := fun w h => (List.mem_cons_of_mem _ (List.mem_append_right _ h))
def f_X6_countAll_4 (K : jS → Int32 → Int32 → Option (Int32 × jS)) : Nat → jS → Int32 → Int32 → Option (Int32 × jS)
  | 0, _, _, _ => none
  | n + 1, st, v1, v2 =>
    if v2 ≥ 410 then
      K st v1 v2
    else
    bif job v2 410 then none else
    if (jag st 6 v2) = 0 then
      jl (v1 + 0) fun x4 =>
      jl (v2 + 1) fun x5 =>
      f_X6_countAll_4 K n st x4 x5
    else
    jl (v1 + 1) fun x6 =>
    jl (v2 + 1) fun x7 =>
    f_X6_countAll_4 K n st x6 x7
def f_X6_countAll (st : jS)  : Option (Int32 × jS) :=
  f_X6_countAll_4 (fun s10 y8 y9 =>
    some (y8, s10)
    ) jFuel st 0 0
set_option maxHeartbeats 4000000 in
set_option maxRecDepth 100000 in
theorem w_X6_countAll_4 {ad : Nat → Nat} {cI cZ : ClassId} {p : Program} {l : Launch} {e : Env} {s : State} {m : MethodId} {args : Array Value} {below : List Frame} {meth : Method} {c : Code} {D : va_G} {A : Nat → Prop} {o : (Int32 × jS)} (E : jE p s m args meth c cX6_countAll 3 RX6 wsX6_countAll D (jT cI cZ) A) (hr : meth.sig.returnType = (some .int)) {K : jS → Int32 → Int32 → Option (Int32 × jS)} (hK : ∀ (st : jS) (v1 : Int32) (v2 : Int32), K st v1 v2 = some o → J p l e (rm_X6_countAll) s m args below meth c 3 D A (wM ad cI cZ) (jZI D (wM ad cI cZ) A below args s o) 0 0 st 34 [(0, .ref (ad 0)), (1, .int v1), (2, .int v2)] []) :
    ∀ (n : Nat) (st : jS) (v1 : Int32) (v2 : Int32), f_X6_countAll_4 K n st v1 v2 = some o → J p l e (rm_X6_countAll) s m args below meth c 3 D A (wM ad cI cZ) (jZI D (wM ad cI cZ) A below args s o) 0 0 st 4 [(0, .ref (ad 0)), (1, .int v1), (2, .int v2)] [] := by
  intro n
  induction n with
  | zero => intro st v1 v2 h; cases h
  | succ n ih =>
    intro st v1 v2 h
    rw [f_X6_countAll_4] at h
    refine j_iload_n E 2 rfl rfl dX6_countAll_4 ?_
    refine j_sipush E (ks_410) dX6_countAll_5 ?_
    refine j_icmp_ge E (tgt := 34) (by decide) dX6_countAll_8 (fun c1 => ?_) (fun c1 => ?_)
    · have h := jit h c1
      refine j_sub [0, 1, 2] (lv' := [(0, .ref (ad 0)), (1, .int v1), (2, .int v2)]) rfl ?_
      exact hK _ _ _ h
    · have h := jif h c1
      refine j_iload_n E 1 rfl rfl dX6_countAll_11 ?_
      refine j_aload_n E 0 rfl rfl dX6_countAll_12 ?_
      refine j_get E 0 (wM_g0 ad cI cZ _) rfl 8 rfl in_X6_countAll_X6 (by decide) (List.mem_of_getElem? (i := 1) rfl) (fun _ h9 => h9) dX6_countAll_13 ?_
      refine j_iload_n E 2 rfl rfl dX6_countAll_16 ?_
      obtain ⟨b2, h⟩ := job_else h
      refine j_zald E 6 1 (wM_g6 ad cI cZ _) rfl b2 dX6_countAll_17 ?_
      refine j_if_eq E (tgt := 25) (by decide) dX6_countAll_18 (fun c3 => ?_) (fun c3 => ?_)
      · have h := jit h c3
        refine j_iconst E (kc_0) dX6_countAll_25 ?_
        refine j_iadd E dX6_countAll_26 ?_
        obtain ⟨x4, ex4, h⟩ := jle h
        refine j_topi ex4 ?_
        refine j_istore_n E rfl (by decide) (lv' := [(1, .int x4), (0, .ref (ad 0)), (2, .int v2)]) rfl dX6_countAll_27 ?_
        obtain ⟨x5, ex5, h⟩ := jle h
        refine j_iinc E 2 rfl kc_1 ex5 (by decide) (lv' := [(2, .int x5), (1, .int x4), (0, .ref (ad 0))]) rfl dX6_countAll_28 ?_
        refine j_goto E (tgt := 4) (by decide) dX6_countAll_31 ?_
        refine j_sub [2, 1, 0] (lv' := [(0, .ref (ad 0)), (1, .int x4), (2, .int x5)]) rfl ?_
        exact ih _ _ _ h
      · have h := jif h c3
        refine j_iconst E (kc_1) dX6_countAll_21 ?_
        refine j_goto E (tgt := 26) (by decide) dX6_countAll_22 ?_
        refine j_iadd E dX6_countAll_26 ?_
        obtain ⟨x6, ex6, h⟩ := jle h
        refine j_topi ex6 ?_
        refine j_istore_n E rfl (by decide) (lv' := [(1, .int x6), (0, .ref (ad 0)), (2, .int v2)]) rfl dX6_countAll_27 ?_
        obtain ⟨x7, ex7, h⟩ := jle h
        refine j_iinc E 2 rfl kc_1 ex7 (by decide) (lv' := [(2, .int x7), (1, .int x6), (0, .ref (ad 0))]) rfl dX6_countAll_28 ?_
        refine j_goto E (tgt := 4) (by decide) dX6_countAll_31 ?_
        refine j_sub [2, 1, 0] (lv' := [(0, .ref (ad 0)), (1, .int x6), (2, .int x7)]) rfl ?_
        exact ih _ _ _ h
set_option maxHeartbeats 4000000 in
set_option maxRecDepth 100000 in
theorem c_X6_countAll {l : Launch} {D : va_G} {ad : Nat → Nat} {cI cZ : ClassId} {st : jS}  {o : (Int32 × jS)} (h : f_X6_countAll st = some o) : CtI l D (jT cI cZ) (wM ad cI cZ) yX6_countAll wsX6_countAll (rm_X6_countAll) [.ref (ad 0)] st o.1 o.2 := by
  refine ctI_of (o := o) (cc := cX6_countAll) (nL := 3) (own := RX6) (by decide) rfl rfl (Nat.le_of_ble_eq_true rfl) (lv0 := [(0, .ref (ad 0))]) rfl ?_
  intro p e s m args below meth c A E hr
  rw [f_X6_countAll] at h
  refine j_iconst E (kc_0) dX6_countAll_0 ?_
  refine j_istore_n E rfl (by decide) (lv' := [(1, .int 0), (0, .ref (ad 0))]) rfl dX6_countAll_1 ?_
  refine j_iconst E (kc_0) dX6_countAll_2 ?_
  refine j_istore_n E rfl (by decide) (lv' := [(2, .int 0), (1, .int 0), (0, .ref (ad 0))]) rfl dX6_countAll_3 ?_
  refine j_sub [2, 1, 0] (lv' := [(0, .ref (ad 0)), (1, .int 0), (2, .int 0)]) rfl ?_
  refine w_X6_countAll_4 E hr (fun s10 y8 y9 h => ?_) _ _ _ _ h
  refine j_iload_n E 1 rfl rfl dX6_countAll_34 ?_
  exact j_iret E hr rfl (Option.some.inj h) dX6_countAll_35
abbrev rm_X6_forgetAll : Room := { frames := 1, cells := 0, slots := 0, locals := 22 }
theorem in_X6_forgetAll_X6 : ∀ w ∈ u_ws RX6 TX6 29, w ∈ wsX6_forgetAll := fun w h => (List.mem_cons_of_mem _ (List.mem_append_right _ h))
def f_X6_forgetAll_7 (K : jS → Int32 → Int32 → Option (Int32 × jS)) : Nat → jS → Int32 → Int32 → Option (Int32 × jS)
  | 0, _, _, _ => none
  | n + 1, st, v1, v2 =>
    if v2 ≥ 410 then
      K st v1 v2
    else
    bif job v2 410 then none else
    jl (jas st 6 v2 (vp_nar .boolean 0)) fun s4 =>
    jl (v2 + 1) fun x5 =>
    f_X6_forgetAll_7 K n s4 v1 x5
def f_X6_forgetAll (st : jS)  : Option (Int32 × jS) :=
  (f_X6_countAll st).bind fun r1 =>
  f_X6_forgetAll_7 (fun s8 y6 y7 =>
    some (y6, s8)
    ) jFuel r1.2 r1.1 0
set_option maxHeartbeats 4000000 in
set_option maxRecDepth 100000 in
theorem w_X6_forgetAll_7 {ad : Nat → Nat} {cI cZ : ClassId} {p : Program} {l : Launch} {e : Env} {s : State} {m : MethodId} {args : Array Value} {below : List Frame} {meth : Method} {c : Code} {D : va_G} {A : Nat → Prop} {o : (Int32 × jS)} (E : jE p s m args meth c cX6_forgetAll 3 RX6 wsX6_forgetAll D (jT cI cZ) A) (hr : meth.sig.returnType = (some .int)) {K : jS → Int32 → Int32 → Option (Int32 × jS)} (hK : ∀ (st : jS) (v1 : Int32) (v2 : Int32), K st v1 v2 = some o → J p l e (rm_X6_forgetAll) s m args below meth c 3 D A (wM ad cI cZ) (jZI D (wM ad cI cZ) A below args s o) 0 0 st 27 [(0, .ref (ad 0)), (1, .int v1), (2, .int v2)] []) :
    ∀ (n : Nat) (st : jS) (v1 : Int32) (v2 : Int32), f_X6_forgetAll_7 K n st v1 v2 = some o → J p l e (rm_X6_forgetAll) s m args below meth c 3 D A (wM ad cI cZ) (jZI D (wM ad cI cZ) A below args s o) 0 0 st 7 [(0, .ref (ad 0)), (1, .int v1), (2, .int v2)] [] := by
  intro n
  induction n with
  | zero => intro st v1 v2 h; cases h
  | succ n ih =>
    intro st v1 v2 h
    rw [f_X6_forgetAll_7] at h
    refine j_iload_n E 2 rfl rfl dX6_forgetAll_7 ?_
    refine j_sipush E (ks_410) dX6_forgetAll_8 ?_
    refine j_icmp_ge E (tgt := 27) (by decide) dX6_forgetAll_11 (fun c2 => ?_) (fun c2 => ?_)
    · have h := jit h c2
      refine j_sub [0, 1, 2] (lv' := [(0, .ref (ad 0)), (1, .int v1), (2, .int v2)]) rfl ?_
      exact hK _ _ _ h
    · have h := jif h c2
      refine j_aload_n E 0 rfl rfl dX6_forgetAll_14 ?_
      refine j_get E 0 (wM_g0 ad cI cZ _) rfl 8 rfl in_X6_forgetAll_X6 (by decide) (List.mem_of_getElem? (i := 1) rfl) (fun _ h9 => h9) dX6_forgetAll_15 ?_
      refine j_iload_n E 2 rfl rfl dX6_forgetAll_18 ?_
      refine j_iconst E (kc_0) dX6_forgetAll_19 ?_
      obtain ⟨b3, h⟩ := job_else h
      obtain ⟨s4, es4, h⟩ := jle h
      refine j_zast E 6 1 (wM_g6 ad cI cZ _) rfl (wM_s6 ad cI cZ _ _) b3 dX6_forgetAll_20 ?_
      refine j_st es4 ?_
      obtain ⟨x5, ex5, h⟩ := jle h
      refine j_iinc E 2 rfl kc_1 ex5 (by decide) (lv' := [(2, .int x5), (0, .ref (ad 0)), (1, .int v1)]) rfl dX6_forgetAll_21 ?_
      refine j_goto E (tgt := 7) (by decide) dX6_forgetAll_24 ?_
      refine j_sub [1, 2, 0] (lv' := [(0, .ref (ad 0)), (1, .int v1), (2, .int x5)]) rfl ?_
      exact ih _ _ _ h
set_option maxHeartbeats 4000000 in
set_option maxRecDepth 100000 in
theorem c_X6_forgetAll {l : Launch} {D : va_G} {ad : Nat → Nat} {cI cZ : ClassId} {st : jS}  {o : (Int32 × jS)} (h : f_X6_forgetAll st = some o) : CtI l D (jT cI cZ) (wM ad cI cZ) yX6_forgetAll wsX6_forgetAll (rm_X6_forgetAll) [.ref (ad 0)] st o.1 o.2 := by
  refine ctI_of (o := o) (cc := cX6_forgetAll) (nL := 3) (own := RX6) (by decide) rfl rfl (Nat.le_of_ble_eq_true rfl) (lv0 := [(0, .ref (ad 0))]) rfl ?_
  intro p e s m args below meth c A E hr
  rw [f_X6_forgetAll] at h
  refine j_aload_n E 0 rfl rfl dX6_forgetAll_0 ?_
  obtain ⟨r1, er1, h⟩ := jbd h
  refine j_callVi E (As := []) (c_X6_countAll er1) (cwV 0 E.1.2.2.2.2 gX6_forgetAll_X6_countAll rfl rfl rfl (by decide +kernel) ⟨Nat.le_of_ble_eq_true rfl, Nat.le_of_ble_eq_true rfl⟩) (wM_g0 ad cI cZ _) rfl rfl rfl (Nat.le_of_ble_eq_true rfl) ⟨Nat.zero_le _, Nat.zero_le _⟩ dX6_forgetAll_1 ?_
  refine j_istore_n E rfl (by decide) (lv' := [(1, .int r1.1), (0, .ref (ad 0))]) rfl dX6_forgetAll_4 ?_
  refine j_iconst E (kc_0) dX6_forgetAll_5 ?_
  refine j_istore_n E rfl (by decide) (lv' := [(2, .int 0), (1, .int r1.1), (0, .ref (ad 0))]) rfl dX6_forgetAll_6 ?_
  refine j_sub [2, 1, 0] (lv' := [(0, .ref (ad 0)), (1, .int r1.1), (2, .int 0)]) rfl ?_
  refine w_X6_forgetAll_7 E hr (fun s8 y6 y7 h => ?_) _ _ _ _ h
  refine j_iload_n E 1 rfl rfl dX6_forgetAll_27 ?_
  exact j_iret E hr rfl (Option.some.inj h) dX6_forgetAll_28
abbrev rm_X6_define : Room := { frames := 2, cells := 0, slots := 0, locals := 44 }
theorem in_X6_define_X6 : ∀ w ∈ u_ws RX6 TX6 29, w ∈ wsX6_define := fun w h => (List.mem_cons_of_mem _ (List.mem_append_right _ h))
def f_X6_define (st : jS) (a1 : Int32) (a2 : Int32) : Option (Int32 × jS) :=
  jl (jis st 0 0) fun s1 =>
  (f_X6_isRule a1).bind fun r2 =>
  if r2 = 0 then
    (f_X6_fail s1 1).bind fun r4 =>
    some (r4.1, r4.2)
  else
  if a2 = (-1) then
    bif job a1 10 then none else
    jl (jag s1 4 a1) fun x7 =>
    bif job a1 10 then none else
    jl (jas s1 4 a1 a2) fun s9 =>
    (f_X6_forgetAll s9).bind fun r10 =>
    some (x7, r10.2)
  else
  (f_X6_isExpression s1 a2).bind fun r11 =>
  if r11.1 = 0 then
    (f_X6_fail r11.2 1).bind fun r18 =>
    some (r18.1, r18.2)
  else
  bif job a1 10 then none else
  jl (jag r11.2 4 a1) fun x14 =>
  bif job a1 10 then none else
  jl (jas r11.2 4 a1 a2) fun s16 =>
  (f_X6_forgetAll s16).bind fun r17 =>
  some (x14, r17.2)
set_option maxHeartbeats 4000000 in
set_option maxRecDepth 100000 in
theorem c_X6_define {l : Launch} {D : va_G} {ad : Nat → Nat} {cI cZ : ClassId} {st : jS} {a1 : Int32} {a2 : Int32} {o : (Int32 × jS)} (h : f_X6_define st a1 a2 = some o) : CtI l D (jT cI cZ) (wM ad cI cZ) yX6_define wsX6_define (rm_X6_define) [.ref (ad 0), .int a1, .int a2] st o.1 o.2 := by
  refine ctI_of (o := o) (cc := cX6_define) (nL := 4) (own := RX6) (by decide) rfl rfl (Nat.le_of_ble_eq_true rfl) (lv0 := [(0, .ref (ad 0)), (1, .int a1), (2, .int a2)]) rfl ?_
  intro p e s m args below meth c A E hr
  rw [f_X6_define] at h
  refine j_aload_n E 0 rfl rfl dX6_define_0 ?_
  refine j_iconst E (kc_0) dX6_define_1 ?_
  obtain ⟨s1, es1, h⟩ := jle h
  refine j_put E 0 (wM_g0 ad cI cZ _) rfl 0 (ty := .int) (wM_p0_0 ad cI cZ _ _) tyX6_ok nmX6 in_X6_define_X6 (by decide) (List.mem_of_getElem? (i := 1) rfl) (fun _ h9 => h9) rfl (tyX6_ok 0 (by decide)) rfl rfl (Nat.le_of_ble_eq_true rfl) dX6_define_2 ?_
  refine j_st es1 ?_
  refine j_iload_n E 1 rfl rfl dX6_define_5 ?_
  obtain ⟨r2, er2, h⟩ := jbd h
  refine j_callSi E (As := [.int a1]) (c_X6_isRule er2) (va_cwS 1 E.1.2.2.2.2 gX6_define_X6_isRule rfl rfl rfl (by decide +kernel) ⟨Nat.le_of_ble_eq_true rfl, Nat.le_of_ble_eq_true rfl⟩) rfl rfl (Nat.le_of_ble_eq_true rfl) ⟨Nat.zero_le _, Nat.zero_le _⟩ dX6_define_6 ?_
  refine j_if_eq E (tgt := 25) (by decide) dX6_define_9 (fun c3 => ?_) (fun c3 => ?_)
  · have h := jit h c3
    refine j_aload_n E 0 rfl rfl dX6_define_25 ?_
    refine j_iconst E (kc_1) dX6_define_26 ?_
    obtain ⟨r4, er4, h⟩ := jbd h
    refine j_callVi E (As := [.int 1]) (c_X6_fail er4) (cwV 1 E.1.2.2.2.2 gX6_define_X6_fail rfl rfl rfl (by decide +kernel) ⟨Nat.le_of_ble_eq_true rfl, Nat.le_of_ble_eq_true rfl⟩) (wM_g0 ad cI cZ _) rfl rfl rfl (Nat.le_of_ble_eq_true rfl) ⟨Nat.zero_le _, Nat.zero_le _⟩ dX6_define_27 ?_
    exact j_iret E hr rfl (Option.some.inj h) dX6_define_30
  · have h := jif h c3
    refine j_iload_n E 2 rfl rfl dX6_define_12 ?_
    refine j_iconst E (kc_m1) dX6_define_13 ?_
    refine j_icmp_eq E (tgt := 31) (by decide) dX6_define_14 (fun c5 => ?_) (fun c5 => ?_)
    · have h := jit h c5
      refine j_aload_n E 0 rfl rfl dX6_define_31 ?_
      refine j_get E 0 (wM_g0 ad cI cZ _) rfl 5 rfl in_X6_define_X6 (by decide) (List.mem_of_getElem? (i := 2) rfl) (fun _ h9 => h9) dX6_define_32 ?_
      refine j_iload_n E 1 rfl rfl dX6_define_35 ?_
      obtain ⟨b6, h⟩ := job_else h
      refine j_iald E 4 0 (wM_g4 ad cI cZ _) rfl b6 dX6_define_36 ?_
      obtain ⟨x7, ex7, h⟩ := jle h
      refine j_topi ex7 ?_
      refine j_istore_n E rfl (by decide) (lv' := [(3, .int x7), (0, .ref (ad 0)), (1, .int a1), (2, .int a2)]) rfl dX6_define_37 ?_
      refine j_aload_n E 1 rfl rfl dX6_define_38 ?_
      refine j_get E 0 (wM_g0 ad cI cZ _) rfl 5 rfl in_X6_define_X6 (by decide) (List.mem_of_getElem? (i := 2) rfl) (fun _ h9 => h9) dX6_define_39 ?_
      refine j_iload_n E 2 rfl rfl dX6_define_42 ?_
      refine j_iload_n E 3 rfl rfl dX6_define_43 ?_
      obtain ⟨b8, h⟩ := job_else h
      obtain ⟨s9, es9, h⟩ := jle h
      refine j_iast E 4 0 (wM_g4 ad cI cZ _) rfl (wM_s4 ad cI cZ _ _) b8 dX6_define_44 ?_
      refine j_st es9 ?_
      refine j_aload_n E 1 rfl rfl dX6_define_45 ?_
      obtain ⟨r10, er10, h⟩ := jbd h
      refine j_callVi E (As := []) (c_X6_forgetAll er10) (cwV 0 E.1.2.2.2.2 gX6_define_X6_forgetAll rfl rfl rfl (by decide +kernel) ⟨Nat.le_of_ble_eq_true rfl, Nat.le_of_ble_eq_true rfl⟩) (wM_g0 ad cI cZ _) rfl rfl rfl (Nat.le_of_ble_eq_true rfl) ⟨Nat.zero_le _, Nat.zero_le _⟩ dX6_define_46 ?_
      refine j_pop E rfl dX6_define_49 ?_
      refine j_iload_n E 0 rfl rfl dX6_define_50 ?_
      exact j_iret E hr rfl (Option.some.inj h) dX6_define_51
    · have h := jif h c5
      refine j_aload_n E 0 rfl rfl dX6_define_17 ?_
      refine j_iload_n E 2 rfl rfl dX6_define_18 ?_
      obtain ⟨r11, er11, h⟩ := jbd h
      refine j_callVi E (As := [.int a2]) (c_X6_isExpression er11) (cwV 1 E.1.2.2.2.2 gX6_define_X6_isExpression rfl rfl rfl (by decide +kernel) ⟨Nat.le_of_ble_eq_true rfl, Nat.le_of_ble_eq_true rfl⟩) (wM_g0 ad cI cZ _) rfl rfl rfl (Nat.le_of_ble_eq_true rfl) ⟨Nat.zero_le _, Nat.zero_le _⟩ dX6_define_19 ?_
      refine j_if_ne E (tgt := 31) (by decide) dX6_define_22 (fun c12 => ?_) (fun c12 => ?_)
      · have h := jif h c12
        refine j_aload_n E 0 rfl rfl dX6_define_31 ?_
        refine j_get E 0 (wM_g0 ad cI cZ _) rfl 5 rfl in_X6_define_X6 (by decide) (List.mem_of_getElem? (i := 2) rfl) (fun _ h9 => h9) dX6_define_32 ?_
        refine j_iload_n E 1 rfl rfl dX6_define_35 ?_
        obtain ⟨b13, h⟩ := job_else h
        refine j_iald E 4 0 (wM_g4 ad cI cZ _) rfl b13 dX6_define_36 ?_
        obtain ⟨x14, ex14, h⟩ := jle h
        refine j_topi ex14 ?_
        refine j_istore_n E rfl (by decide) (lv' := [(3, .int x14), (0, .ref (ad 0)), (1, .int a1), (2, .int a2)]) rfl dX6_define_37 ?_
        refine j_aload_n E 1 rfl rfl dX6_define_38 ?_
        refine j_get E 0 (wM_g0 ad cI cZ _) rfl 5 rfl in_X6_define_X6 (by decide) (List.mem_of_getElem? (i := 2) rfl) (fun _ h9 => h9) dX6_define_39 ?_
        refine j_iload_n E 2 rfl rfl dX6_define_42 ?_
        refine j_iload_n E 3 rfl rfl dX6_define_43 ?_
        obtain ⟨b15, h⟩ := job_else h
        obtain ⟨s16, es16, h⟩ := jle h
        refine j_iast E 4 0 (wM_g4 ad cI cZ _) rfl (wM_s4 ad cI cZ _ _) b15 dX6_define_44 ?_
        refine j_st es16 ?_
        refine j_aload_n E 1 rfl rfl dX6_define_45 ?_
        obtain ⟨r17, er17, h⟩ := jbd h
        refine j_callVi E (As := []) (c_X6_forgetAll er17) (cwV 0 E.1.2.2.2.2 gX6_define_X6_forgetAll rfl rfl rfl (by decide +kernel) ⟨Nat.le_of_ble_eq_true rfl, Nat.le_of_ble_eq_true rfl⟩) (wM_g0 ad cI cZ _) rfl rfl rfl (Nat.le_of_ble_eq_true rfl) ⟨Nat.zero_le _, Nat.zero_le _⟩ dX6_define_46 ?_
        refine j_pop E rfl dX6_define_49 ?_
        refine j_iload_n E 0 rfl rfl dX6_define_50 ?_
        exact j_iret E hr rfl (Option.some.inj h) dX6_define_51
      · have h := jit h c12
        refine j_aload_n E 0 rfl rfl dX6_define_25 ?_
        refine j_iconst E (kc_1) dX6_define_26 ?_
        obtain ⟨r18, er18, h⟩ := jbd h
        refine j_callVi E (As := [.int 1]) (c_X6_fail er18) (cwV 1 E.1.2.2.2.2 gX6_define_X6_fail rfl rfl rfl (by decide +kernel) ⟨Nat.le_of_ble_eq_true rfl, Nat.le_of_ble_eq_true rfl⟩) (wM_g0 ad cI cZ _) rfl rfl rfl (Nat.le_of_ble_eq_true rfl) ⟨Nat.zero_le _, Nat.zero_le _⟩ dX6_define_27 ?_
        exact j_iret E hr rfl (Option.some.inj h) dX6_define_30
abbrev rm_X6_expressionCount : Room := { frames := 0, cells := 0, slots := 0, locals := 0 }
theorem in_X6_expressionCount_X6 : ∀ w ∈ u_ws RX6 TX6 29, w ∈ wsX6_expressionCount := fun w h => (List.mem_cons_of_mem _ (List.mem_append_right _ h))
def f_X6_expressionCount (st : jS)  : Option (Int32 × jS) :=
  jl (jis st 0 0) fun s1 =>
  some ((s1.2 1), s1)
set_option maxHeartbeats 4000000 in
set_option maxRecDepth 100000 in
theorem c_X6_expressionCount {l : Launch} {D : va_G} {ad : Nat → Nat} {cI cZ : ClassId} {st : jS}  {o : (Int32 × jS)} (h : f_X6_expressionCount st = some o) : CtI l D (jT cI cZ) (wM ad cI cZ) yX6_expressionCount wsX6_expressionCount (rm_X6_expressionCount) [.ref (ad 0)] st o.1 o.2 := by
  refine ctI_of (o := o) (cc := cX6_expressionCount) (nL := 1) (own := RX6) (by decide) rfl rfl (Nat.le_of_ble_eq_true rfl) (lv0 := [(0, .ref (ad 0))]) rfl ?_
  intro p e s m args below meth c A E hr
  rw [f_X6_expressionCount] at h
  refine j_aload_n E 0 rfl rfl dX6_expressionCount_0 ?_
  refine j_iconst E (kc_0) dX6_expressionCount_1 ?_
  obtain ⟨s1, es1, h⟩ := jle h
  refine j_put E 0 (wM_g0 ad cI cZ _) rfl 0 (ty := .int) (wM_p0_0 ad cI cZ _ _) tyX6_ok nmX6 in_X6_expressionCount_X6 (by decide) (List.mem_of_getElem? (i := 1) rfl) (fun _ h9 => h9) rfl (tyX6_ok 0 (by decide)) rfl rfl (Nat.le_of_ble_eq_true rfl) dX6_expressionCount_2 ?_
  refine j_st es1 ?_
  refine j_aload_n E 0 rfl rfl dX6_expressionCount_5 ?_
  refine j_get E 0 (wM_g0 ad cI cZ _) rfl 1 rfl in_X6_expressionCount_X6 (by decide) (List.mem_of_getElem? (i := 2) rfl) (fun _ h9 => h9) dX6_expressionCount_6 ?_
  exact j_iret E hr rfl (Option.some.inj h) dX6_expressionCount_9
abbrev rm_X6_size : Room := { frames := 0, cells := 0, slots := 0, locals := 0 }
theorem in_X6_size_X6 : ∀ w ∈ u_ws RX6 TX6 29, w ∈ wsX6_size := fun w h => (List.mem_cons_of_mem _ (List.mem_append_right _ h))
def f_X6_size (st : jS)  : Option (Int32 × jS) :=
  jl (jis st 0 0) fun s1 =>
  some ((s1.2 2), s1)
set_option maxHeartbeats 4000000 in
set_option maxRecDepth 100000 in
theorem c_X6_size {l : Launch} {D : va_G} {ad : Nat → Nat} {cI cZ : ClassId} {st : jS}  {o : (Int32 × jS)} (h : f_X6_size st = some o) : CtI l D (jT cI cZ) (wM ad cI cZ) yX6_size wsX6_size (rm_X6_size) [.ref (ad 0)] st o.1 o.2 := by
  refine ctI_of (o := o) (cc := cX6_size) (nL := 1) (own := RX6) (by decide) rfl rfl (Nat.le_of_ble_eq_true rfl) (lv0 := [(0, .ref (ad 0))]) rfl ?_
  intro p e s m args below meth c A E hr
  rw [f_X6_size] at h
  refine j_aload_n E 0 rfl rfl dX6_size_0 ?_
  refine j_iconst E (kc_0) dX6_size_1 ?_
  obtain ⟨s1, es1, h⟩ := jle h
  refine j_put E 0 (wM_g0 ad cI cZ _) rfl 0 (ty := .int) (wM_p0_0 ad cI cZ _ _) tyX6_ok nmX6 in_X6_size_X6 (by decide) (List.mem_of_getElem? (i := 1) rfl) (fun _ h9 => h9) rfl (tyX6_ok 0 (by decide)) rfl rfl (Nat.le_of_ble_eq_true rfl) dX6_size_2 ?_
  refine j_st es1 ?_
  refine j_aload_n E 0 rfl rfl dX6_size_5 ?_
  refine j_get E 0 (wM_g0 ad cI cZ _) rfl 6 rfl in_X6_size_X6 (by decide) (List.mem_of_getElem? (i := 2) rfl) (fun _ h9 => h9) dX6_size_6 ?_
  exact j_iret E hr rfl (Option.some.inj h) dX6_size_9
abbrev rm_X6_byteAt : Room := { frames := 1, cells := 0, slots := 0, locals := 21 }
theorem in_X6_byteAt_X6 : ∀ w ∈ u_ws RX6 TX6 29, w ∈ wsX6_byteAt := fun w h => (List.mem_cons_of_mem _ (List.mem_append_right _ h))
def f_X6_byteAt (st : jS) (a1 : Int32) : Option (Int32 × jS) :=
  jl (jis st 0 0) fun s1 =>
  if a1 < 0 then
    (f_X6_fail s1 1).bind fun r3 =>
    some (r3.1, r3.2)
  else
  if a1 ≥ (s1.2 2) then
    (f_X6_fail s1 1).bind fun r5 =>
    some (r5.1, r5.2)
  else
  bif job a1 40 then none else
  some ((jag s1 5 a1), s1)
set_option maxHeartbeats 4000000 in
set_option maxRecDepth 100000 in
theorem c_X6_byteAt {l : Launch} {D : va_G} {ad : Nat → Nat} {cI cZ : ClassId} {st : jS} {a1 : Int32} {o : (Int32 × jS)} (h : f_X6_byteAt st a1 = some o) : CtI l D (jT cI cZ) (wM ad cI cZ) yX6_byteAt wsX6_byteAt (rm_X6_byteAt) [.ref (ad 0), .int a1] st o.1 o.2 := by
  refine ctI_of (o := o) (cc := cX6_byteAt) (nL := 2) (own := RX6) (by decide) rfl rfl (Nat.le_of_ble_eq_true rfl) (lv0 := [(0, .ref (ad 0)), (1, .int a1)]) rfl ?_
  intro p e s m args below meth c A E hr
  rw [f_X6_byteAt] at h
  refine j_aload_n E 0 rfl rfl dX6_byteAt_0 ?_
  refine j_iconst E (kc_0) dX6_byteAt_1 ?_
  obtain ⟨s1, es1, h⟩ := jle h
  refine j_put E 0 (wM_g0 ad cI cZ _) rfl 0 (ty := .int) (wM_p0_0 ad cI cZ _ _) tyX6_ok nmX6 in_X6_byteAt_X6 (by decide) (List.mem_of_getElem? (i := 1) rfl) (fun _ h9 => h9) rfl (tyX6_ok 0 (by decide)) rfl rfl (Nat.le_of_ble_eq_true rfl) dX6_byteAt_2 ?_
  refine j_st es1 ?_
  refine j_iload_n E 1 rfl rfl dX6_byteAt_5 ?_
  refine j_if_lt E (tgt := 26) (by decide) dX6_byteAt_6 (fun c2 => ?_) (fun c2 => ?_)
  · have h := jit h c2
    refine j_aload_n E 0 rfl rfl dX6_byteAt_26 ?_
    refine j_iconst E (kc_1) dX6_byteAt_27 ?_
    obtain ⟨r3, er3, h⟩ := jbd h
    refine j_callVi E (As := [.int 1]) (c_X6_fail er3) (cwV 1 E.1.2.2.2.2 gX6_byteAt_X6_fail rfl rfl rfl (by decide +kernel) ⟨Nat.le_of_ble_eq_true rfl, Nat.le_of_ble_eq_true rfl⟩) (wM_g0 ad cI cZ _) rfl rfl rfl (Nat.le_of_ble_eq_true rfl) ⟨Nat.zero_le _, Nat.zero_le _⟩ dX6_byteAt_28 ?_
    exact j_iret E hr rfl (Option.some.inj h) dX6_byteAt_31
  · have h := jif h c2
    refine j_iload_n E 1 rfl rfl dX6_byteAt_9 ?_
    refine j_aload_n E 0 rfl rfl dX6_byteAt_10 ?_
    refine j_get E 0 (wM_g0 ad cI cZ _) rfl 6 rfl in_X6_byteAt_X6 (by decide) (List.mem_of_getElem? (i := 2) rfl) (fun _ h9 => h9) dX6_byteAt_11 ?_
    refine j_icmp_ge E (tgt := 26) (by decide) dX6_byteAt_14 (fun c4 => ?_) (fun c4 => ?_)
    · have h := jit h c4
      refine j_aload_n E 0 rfl rfl dX6_byteAt_26 ?_
      refine j_iconst E (kc_1) dX6_byteAt_27 ?_
      obtain ⟨r5, er5, h⟩ := jbd h
      refine j_callVi E (As := [.int 1]) (c_X6_fail er5) (cwV 1 E.1.2.2.2.2 gX6_byteAt_X6_fail rfl rfl rfl (by decide +kernel) ⟨Nat.le_of_ble_eq_true rfl, Nat.le_of_ble_eq_true rfl⟩) (wM_g0 ad cI cZ _) rfl rfl rfl (Nat.le_of_ble_eq_true rfl) ⟨Nat.zero_le _, Nat.zero_le _⟩ dX6_byteAt_28 ?_
      exact j_iret E hr rfl (Option.some.inj h) dX6_byteAt_31
    · have h := jif h c4
      refine j_aload_n E 0 rfl rfl dX6_byteAt_17 ?_
      refine j_get E 0 (wM_g0 ad cI cZ _) rfl 7 rfl in_X6_byteAt_X6 (by decide) (List.mem_of_getElem? (i := 3) rfl) (fun _ h9 => h9) dX6_byteAt_18 ?_
      refine j_iload_n E 1 rfl rfl dX6_byteAt_21 ?_
      obtain ⟨b6, h⟩ := job_else h
      refine j_iald E 5 0 (wM_g5 ad cI cZ _) rfl b6 dX6_byteAt_22 ?_
      refine j_goto E (tgt := 31) (by decide) dX6_byteAt_23 ?_
      exact j_iret E hr rfl (Option.some.inj h) dX6_byteAt_31
abbrev rm_X6_work : Room := { frames := 0, cells := 0, slots := 0, locals := 0 }
theorem in_X6_work_X6 : ∀ w ∈ u_ws RX6 TX6 29, w ∈ wsX6_work := fun w h => (List.mem_cons_of_mem _ (List.mem_append_right _ h))
def f_X6_work (st : jS)  : Option (Int32 × jS) :=
  jl (jis st 0 0) fun s1 =>
  some ((s1.2 6), s1)
set_option maxHeartbeats 4000000 in
set_option maxRecDepth 100000 in
theorem c_X6_work {l : Launch} {D : va_G} {ad : Nat → Nat} {cI cZ : ClassId} {st : jS}  {o : (Int32 × jS)} (h : f_X6_work st = some o) : CtI l D (jT cI cZ) (wM ad cI cZ) yX6_work wsX6_work (rm_X6_work) [.ref (ad 0)] st o.1 o.2 := by
  refine ctI_of (o := o) (cc := cX6_work) (nL := 1) (own := RX6) (by decide) rfl rfl (Nat.le_of_ble_eq_true rfl) (lv0 := [(0, .ref (ad 0))]) rfl ?_
  intro p e s m args below meth c A E hr
  rw [f_X6_work] at h
  refine j_aload_n E 0 rfl rfl dX6_work_0 ?_
  refine j_iconst E (kc_0) dX6_work_1 ?_
  obtain ⟨s1, es1, h⟩ := jle h
  refine j_put E 0 (wM_g0 ad cI cZ _) rfl 0 (ty := .int) (wM_p0_0 ad cI cZ _ _) tyX6_ok nmX6 in_X6_work_X6 (by decide) (List.mem_of_getElem? (i := 1) rfl) (fun _ h9 => h9) rfl (tyX6_ok 0 (by decide)) rfl rfl (Nat.le_of_ble_eq_true rfl) dX6_work_2 ?_
  refine j_st es1 ?_
  refine j_aload_n E 0 rfl rfl dX6_work_5 ?_
  refine j_get E 0 (wM_g0 ad cI cZ _) rfl 22 rfl in_X6_work_X6 (by decide) (List.mem_of_getElem? (i := 2) rfl) (fun _ h9 => h9) dX6_work_6 ?_
  exact j_iret E hr rfl (Option.some.inj h) dX6_work_9
abbrev rm_X6_hits : Room := { frames := 0, cells := 0, slots := 0, locals := 0 }
theorem in_X6_hits_X6 : ∀ w ∈ u_ws RX6 TX6 29, w ∈ wsX6_hits := fun w h => (List.mem_cons_of_mem _ (List.mem_append_right _ h))
def f_X6_hits (st : jS)  : Option (Int32 × jS) :=
  jl (jis st 0 0) fun s1 =>
  some ((s1.2 7), s1)
set_option maxHeartbeats 4000000 in
set_option maxRecDepth 100000 in
theorem c_X6_hits {l : Launch} {D : va_G} {ad : Nat → Nat} {cI cZ : ClassId} {st : jS}  {o : (Int32 × jS)} (h : f_X6_hits st = some o) : CtI l D (jT cI cZ) (wM ad cI cZ) yX6_hits wsX6_hits (rm_X6_hits) [.ref (ad 0)] st o.1 o.2 := by
  refine ctI_of (o := o) (cc := cX6_hits) (nL := 1) (own := RX6) (by decide) rfl rfl (Nat.le_of_ble_eq_true rfl) (lv0 := [(0, .ref (ad 0))]) rfl ?_
  intro p e s m args below meth c A E hr
  rw [f_X6_hits] at h
  refine j_aload_n E 0 rfl rfl dX6_hits_0 ?_
  refine j_iconst E (kc_0) dX6_hits_1 ?_
  obtain ⟨s1, es1, h⟩ := jle h
  refine j_put E 0 (wM_g0 ad cI cZ _) rfl 0 (ty := .int) (wM_p0_0 ad cI cZ _ _) tyX6_ok nmX6 in_X6_hits_X6 (by decide) (List.mem_of_getElem? (i := 1) rfl) (fun _ h9 => h9) rfl (tyX6_ok 0 (by decide)) rfl rfl (Nat.le_of_ble_eq_true rfl) dX6_hits_2 ?_
  refine j_st es1 ?_
  refine j_aload_n E 0 rfl rfl dX6_hits_5 ?_
  refine j_get E 0 (wM_g0 ad cI cZ _) rfl 23 rfl in_X6_hits_X6 (by decide) (List.mem_of_getElem? (i := 2) rfl) (fun _ h9 => h9) dX6_hits_6 ?_
  exact j_iret E hr rfl (Option.some.inj h) dX6_hits_9
abbrev rm_X6_growths : Room := { frames := 0, cells := 0, slots := 0, locals := 0 }
theorem in_X6_growths_X6 : ∀ w ∈ u_ws RX6 TX6 29, w ∈ wsX6_growths := fun w h => (List.mem_cons_of_mem _ (List.mem_append_right _ h))
def f_X6_growths (st : jS)  : Option (Int32 × jS) :=
  jl (jis st 0 0) fun s1 =>
  some ((s1.2 8), s1)
set_option maxHeartbeats 4000000 in
set_option maxRecDepth 100000 in
theorem c_X6_growths {l : Launch} {D : va_G} {ad : Nat → Nat} {cI cZ : ClassId} {st : jS}  {o : (Int32 × jS)} (h : f_X6_growths st = some o) : CtI l D (jT cI cZ) (wM ad cI cZ) yX6_growths wsX6_growths (rm_X6_growths) [.ref (ad 0)] st o.1 o.2 := by
  refine ctI_of (o := o) (cc := cX6_growths) (nL := 1) (own := RX6) (by decide) rfl rfl (Nat.le_of_ble_eq_true rfl) (lv0 := [(0, .ref (ad 0))]) rfl ?_
  intro p e s m args below meth c A E hr
  rw [f_X6_growths] at h
  refine j_aload_n E 0 rfl rfl dX6_growths_0 ?_
  refine j_iconst E (kc_0) dX6_growths_1 ?_
  obtain ⟨s1, es1, h⟩ := jle h
  refine j_put E 0 (wM_g0 ad cI cZ _) rfl 0 (ty := .int) (wM_p0_0 ad cI cZ _ _) tyX6_ok nmX6 in_X6_growths_X6 (by decide) (List.mem_of_getElem? (i := 1) rfl) (fun _ h9 => h9) rfl (tyX6_ok 0 (by decide)) rfl rfl (Nat.le_of_ble_eq_true rfl) dX6_growths_2 ?_
  refine j_st es1 ?_
  refine j_aload_n E 0 rfl rfl dX6_growths_5 ?_
  refine j_get E 0 (wM_g0 ad cI cZ _) rfl 24 rfl in_X6_growths_X6 (by decide) (List.mem_of_getElem? (i := 2) rfl) (fun _ h9 => h9) dX6_growths_6 ?_
  exact j_iret E hr rfl (Option.some.inj h) dX6_growths_9
abbrev rm_X6_farthest : Room := { frames := 0, cells := 0, slots := 0, locals := 0 }
theorem in_X6_farthest_X6 : ∀ w ∈ u_ws RX6 TX6 29, w ∈ wsX6_farthest := fun w h => (List.mem_cons_of_mem _ (List.mem_append_right _ h))
def f_X6_farthest (st : jS)  : Option (Int32 × jS) :=
  jl (jis st 0 0) fun s1 =>
  some ((s1.2 9), s1)
set_option maxHeartbeats 4000000 in
set_option maxRecDepth 100000 in
theorem c_X6_farthest {l : Launch} {D : va_G} {ad : Nat → Nat} {cI cZ : ClassId} {st : jS}  {o : (Int32 × jS)} (h : f_X6_farthest st = some o) : CtI l D (jT cI cZ) (wM ad cI cZ) yX6_farthest wsX6_farthest (rm_X6_farthest) [.ref (ad 0)] st o.1 o.2 := by
  refine ctI_of (o := o) (cc := cX6_farthest) (nL := 1) (own := RX6) (by decide) rfl rfl (Nat.le_of_ble_eq_true rfl) (lv0 := [(0, .ref (ad 0))]) rfl ?_
  intro p e s m args below meth c A E hr
  rw [f_X6_farthest] at h
  refine j_aload_n E 0 rfl rfl dX6_farthest_0 ?_
  refine j_iconst E (kc_0) dX6_farthest_1 ?_
  obtain ⟨s1, es1, h⟩ := jle h
  refine j_put E 0 (wM_g0 ad cI cZ _) rfl 0 (ty := .int) (wM_p0_0 ad cI cZ _ _) tyX6_ok nmX6 in_X6_farthest_X6 (by decide) (List.mem_of_getElem? (i := 1) rfl) (fun _ h9 => h9) rfl (tyX6_ok 0 (by decide)) rfl rfl (Nat.le_of_ble_eq_true rfl) dX6_farthest_2 ?_
  refine j_st es1 ?_
  refine j_aload_n E 0 rfl rfl dX6_farthest_5 ?_
  refine j_get E 0 (wM_g0 ad cI cZ _) rfl 25 rfl in_X6_farthest_X6 (by decide) (List.mem_of_getElem? (i := 2) rfl) (fun _ h9 => h9) dX6_farthest_6 ?_
  exact j_iret E hr rfl (Option.some.inj h) dX6_farthest_9
abbrev rm_X6_remembered : Room := { frames := 1, cells := 0, slots := 0, locals := 22 }
theorem in_X6_remembered_X6 : ∀ w ∈ u_ws RX6 TX6 29, w ∈ wsX6_remembered := fun w h => (List.mem_cons_of_mem _ (List.mem_append_right _ h))
def f_X6_remembered (st : jS)  : Option (Int32 × jS) :=
  jl (jis st 0 0) fun s1 =>
  (f_X6_countAll s1).bind fun r2 =>
  some (r2.1, r2.2)
set_option maxHeartbeats 4000000 in
set_option maxRecDepth 100000 in
theorem c_X6_remembered {l : Launch} {D : va_G} {ad : Nat → Nat} {cI cZ : ClassId} {st : jS}  {o : (Int32 × jS)} (h : f_X6_remembered st = some o) : CtI l D (jT cI cZ) (wM ad cI cZ) yX6_remembered wsX6_remembered (rm_X6_remembered) [.ref (ad 0)] st o.1 o.2 := by
  refine ctI_of (o := o) (cc := cX6_remembered) (nL := 1) (own := RX6) (by decide) rfl rfl (Nat.le_of_ble_eq_true rfl) (lv0 := [(0, .ref (ad 0))]) rfl ?_
  intro p e s m args below meth c A E hr
  rw [f_X6_remembered] at h
  refine j_aload_n E 0 rfl rfl dX6_remembered_0 ?_
  refine j_iconst E (kc_0) dX6_remembered_1 ?_
  obtain ⟨s1, es1, h⟩ := jle h
  refine j_put E 0 (wM_g0 ad cI cZ _) rfl 0 (ty := .int) (wM_p0_0 ad cI cZ _ _) tyX6_ok nmX6 in_X6_remembered_X6 (by decide) (List.mem_of_getElem? (i := 1) rfl) (fun _ h9 => h9) rfl (tyX6_ok 0 (by decide)) rfl rfl (Nat.le_of_ble_eq_true rfl) dX6_remembered_2 ?_
  refine j_st es1 ?_
  refine j_aload_n E 0 rfl rfl dX6_remembered_5 ?_
  obtain ⟨r2, er2, h⟩ := jbd h
  refine j_callVi E (As := []) (c_X6_countAll er2) (cwV 0 E.1.2.2.2.2 gX6_remembered_X6_countAll rfl rfl rfl (by decide +kernel) ⟨Nat.le_of_ble_eq_true rfl, Nat.le_of_ble_eq_true rfl⟩) (wM_g0 ad cI cZ _) rfl rfl rfl (Nat.le_of_ble_eq_true rfl) ⟨Nat.zero_le _, Nat.zero_le _⟩ dX6_remembered_6 ?_
  exact j_iret E hr rfl (Option.some.inj h) dX6_remembered_9
abbrev rm_X6_forget : Room := { frames := 2, cells := 0, slots := 0, locals := 44 }
theorem in_X6_forget_X6 : ∀ w ∈ u_ws RX6 TX6 29, w ∈ wsX6_forget := fun w h => (List.mem_cons_of_mem _ (List.mem_append_right _ h))
def f_X6_forget (st : jS)  : Option (Int32 × jS) :=
  jl (jis st 0 0) fun s1 =>
  (f_X6_forgetAll s1).bind fun r2 =>
  some (r2.1, r2.2)
set_option maxHeartbeats 4000000 in
set_option maxRecDepth 100000 in
theorem c_X6_forget {l : Launch} {D : va_G} {ad : Nat → Nat} {cI cZ : ClassId} {st : jS}  {o : (Int32 × jS)} (h : f_X6_forget st = some o) : CtI l D (jT cI cZ) (wM ad cI cZ) yX6_forget wsX6_forget (rm_X6_forget) [.ref (ad 0)] st o.1 o.2 := by
  refine ctI_of (o := o) (cc := cX6_forget) (nL := 1) (own := RX6) (by decide) rfl rfl (Nat.le_of_ble_eq_true rfl) (lv0 := [(0, .ref (ad 0))]) rfl ?_
  intro p e s m args below meth c A E hr
  rw [f_X6_forget] at h
  refine j_aload_n E 0 rfl rfl dX6_forget_0 ?_
  refine j_iconst E (kc_0) dX6_forget_1 ?_
  obtain ⟨s1, es1, h⟩ := jle h
  refine j_put E 0 (wM_g0 ad cI cZ _) rfl 0 (ty := .int) (wM_p0_0 ad cI cZ _ _) tyX6_ok nmX6 in_X6_forget_X6 (by decide) (List.mem_of_getElem? (i := 1) rfl) (fun _ h9 => h9) rfl (tyX6_ok 0 (by decide)) rfl rfl (Nat.le_of_ble_eq_true rfl) dX6_forget_2 ?_
  refine j_st es1 ?_
  refine j_aload_n E 0 rfl rfl dX6_forget_5 ?_
  obtain ⟨r2, er2, h⟩ := jbd h
  refine j_callVi E (As := []) (c_X6_forgetAll er2) (cwV 0 E.1.2.2.2.2 gX6_forget_X6_forgetAll rfl rfl rfl (by decide +kernel) ⟨Nat.le_of_ble_eq_true rfl, Nat.le_of_ble_eq_true rfl⟩) (wM_g0 ad cI cZ _) rfl rfl rfl (Nat.le_of_ble_eq_true rfl) ⟨Nat.zero_le _, Nat.zero_le _⟩ dX6_forget_6 ?_
  exact j_iret E hr rfl (Option.some.inj h) dX6_forget_9
