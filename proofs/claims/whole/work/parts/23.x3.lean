abbrev rm_X3_lookForRange : Room := { frames := 2, cells := 0, slots := 0, locals := 45 }
theorem in_X3_lookForRange_X3 : ∀ w ∈ u_ws RX3 TX3 9, w ∈ wsX3_lookForRange := fun w h => (List.mem_cons_of_mem _ (List.mem_append_left _ (List.mem_append_left _ (List.mem_append_right _ h))))
def f_X3_lookForRange (st : jS) (a1 : Int32) (a2 : Int32) (a3 : Int32) : Option (Int32 × jS) :=
  (f_X2_countLook st (a3 + 1)).bind fun r1 =>
  (f_X4_byteOrNone r1 a3).bind fun r2 =>
  if r2.1 < a1 then
    jl (jis r2.2 6 (if (r2.2.2 6) < a3 then a3 else (r2.2.2 6))) fun s4 =>
    some ((-1), s4)
  else
  if r2.1 > a2 then
    jl (jis r2.2 6 (if (r2.2.2 6) < a3 then a3 else (r2.2.2 6))) fun s6 =>
    some ((-1), s6)
  else
  some ((a3 + 1), r2.2)
set_option maxHeartbeats 4000000 in
set_option maxRecDepth 100000 in
theorem c_X3_lookForRange {l : Launch} {D : va_G} {ad : Nat → Nat} {cI cZ : ClassId} {st : jS} {a1 : Int32} {a2 : Int32} {a3 : Int32} {o : (Int32 × jS)} (h : f_X3_lookForRange st a1 a2 a3 = some o) : CtI l D (jT cI cZ) (wX ad cI cZ) yX3_lookForRange wsX3_lookForRange (rm_X3_lookForRange) [.ref (ad 7), .int a1, .int a2, .int a3] st o.1 o.2 := by
  refine ctI_of (o := o) (cc := cX3_lookForRange) (nL := 5) (own := RX3) (by decide) rfl rfl (Nat.le_of_ble_eq_true rfl) (lv0 := [(0, .ref (ad 7)), (1, .int a1), (2, .int a2), (3, .int a3)]) rfl ?_
  intro p e s m args below meth c A E hr
  rw [f_X3_lookForRange] at h
  refine j_aload_n E 0 rfl rfl dX3_lookForRange_0 ?_
  refine j_get E 7 (wX_g7 ad cI cZ _) rfl 3 rfl in_X3_lookForRange_X3 (by decide) (List.mem_of_getElem? (i := 1) rfl) (fun _ h9 => h9) dX3_lookForRange_1 ?_
  refine j_iload_n E 3 rfl rfl dX3_lookForRange_4 ?_
  refine j_iconst E (kc_1) dX3_lookForRange_5 ?_
  refine j_iadd E dX3_lookForRange_6 ?_
  obtain ⟨r1, er1, h⟩ := jbd h
  refine j_callVv E (As := [.int (a3 + 1)]) (c_X2_countLook er1) (cwV 1 E.1.2.2.2.2 gX3_lookForRange_X2_countLook rfl rfl rfl (by decide +kernel) ⟨Nat.le_of_ble_eq_true rfl, Nat.le_of_ble_eq_true rfl⟩) (wX_g15 ad cI cZ _) rfl rfl rfl (Nat.le_of_ble_eq_true rfl) ⟨Nat.zero_le _, Nat.zero_le _⟩ dX3_lookForRange_7 ?_
  refine j_aload_n E 0 rfl rfl dX3_lookForRange_10 ?_
  refine j_get E 7 (wX_g7 ad cI cZ _) rfl 1 rfl in_X3_lookForRange_X3 (by decide) (List.mem_of_getElem? (i := 2) rfl) (fun _ h9 => h9) dX3_lookForRange_11 ?_
  refine j_iload_n E 3 rfl rfl dX3_lookForRange_14 ?_
  obtain ⟨r2, er2, h⟩ := jbd h
  refine j_callVi E (As := [.int a3]) (c_X4_byteOrNone er2) (cwV 1 E.1.2.2.2.2 gX3_lookForRange_X4_byteOrNone rfl rfl rfl (by decide +kernel) ⟨Nat.le_of_ble_eq_true rfl, Nat.le_of_ble_eq_true rfl⟩) (wX_g9 ad cI cZ _) rfl rfl rfl (Nat.le_of_ble_eq_true rfl) ⟨Nat.zero_le _, Nat.zero_le _⟩ dX3_lookForRange_15 ?_
  refine j_istore E (by decide) (lv' := [(4, .int r2.1), (0, .ref (ad 7)), (1, .int a1), (2, .int a2), (3, .int a3)]) rfl dX3_lookForRange_18 ?_
  refine j_iload E 0 rfl dX3_lookForRange_20 ?_
  refine j_iload_n E 2 rfl rfl dX3_lookForRange_22 ?_
  refine j_icmp_lt E (tgt := 36) (by decide) dX3_lookForRange_23 (fun c3 => ?_) (fun c3 => ?_)
  · have h := jit h c3
    refine j_aload_n E 1 rfl rfl dX3_lookForRange_36 ?_
    refine j_aload_n E 1 rfl rfl dX3_lookForRange_37 ?_
    refine j_get E 7 (wX_g7 ad cI cZ _) rfl 7 rfl in_X3_lookForRange_X3 (by decide) (List.mem_of_getElem? (i := 3) rfl) (fun _ h9 => h9) dX3_lookForRange_38 ?_
    refine j_iload_n E 4 rfl rfl dX3_lookForRange_41 ?_
    refine j_mmax E (List.mem_of_getElem? (i := 4) rfl) (List.mem_of_getElem? (i := 5) rfl) (List.mem_of_getElem? (i := 6) rfl) (List.mem_of_getElem? (i := 7) rfl) (Nat.le_of_ble_eq_true rfl) (Nat.le_of_ble_eq_true rfl) ⟨Nat.zero_le _, Nat.zero_le _⟩ dX3_lookForRange_42 ?_
    obtain ⟨s4, es4, h⟩ := jle h
    refine j_put E 7 (wX_g7 ad cI cZ _) rfl 7 (ty := .int) (wX_p7_7 ad cI cZ _ _) tyX3_ok nmX3 in_X3_lookForRange_X3 (by decide) (List.mem_of_getElem? (i := 3) rfl) (fun _ h9 => h9) rfl (tyX3_ok 7 (by decide)) rfl rfl (Nat.le_of_ble_eq_true rfl) dX3_lookForRange_45 ?_
    refine j_st es4 ?_
    refine j_iconst E (kc_m1) dX3_lookForRange_48 ?_
    exact j_iret E hr rfl (Option.some.inj h) dX3_lookForRange_49
  · have h := jif h c3
    refine j_iload E 0 rfl dX3_lookForRange_26 ?_
    refine j_iload_n E 3 rfl rfl dX3_lookForRange_28 ?_
    refine j_icmp_gt E (tgt := 36) (by decide) dX3_lookForRange_29 (fun c5 => ?_) (fun c5 => ?_)
    · have h := jit h c5
      refine j_aload_n E 1 rfl rfl dX3_lookForRange_36 ?_
      refine j_aload_n E 1 rfl rfl dX3_lookForRange_37 ?_
      refine j_get E 7 (wX_g7 ad cI cZ _) rfl 7 rfl in_X3_lookForRange_X3 (by decide) (List.mem_of_getElem? (i := 3) rfl) (fun _ h9 => h9) dX3_lookForRange_38 ?_
      refine j_iload_n E 4 rfl rfl dX3_lookForRange_41 ?_
      refine j_mmax E (List.mem_of_getElem? (i := 4) rfl) (List.mem_of_getElem? (i := 5) rfl) (List.mem_of_getElem? (i := 6) rfl) (List.mem_of_getElem? (i := 7) rfl) (Nat.le_of_ble_eq_true rfl) (Nat.le_of_ble_eq_true rfl) ⟨Nat.zero_le _, Nat.zero_le _⟩ dX3_lookForRange_42 ?_
      obtain ⟨s6, es6, h⟩ := jle h
      refine j_put E 7 (wX_g7 ad cI cZ _) rfl 7 (ty := .int) (wX_p7_7 ad cI cZ _ _) tyX3_ok nmX3 in_X3_lookForRange_X3 (by decide) (List.mem_of_getElem? (i := 3) rfl) (fun _ h9 => h9) rfl (tyX3_ok 7 (by decide)) rfl rfl (Nat.le_of_ble_eq_true rfl) dX3_lookForRange_45 ?_
      refine j_st es6 ?_
      refine j_iconst E (kc_m1) dX3_lookForRange_48 ?_
      exact j_iret E hr rfl (Option.some.inj h) dX3_lookForRange_49
    · have h := jif h c5
      refine j_iload_n E 4 rfl rfl dX3_lookForRange_32 ?_
      refine j_iconst E (kc_1) dX3_lookForRange_33 ?_
      refine j_iadd E dX3_lookForRange_34 ?_
      exact j_iret E hr rfl (Option.some.inj h) dX3_lookForRange_35
abbrev rm_X3_knownResult : Room := { frames := 3, cells := 0, slots := 0, locals := 66 }
theorem in_X3_knownResult_X0 : ∀ w ∈ u_ws RX0 TX0 8, w ∈ wsX3_knownResult := fun w h => (List.mem_cons_of_mem _ (List.mem_append_left _ (List.mem_append_left _ (List.mem_append_right _ h))))
theorem in_X3_knownResult_X1 : ∀ w ∈ u_ws RX1 TX1 3, w ∈ wsX3_knownResult := fun w h => (List.mem_cons_of_mem _ (List.mem_append_left _ (List.mem_append_right _ h)))
theorem in_X3_knownResult_X2 : ∀ w ∈ u_ws RX2 TX2 10, w ∈ wsX3_knownResult := fun w h => (List.mem_cons_of_mem _ (List.mem_append_right _ h))
theorem in_X3_knownResult_X3 : ∀ w ∈ u_ws RX3 TX3 9, w ∈ wsX3_knownResult := fun w h => (List.mem_cons_of_mem _ (List.mem_append_left _ (List.mem_append_left _ (List.mem_append_left _ (List.mem_append_right _ h)))))
def f_X3_knownResult (st : jS) (a1 : Int32) (a2 : Int32) : Option (Int32 × jS) :=
  bif job a1 10 then none else
  (f_X0_has st (jag st 5 a1)).bind fun r2 =>
  if r2.1 = 0 then
    some ((-1), r2.2)
  else
  (f_X5_cell a1 a2).bind fun r4 =>
  (f_X1_holds r2.2 r4).bind fun r5 =>
  if r5.1 = 0 then
    bif job r4 410 then none else
    jl (jag r5.2 23 r4) fun x8 =>
    if x8 = (-1) then
      some ((-4), r5.2)
    else
    (f_X2_askSeed r5.2 x8).bind fun r10 =>
    some (r10.1, r10.2)
  else
  bif job r4 410 then none else
  (f_X2_hasOneOf r5.2 (jag r5.2 14 r4) a2).bind fun r12 =>
  if r12.1 = 0 then
    jl (jis r12.2 4 ((r12.2.2 4) + 1)) fun s18 =>
    bif job r4 410 then none else
    (f_X2_countLook s18 (jag s18 13 r4)).bind fun r20 =>
    bif job r4 410 then none else
    (f_X2_countNames r20 (jag r20 14 r4) a2).bind fun r22 =>
    bif job r4 410 then none else
    some ((jag r22 12 r4), r22)
  else
  bif job r4 410 then none else
  jl (jag r12.2 23 r4) fun x15 =>
  if x15 = (-1) then
    some ((-4), r12.2)
  else
  (f_X2_askSeed r12.2 x15).bind fun r17 =>
  some (r17.1, r17.2)
set_option maxHeartbeats 4000000 in
set_option maxRecDepth 100000 in
theorem c_X3_knownResult {l : Launch} {D : va_G} {ad : Nat → Nat} {cI cZ : ClassId} {st : jS} {a1 : Int32} {a2 : Int32} {o : (Int32 × jS)} (h : f_X3_knownResult st a1 a2 = some o) : CtI l D (jT cI cZ) (wX ad cI cZ) yX3_knownResult wsX3_knownResult (rm_X3_knownResult) [.ref (ad 7), .int a1, .int a2] st o.1 o.2 := by
  refine ctI_of (o := o) (cc := cX3_knownResult) (nL := 5) (own := RX3) (by decide) rfl rfl (Nat.le_of_ble_eq_true rfl) (lv0 := [(0, .ref (ad 7)), (1, .int a1), (2, .int a2)]) rfl ?_
  intro p e s m args below meth c A E hr
  rw [f_X3_knownResult] at h
  refine j_aload_n E 0 rfl rfl dX3_knownResult_0 ?_
  refine j_get E 7 (wX_g7 ad cI cZ _) rfl 0 rfl in_X3_knownResult_X3 (by decide) (List.mem_of_getElem? (i := 1) rfl) (fun _ h9 => h9) dX3_knownResult_1 ?_
  refine j_aload_n E 0 rfl rfl dX3_knownResult_4 ?_
  refine j_get E 7 (wX_g7 ad cI cZ _) rfl 0 rfl in_X3_knownResult_X3 (by decide) (List.mem_of_getElem? (i := 1) rfl) (fun _ h9 => h9) dX3_knownResult_5 ?_
  refine j_getN E 1 (wX_g1 ad cI cZ _) rfl 3 rfl in_X3_knownResult_X0 (by decide) (E.2.2.2.1.1 _ (List.mem_of_getElem? (i := 8) rfl)) (fun _ h9 => h9) dX3_knownResult_8 ?_
  refine j_iload_n E 1 rfl rfl dX3_knownResult_11 ?_
  obtain ⟨b1, h⟩ := job_else h
  refine j_iald E 5 0 (wX_g5 ad cI cZ _) rfl b1 dX3_knownResult_12 ?_
  obtain ⟨r2, er2, h⟩ := jbd h
  refine j_callVi E (As := [.int (jag st 5 a1)]) (c_X0_has er2) (cwV 1 E.1.2.2.2.2 gX3_knownResult_X0_has rfl rfl rfl (by decide +kernel) ⟨Nat.le_of_ble_eq_true rfl, Nat.le_of_ble_eq_true rfl⟩) (wX_g1 ad cI cZ _) rfl rfl rfl (Nat.le_of_ble_eq_true rfl) ⟨Nat.zero_le _, Nat.zero_le _⟩ dX3_knownResult_13 ?_
  refine j_if_ne E (tgt := 21) (by decide) dX3_knownResult_16 (fun c3 => ?_) (fun c3 => ?_)
  · have h := jif h c3
    refine j_iload_n E 1 rfl rfl dX3_knownResult_21 ?_
    refine j_iload_n E 2 rfl rfl dX3_knownResult_22 ?_
    obtain ⟨r4, er4, h⟩ := jbd h
    refine j_callSNi E (As := [.int a1, .int a2]) (c_X5_cell er4) ⟨va_cnB 2 E.1.2.2.2.2 gX3_knownResult_X5_cell_n137 rfl rfl rfl (E.2.2.2.1.2 _ (List.mem_of_getElem? (i := 6) rfl)) (E.1.2.2.2.2 _ (List.mem_of_getElem? (i := 12) rfl)) (by decide +kernel) ⟨Nat.le_of_ble_eq_true rfl, Nat.le_of_ble_eq_true rfl⟩, E.1.2.2.2.2 _ (List.mem_of_getElem? (i := 11) rfl), trivial⟩ rfl rfl (Nat.le_of_ble_eq_true rfl) ⟨Nat.zero_le _, Nat.zero_le _⟩ dX3_knownResult_23 ?_
    refine j_istore_n E rfl (by decide) (lv' := [(3, .int r4), (0, .ref (ad 7)), (1, .int a1), (2, .int a2)]) rfl dX3_knownResult_26 ?_
    refine j_aload_n E 1 rfl rfl dX3_knownResult_27 ?_
    refine j_get E 7 (wX_g7 ad cI cZ _) rfl 2 rfl in_X3_knownResult_X3 (by decide) (List.mem_of_getElem? (i := 2) rfl) (fun _ h9 => h9) dX3_knownResult_28 ?_
    refine j_iload_n E 0 rfl rfl dX3_knownResult_31 ?_
    obtain ⟨r5, er5, h⟩ := jbd h
    refine j_callVi E (As := [.int r4]) (c_X1_holds er5) (cwV 1 E.1.2.2.2.2 gX3_knownResult_X1_holds rfl rfl rfl (by decide +kernel) ⟨Nat.le_of_ble_eq_true rfl, Nat.le_of_ble_eq_true rfl⟩) (wX_g11 ad cI cZ _) rfl rfl rfl (Nat.le_of_ble_eq_true rfl) ⟨Nat.zero_le _, Nat.zero_le _⟩ dX3_knownResult_32 ?_
    refine j_if_eq E (tgt := 111) (by decide) dX3_knownResult_35 (fun c6 => ?_) (fun c6 => ?_)
    · have h := jit h c6
      refine j_aload_n E 1 rfl rfl dX3_knownResult_111 ?_
      refine j_get E 7 (wX_g7 ad cI cZ _) rfl 3 rfl in_X3_knownResult_X3 (by decide) (List.mem_of_getElem? (i := 3) rfl) (fun _ h9 => h9) dX3_knownResult_112 ?_
      refine j_getN E 15 (wX_g15 ad cI cZ _) rfl 7 rfl in_X3_knownResult_X2 (by decide) (E.2.2.2.1.1 _ (List.mem_of_getElem? (i := 14) rfl)) (fun _ h9 => h9) dX3_knownResult_115 ?_
      refine j_iload_n E 0 rfl rfl dX3_knownResult_118 ?_
      obtain ⟨b7, h⟩ := job_else h
      refine j_iald E 23 0 (wX_g23 ad cI cZ _) rfl b7 dX3_knownResult_119 ?_
      obtain ⟨x8, ex8, h⟩ := jle h
      refine j_topi ex8 ?_
      refine j_istore E (by decide) (lv' := [(4, .int x8), (3, .int r4), (0, .ref (ad 7)), (1, .int a1), (2, .int a2)]) rfl dX3_knownResult_120 ?_
      refine j_iload E 0 rfl dX3_knownResult_122 ?_
      refine j_iconst E (kc_m1) dX3_knownResult_124 ?_
      refine j_icmp_ne E (tgt := 133) (by decide) dX3_knownResult_125 (fun c9 => ?_) (fun c9 => ?_)
      · have h := jif h c9
        refine j_aload_n E 2 rfl rfl dX3_knownResult_133 ?_
        refine j_get E 7 (wX_g7 ad cI cZ _) rfl 3 rfl in_X3_knownResult_X3 (by decide) (List.mem_of_getElem? (i := 3) rfl) (fun _ h9 => h9) dX3_knownResult_134 ?_
        refine j_iload E 0 rfl dX3_knownResult_137 ?_
        obtain ⟨r10, er10, h⟩ := jbd h
        refine j_callVi E (As := [.int x8]) (c_X2_askSeed er10) (cwV 1 E.1.2.2.2.2 gX3_knownResult_X2_askSeed rfl rfl rfl (by decide +kernel) ⟨Nat.le_of_ble_eq_true rfl, Nat.le_of_ble_eq_true rfl⟩) (wX_g15 ad cI cZ _) rfl rfl rfl (Nat.le_of_ble_eq_true rfl) ⟨Nat.zero_le _, Nat.zero_le _⟩ dX3_knownResult_139 ?_
        exact j_iret E hr rfl (Option.some.inj h) dX3_knownResult_142
      · have h := jit h c9
        refine j_bipush E (kb_m4) dX3_knownResult_128 ?_
        refine j_goto E (tgt := 142) (by decide) dX3_knownResult_130 ?_
        exact j_iret E hr rfl (Option.some.inj h) dX3_knownResult_142
    · have h := jif h c6
      refine j_aload_n E 1 rfl rfl dX3_knownResult_38 ?_
      refine j_get E 7 (wX_g7 ad cI cZ _) rfl 3 rfl in_X3_knownResult_X3 (by decide) (List.mem_of_getElem? (i := 3) rfl) (fun _ h9 => h9) dX3_knownResult_39 ?_
      refine j_aload_n E 1 rfl rfl dX3_knownResult_42 ?_
      refine j_get E 7 (wX_g7 ad cI cZ _) rfl 2 rfl in_X3_knownResult_X3 (by decide) (List.mem_of_getElem? (i := 2) rfl) (fun _ h9 => h9) dX3_knownResult_43 ?_
      refine j_getN E 11 (wX_g11 ad cI cZ _) rfl 2 rfl in_X3_knownResult_X1 (by decide) (E.2.2.2.1.1 _ (List.mem_of_getElem? (i := 11) rfl)) (fun _ h9 => h9) dX3_knownResult_46 ?_
      refine j_iload_n E 0 rfl rfl dX3_knownResult_49 ?_
      obtain ⟨b11, h⟩ := job_else h
      refine j_iald E 14 0 (wX_g14 ad cI cZ _) rfl b11 dX3_knownResult_50 ?_
      refine j_iload_n E 3 rfl rfl dX3_knownResult_51 ?_
      obtain ⟨r12, er12, h⟩ := jbd h
      refine j_callVi E (As := [.int (jag r5.2 14 r4), .int a2]) (c_X2_hasOneOf er12) (cwV 2 E.1.2.2.2.2 gX3_knownResult_X2_hasOneOf rfl rfl rfl (by decide +kernel) ⟨Nat.le_of_ble_eq_true rfl, Nat.le_of_ble_eq_true rfl⟩) (wX_g15 ad cI cZ _) rfl rfl rfl (Nat.le_of_ble_eq_true rfl) ⟨Nat.zero_le _, Nat.zero_le _⟩ dX3_knownResult_52 ?_
      refine j_if_ne E (tgt := 111) (by decide) dX3_knownResult_55 (fun c13 => ?_) (fun c13 => ?_)
      · have h := jif h c13
        refine j_aload_n E 1 rfl rfl dX3_knownResult_111 ?_
        refine j_get E 7 (wX_g7 ad cI cZ _) rfl 3 rfl in_X3_knownResult_X3 (by decide) (List.mem_of_getElem? (i := 3) rfl) (fun _ h9 => h9) dX3_knownResult_112 ?_
        refine j_getN E 15 (wX_g15 ad cI cZ _) rfl 7 rfl in_X3_knownResult_X2 (by decide) (E.2.2.2.1.1 _ (List.mem_of_getElem? (i := 14) rfl)) (fun _ h9 => h9) dX3_knownResult_115 ?_
        refine j_iload_n E 0 rfl rfl dX3_knownResult_118 ?_
        obtain ⟨b14, h⟩ := job_else h
        refine j_iald E 23 0 (wX_g23 ad cI cZ _) rfl b14 dX3_knownResult_119 ?_
        obtain ⟨x15, ex15, h⟩ := jle h
        refine j_topi ex15 ?_
        refine j_istore E (by decide) (lv' := [(4, .int x15), (3, .int r4), (0, .ref (ad 7)), (1, .int a1), (2, .int a2)]) rfl dX3_knownResult_120 ?_
        refine j_iload E 0 rfl dX3_knownResult_122 ?_
        refine j_iconst E (kc_m1) dX3_knownResult_124 ?_
        refine j_icmp_ne E (tgt := 133) (by decide) dX3_knownResult_125 (fun c16 => ?_) (fun c16 => ?_)
        · have h := jif h c16
          refine j_aload_n E 2 rfl rfl dX3_knownResult_133 ?_
          refine j_get E 7 (wX_g7 ad cI cZ _) rfl 3 rfl in_X3_knownResult_X3 (by decide) (List.mem_of_getElem? (i := 3) rfl) (fun _ h9 => h9) dX3_knownResult_134 ?_
          refine j_iload E 0 rfl dX3_knownResult_137 ?_
          obtain ⟨r17, er17, h⟩ := jbd h
          refine j_callVi E (As := [.int x15]) (c_X2_askSeed er17) (cwV 1 E.1.2.2.2.2 gX3_knownResult_X2_askSeed rfl rfl rfl (by decide +kernel) ⟨Nat.le_of_ble_eq_true rfl, Nat.le_of_ble_eq_true rfl⟩) (wX_g15 ad cI cZ _) rfl rfl rfl (Nat.le_of_ble_eq_true rfl) ⟨Nat.zero_le _, Nat.zero_le _⟩ dX3_knownResult_139 ?_
          exact j_iret E hr rfl (Option.some.inj h) dX3_knownResult_142
        · have h := jit h c16
          refine j_bipush E (kb_m4) dX3_knownResult_128 ?_
          refine j_goto E (tgt := 142) (by decide) dX3_knownResult_130 ?_
          exact j_iret E hr rfl (Option.some.inj h) dX3_knownResult_142
      · have h := jit h c13
        refine j_aload_n E 1 rfl rfl dX3_knownResult_58 ?_
        refine j_dup E rfl dX3_knownResult_59 ?_
        refine j_get E 7 (wX_g7 ad cI cZ _) rfl 5 rfl in_X3_knownResult_X3 (by decide) (List.mem_of_getElem? (i := 4) rfl) (fun _ h9 => h9) dX3_knownResult_60 ?_
        refine j_iconst E (kc_1) dX3_knownResult_63 ?_
        refine j_iadd E dX3_knownResult_64 ?_
        obtain ⟨s18, es18, h⟩ := jle h
        refine j_put E 7 (wX_g7 ad cI cZ _) rfl 5 (ty := .int) (wX_p7_5 ad cI cZ _ _) tyX3_ok nmX3 in_X3_knownResult_X3 (by decide) (List.mem_of_getElem? (i := 4) rfl) (fun _ h9 => h9) rfl (tyX3_ok 5 (by decide)) rfl rfl (Nat.le_of_ble_eq_true rfl) dX3_knownResult_65 ?_
        refine j_st es18 ?_
        refine j_aload_n E 1 rfl rfl dX3_knownResult_68 ?_
        refine j_get E 7 (wX_g7 ad cI cZ _) rfl 3 rfl in_X3_knownResult_X3 (by decide) (List.mem_of_getElem? (i := 3) rfl) (fun _ h9 => h9) dX3_knownResult_69 ?_
        refine j_aload_n E 1 rfl rfl dX3_knownResult_72 ?_
        refine j_get E 7 (wX_g7 ad cI cZ _) rfl 2 rfl in_X3_knownResult_X3 (by decide) (List.mem_of_getElem? (i := 2) rfl) (fun _ h9 => h9) dX3_knownResult_73 ?_
        refine j_getN E 11 (wX_g11 ad cI cZ _) rfl 1 rfl in_X3_knownResult_X1 (by decide) (E.2.2.2.1.1 _ (List.mem_of_getElem? (i := 12) rfl)) (fun _ h9 => h9) dX3_knownResult_76 ?_
        refine j_iload_n E 0 rfl rfl dX3_knownResult_79 ?_
        obtain ⟨b19, h⟩ := job_else h
        refine j_iald E 13 0 (wX_g13 ad cI cZ _) rfl b19 dX3_knownResult_80 ?_
        obtain ⟨r20, er20, h⟩ := jbd h
        refine j_callVv E (As := [.int (jag s18 13 r4)]) (c_X2_countLook er20) (cwV 1 E.1.2.2.2.2 gX3_knownResult_X2_countLook rfl rfl rfl (by decide +kernel) ⟨Nat.le_of_ble_eq_true rfl, Nat.le_of_ble_eq_true rfl⟩) (wX_g15 ad cI cZ _) rfl rfl rfl (Nat.le_of_ble_eq_true rfl) ⟨Nat.zero_le _, Nat.zero_le _⟩ dX3_knownResult_81 ?_
        refine j_aload_n E 1 rfl rfl dX3_knownResult_84 ?_
        refine j_get E 7 (wX_g7 ad cI cZ _) rfl 3 rfl in_X3_knownResult_X3 (by decide) (List.mem_of_getElem? (i := 3) rfl) (fun _ h9 => h9) dX3_knownResult_85 ?_
        refine j_aload_n E 1 rfl rfl dX3_knownResult_88 ?_
        refine j_get E 7 (wX_g7 ad cI cZ _) rfl 2 rfl in_X3_knownResult_X3 (by decide) (List.mem_of_getElem? (i := 2) rfl) (fun _ h9 => h9) dX3_knownResult_89 ?_
        refine j_getN E 11 (wX_g11 ad cI cZ _) rfl 2 rfl in_X3_knownResult_X1 (by decide) (E.2.2.2.1.1 _ (List.mem_of_getElem? (i := 11) rfl)) (fun _ h9 => h9) dX3_knownResult_92 ?_
        refine j_iload_n E 0 rfl rfl dX3_knownResult_95 ?_
        obtain ⟨b21, h⟩ := job_else h
        refine j_iald E 14 0 (wX_g14 ad cI cZ _) rfl b21 dX3_knownResult_96 ?_
        refine j_iload_n E 3 rfl rfl dX3_knownResult_97 ?_
        obtain ⟨r22, er22, h⟩ := jbd h
        refine j_callVv E (As := [.int (jag r20 14 r4), .int a2]) (c_X2_countNames er22) (cwV 2 E.1.2.2.2.2 gX3_knownResult_X2_countNames rfl rfl rfl (by decide +kernel) ⟨Nat.le_of_ble_eq_true rfl, Nat.le_of_ble_eq_true rfl⟩) (wX_g15 ad cI cZ _) rfl rfl rfl (Nat.le_of_ble_eq_true rfl) ⟨Nat.zero_le _, Nat.zero_le _⟩ dX3_knownResult_98 ?_
        refine j_aload_n E 1 rfl rfl dX3_knownResult_101 ?_
        refine j_get E 7 (wX_g7 ad cI cZ _) rfl 2 rfl in_X3_knownResult_X3 (by decide) (List.mem_of_getElem? (i := 2) rfl) (fun _ h9 => h9) dX3_knownResult_102 ?_
        refine j_getN E 11 (wX_g11 ad cI cZ _) rfl 0 rfl in_X3_knownResult_X1 (by decide) (E.2.2.2.1.1 _ (List.mem_of_getElem? (i := 13) rfl)) (fun _ h9 => h9) dX3_knownResult_105 ?_
        refine j_iload_n E 0 rfl rfl dX3_knownResult_108 ?_
        obtain ⟨b23, h⟩ := job_else h
        refine j_iald E 12 0 (wX_g12 ad cI cZ _) rfl b23 dX3_knownResult_109 ?_
        exact j_iret E hr rfl (Option.some.inj h) dX3_knownResult_110
  · have h := jit h c3
    refine j_iconst E (kc_m1) dX3_knownResult_19 ?_
    exact j_iret E hr rfl (Option.some.inj h) dX3_knownResult_20
abbrev rm_X3_finish : Room := { frames := 3, cells := 0, slots := 0, locals := 67 }
theorem in_X3_finish_X2 : ∀ w ∈ u_ws RX2 TX2 10, w ∈ wsX3_finish := fun w h => (List.mem_cons_of_mem _ (List.mem_append_left _ (List.mem_append_right _ h)))
theorem in_X3_finish_X3 : ∀ w ∈ u_ws RX3 TX3 9, w ∈ wsX3_finish := fun w h => (List.mem_cons_of_mem _ (List.mem_append_left _ (List.mem_append_left _ (List.mem_append_right _ h))))
def f_X3_finish (st : jS) (a1 : Int32) (a2 : Int32) : Option jS :=
  if a2 = (-2) then
    (f_X2_end st).bind fun r2 =>
    some r2
  else
  (f_X2_askedEarlierOne st a1).bind fun r3 =>
  if r3.1 = 0 then
    bif job a1 101 then none else
    bif job a1 101 then none else
    (f_X5_cell (jag r3.2 16 a1) (jag r3.2 17 a1)).bind fun r8 =>
    bif job a1 101 then none else
    bif job a1 101 then none else
    (f_X1_put r3.2 r8 a2 (jag r3.2 20 a1) (jag r3.2 21 a1)).bind fun r11 =>
    (f_X2_end r11).bind fun r12 =>
    some r12
  else
  (f_X2_end r3.2).bind fun r5 =>
  some r5
set_option maxHeartbeats 4000000 in
set_option maxRecDepth 100000 in
theorem c_X3_finish {l : Launch} {D : va_G} {ad : Nat → Nat} {cI cZ : ClassId} {st : jS} {a1 : Int32} {a2 : Int32} {o : jS} (h : f_X3_finish st a1 a2 = some o) : CtV l D (jT cI cZ) (wX ad cI cZ) yX3_finish wsX3_finish (rm_X3_finish) [.ref (ad 7), .int a1, .int a2] st o := by
  refine ctV_of (o := o) (cc := cX3_finish) (nL := 4) (own := RX3) (by decide) rfl rfl (Nat.le_of_ble_eq_true rfl) (lv0 := [(0, .ref (ad 7)), (1, .int a1), (2, .int a2)]) rfl ?_
  intro p e s m args below meth c A E hr
  rw [f_X3_finish] at h
  refine j_iload_n E 2 rfl rfl dX3_finish_0 ?_
  refine j_bipush E (kb_m2) dX3_finish_1 ?_
  refine j_icmp_eq E (tgt := 66) (by decide) dX3_finish_3 (fun c1 => ?_) (fun c1 => ?_)
  · have h := jit h c1
    refine j_aload_n E 0 rfl rfl dX3_finish_66 ?_
    refine j_get E 7 (wX_g7 ad cI cZ _) rfl 3 rfl in_X3_finish_X3 (by decide) (List.mem_of_getElem? (i := 1) rfl) (fun _ h9 => h9) dX3_finish_67 ?_
    obtain ⟨r2, er2, h⟩ := jbd h
    refine j_callVv E (As := []) (c_X2_end er2) (cwV 0 E.1.2.2.2.2 gX3_finish_X2_end rfl rfl rfl (by decide +kernel) ⟨Nat.le_of_ble_eq_true rfl, Nat.le_of_ble_eq_true rfl⟩) (wX_g15 ad cI cZ _) rfl rfl rfl (Nat.le_of_ble_eq_true rfl) ⟨Nat.zero_le _, Nat.zero_le _⟩ dX3_finish_70 ?_
    exact j_vret E hr (Option.some.inj h) dX3_finish_73
  · have h := jif h c1
    refine j_aload_n E 0 rfl rfl dX3_finish_6 ?_
    refine j_get E 7 (wX_g7 ad cI cZ _) rfl 3 rfl in_X3_finish_X3 (by decide) (List.mem_of_getElem? (i := 1) rfl) (fun _ h9 => h9) dX3_finish_7 ?_
    refine j_iload_n E 1 rfl rfl dX3_finish_10 ?_
    obtain ⟨r3, er3, h⟩ := jbd h
    refine j_callVi E (As := [.int a1]) (c_X2_askedEarlierOne er3) (cwV 1 E.1.2.2.2.2 gX3_finish_X2_askedEarlierOne rfl rfl rfl (by decide +kernel) ⟨Nat.le_of_ble_eq_true rfl, Nat.le_of_ble_eq_true rfl⟩) (wX_g15 ad cI cZ _) rfl rfl rfl (Nat.le_of_ble_eq_true rfl) ⟨Nat.zero_le _, Nat.zero_le _⟩ dX3_finish_11 ?_
    refine j_if_ne E (tgt := 66) (by decide) dX3_finish_14 (fun c4 => ?_) (fun c4 => ?_)
    · have h := jif h c4
      refine j_aload_n E 0 rfl rfl dX3_finish_66 ?_
      refine j_get E 7 (wX_g7 ad cI cZ _) rfl 3 rfl in_X3_finish_X3 (by decide) (List.mem_of_getElem? (i := 1) rfl) (fun _ h9 => h9) dX3_finish_67 ?_
      obtain ⟨r5, er5, h⟩ := jbd h
      refine j_callVv E (As := []) (c_X2_end er5) (cwV 0 E.1.2.2.2.2 gX3_finish_X2_end rfl rfl rfl (by decide +kernel) ⟨Nat.le_of_ble_eq_true rfl, Nat.le_of_ble_eq_true rfl⟩) (wX_g15 ad cI cZ _) rfl rfl rfl (Nat.le_of_ble_eq_true rfl) ⟨Nat.zero_le _, Nat.zero_le _⟩ dX3_finish_70 ?_
      exact j_vret E hr (Option.some.inj h) dX3_finish_73
    · have h := jit h c4
      refine j_aload_n E 0 rfl rfl dX3_finish_17 ?_
      refine j_get E 7 (wX_g7 ad cI cZ _) rfl 3 rfl in_X3_finish_X3 (by decide) (List.mem_of_getElem? (i := 1) rfl) (fun _ h9 => h9) dX3_finish_18 ?_
      refine j_getN E 15 (wX_g15 ad cI cZ _) rfl 0 rfl in_X3_finish_X2 (by decide) (E.2.2.2.1.1 _ (List.mem_of_getElem? (i := 15) rfl)) (fun _ h9 => h9) dX3_finish_21 ?_
      refine j_iload_n E 1 rfl rfl dX3_finish_24 ?_
      obtain ⟨b6, h⟩ := job_else h
      refine j_iald E 16 0 (wX_g16 ad cI cZ _) rfl b6 dX3_finish_25 ?_
      refine j_aload_n E 0 rfl rfl dX3_finish_26 ?_
      refine j_get E 7 (wX_g7 ad cI cZ _) rfl 3 rfl in_X3_finish_X3 (by decide) (List.mem_of_getElem? (i := 1) rfl) (fun _ h9 => h9) dX3_finish_27 ?_
      refine j_getN E 15 (wX_g15 ad cI cZ _) rfl 1 rfl in_X3_finish_X2 (by decide) (E.2.2.2.1.1 _ (List.mem_of_getElem? (i := 16) rfl)) (fun _ h9 => h9) dX3_finish_30 ?_
      refine j_iload_n E 1 rfl rfl dX3_finish_33 ?_
      obtain ⟨b7, h⟩ := job_else h
      refine j_iald E 17 0 (wX_g17 ad cI cZ _) rfl b7 dX3_finish_34 ?_
      obtain ⟨r8, er8, h⟩ := jbd h
      refine j_callSNi E (As := [.int (jag r3.2 16 a1), .int (jag r3.2 17 a1)]) (c_X5_cell er8) ⟨va_cnB 2 E.1.2.2.2.2 gX3_finish_X5_cell_n137 rfl rfl rfl (E.2.2.2.1.2 _ (List.mem_of_getElem? (i := 6) rfl)) (E.1.2.2.2.2 _ (List.mem_of_getElem? (i := 10) rfl)) (by decide +kernel) ⟨Nat.le_of_ble_eq_true rfl, Nat.le_of_ble_eq_true rfl⟩, E.1.2.2.2.2 _ (List.mem_of_getElem? (i := 9) rfl), trivial⟩ rfl rfl (Nat.le_of_ble_eq_true rfl) ⟨Nat.zero_le _, Nat.zero_le _⟩ dX3_finish_35 ?_
      refine j_istore_n E rfl (by decide) (lv' := [(3, .int r8), (0, .ref (ad 7)), (1, .int a1), (2, .int a2)]) rfl dX3_finish_38 ?_
      refine j_aload_n E 1 rfl rfl dX3_finish_39 ?_
      refine j_get E 7 (wX_g7 ad cI cZ _) rfl 2 rfl in_X3_finish_X3 (by decide) (List.mem_of_getElem? (i := 2) rfl) (fun _ h9 => h9) dX3_finish_40 ?_
      refine j_iload_n E 0 rfl rfl dX3_finish_43 ?_
      refine j_iload_n E 3 rfl rfl dX3_finish_44 ?_
      refine j_aload_n E 1 rfl rfl dX3_finish_45 ?_
      refine j_get E 7 (wX_g7 ad cI cZ _) rfl 3 rfl in_X3_finish_X3 (by decide) (List.mem_of_getElem? (i := 1) rfl) (fun _ h9 => h9) dX3_finish_46 ?_
      refine j_getN E 15 (wX_g15 ad cI cZ _) rfl 4 rfl in_X3_finish_X2 (by decide) (E.2.2.2.1.1 _ (List.mem_of_getElem? (i := 17) rfl)) (fun _ h9 => h9) dX3_finish_49 ?_
      refine j_iload_n E 2 rfl rfl dX3_finish_52 ?_
      obtain ⟨b9, h⟩ := job_else h
      refine j_iald E 20 0 (wX_g20 ad cI cZ _) rfl b9 dX3_finish_53 ?_
      refine j_aload_n E 1 rfl rfl dX3_finish_54 ?_
      refine j_get E 7 (wX_g7 ad cI cZ _) rfl 3 rfl in_X3_finish_X3 (by decide) (List.mem_of_getElem? (i := 1) rfl) (fun _ h9 => h9) dX3_finish_55 ?_
      refine j_getN E 15 (wX_g15 ad cI cZ _) rfl 5 rfl in_X3_finish_X2 (by decide) (E.2.2.2.1.1 _ (List.mem_of_getElem? (i := 18) rfl)) (fun _ h9 => h9) dX3_finish_58 ?_
      refine j_iload_n E 2 rfl rfl dX3_finish_61 ?_
      obtain ⟨b10, h⟩ := job_else h
      refine j_iald E 21 0 (wX_g21 ad cI cZ _) rfl b10 dX3_finish_62 ?_
      obtain ⟨r11, er11, h⟩ := jbd h
      refine j_callVv E (As := [.int r8, .int a2, .int (jag r3.2 20 a1), .int (jag r3.2 21 a1)]) (c_X1_put er11) (cwV 4 E.1.2.2.2.2 gX3_finish_X1_put rfl rfl rfl (by decide +kernel) ⟨Nat.le_of_ble_eq_true rfl, Nat.le_of_ble_eq_true rfl⟩) (wX_g11 ad cI cZ _) rfl rfl rfl (Nat.le_of_ble_eq_true rfl) ⟨Nat.zero_le _, Nat.zero_le _⟩ dX3_finish_63 ?_
      refine j_aload_n E 1 rfl rfl dX3_finish_66 ?_
      refine j_get E 7 (wX_g7 ad cI cZ _) rfl 3 rfl in_X3_finish_X3 (by decide) (List.mem_of_getElem? (i := 1) rfl) (fun _ h9 => h9) dX3_finish_67 ?_
      obtain ⟨r12, er12, h⟩ := jbd h
      refine j_callVv E (As := []) (c_X2_end er12) (cwV 0 E.1.2.2.2.2 gX3_finish_X2_end rfl rfl rfl (by decide +kernel) ⟨Nat.le_of_ble_eq_true rfl, Nat.le_of_ble_eq_true rfl⟩) (wX_g15 ad cI cZ _) rfl rfl rfl (Nat.le_of_ble_eq_true rfl) ⟨Nat.zero_le _, Nat.zero_le _⟩ dX3_finish_70 ?_
      exact j_vret E hr (Option.some.inj h) dX3_finish_73
abbrev rm_X3_lookForSequence (d : Nat) : Room := rmXF d
theorem in_X3_lookForSequence_X3 : ∀ w ∈ u_ws RX3 TX3 9, w ∈ wsX3_lookForSequence := fun w h => (List.mem_cons_of_mem _ (List.mem_append_left _ (List.mem_append_left _ (List.mem_append_left _ (List.mem_append_left _ (List.mem_append_right _ h))))))
theorem rk_X3_lookForSequence_X3_look (d : Nat) : (rmXL d).frames + 1 ≤ (rm_X3_lookForSequence d).frames ∧ 8 + (6 + 11) + (rmXL d).locals ≤ (rm_X3_lookForSequence d).locals := ⟨by simp only [rm_X3_lookForSequence, rmXL, rmXF, rmXG]; omega, by simp only [rm_X3_lookForSequence, rmXL, rmXF, rmXG]; omega⟩
def f_X3_lookForSequence (lk : jS → Int32 → Int32 → Int32 → Option (Int32 × jS)) (st : jS) (a1 : Int32) (a2 : Int32) (a3 : Int32) (a4 : Int32) : Option (Int32 × jS) :=
  (lk st a1 a3 (a4 + 1)).bind fun r1 =>
  if r1.1 ≥ 0 then
    jl (r1.2.2 7) fun x3 =>
    (lk r1.2 a2 r1.1 (a4 + 1)).bind fun r4 =>
    if (r4.2.2 7) = 0 then
      if x3 = 0 then
        jl (jis r4.2 7 0) fun s8 =>
        some (r4.1, s8)
      else
      jl (jis r4.2 7 1) fun s9 =>
      some (r4.1, s9)
    else
    jl (jis r4.2 7 1) fun s6 =>
    some (r4.1, s6)
  else
  some (r1.1, r1.2)
set_option maxHeartbeats 4000000 in
set_option maxRecDepth 100000 in
theorem c_X3_lookForSequence {l : Launch} {D : va_G} {ad : Nat → Nat} {cI cZ : ClassId} {st : jS} {a1 : Int32} {a2 : Int32} {a3 : Int32} {a4 : Int32} {o : (Int32 × jS)} {d : Nat} {lk : jS → Int32 → Int32 → Int32 → Option (Int32 × jS)} (hlk : ∀ (st : jS) (a b c : Int32) (r : Int32 × jS), lk st a b c = some r → CtI l D (jT cI cZ) (wX ad cI cZ) yX3_look wsX3_look (rmXL d) [.ref (ad 7), .int a, .int b, .int c] st r.1 r.2) (h : f_X3_lookForSequence lk st a1 a2 a3 a4 = some o) : CtI l D (jT cI cZ) (wX ad cI cZ) yX3_lookForSequence wsX3_lookForSequence (rm_X3_lookForSequence d) [.ref (ad 7), .int a1, .int a2, .int a3, .int a4] st o.1 o.2 := by
  refine ctI_of (o := o) (cc := cX3_lookForSequence) (nL := 8) (own := RX3) (by decide) rfl rfl (Nat.le_of_ble_eq_true rfl) (lv0 := [(0, .ref (ad 7)), (1, .int a1), (2, .int a2), (3, .int a3), (4, .int a4)]) rfl ?_
  intro p e s m args below meth c A E hr
  rw [f_X3_lookForSequence] at h
  refine j_aload_n E 0 rfl rfl dX3_lookForSequence_0 ?_
  refine j_iload_n E 1 rfl rfl dX3_lookForSequence_1 ?_
  refine j_iload_n E 3 rfl rfl dX3_lookForSequence_2 ?_
  refine j_iload E 4 rfl dX3_lookForSequence_3 ?_
  refine j_iconst E (kc_1) dX3_lookForSequence_5 ?_
  refine j_iadd E dX3_lookForSequence_6 ?_
  obtain ⟨r1, er1, h⟩ := jbd h
  refine j_callVi E (As := [.int a1, .int a3, .int (a4 + 1)]) (hlk _ _ _ _ _ er1) (cwV 3 E.1.2.2.2.2 gX3_lookForSequence_X3_look rfl rfl rfl (by decide +kernel) (rk_X3_lookForSequence_X3_look d)) (wX_g7 ad cI cZ _) rfl rfl rfl (Nat.le_of_ble_eq_true rfl) ⟨Nat.zero_le _, Nat.zero_le _⟩ dX3_lookForSequence_7 ?_
  refine j_istore E (by decide) (lv' := [(5, .int r1.1), (0, .ref (ad 7)), (1, .int a1), (2, .int a2), (3, .int a3), (4, .int a4)]) rfl dX3_lookForSequence_10 ?_
  refine j_iload E 0 rfl dX3_lookForSequence_12 ?_
  refine j_if_ge E (tgt := 20) (by decide) dX3_lookForSequence_14 (fun c2 => ?_) (fun c2 => ?_)
  · have h := jit h c2
    refine j_aload_n E 1 rfl rfl dX3_lookForSequence_20 ?_
    refine j_get E 7 (wX_g7 ad cI cZ _) rfl 8 rfl in_X3_lookForSequence_X3 (by decide) (List.mem_of_getElem? (i := 1) rfl) (fun _ h9 => h9) dX3_lookForSequence_21 ?_
    obtain ⟨x3, ex3, h⟩ := jle h
    refine j_topi ex3 ?_
    refine j_istore E (by decide) (lv' := [(6, .int x3), (5, .int r1.1), (0, .ref (ad 7)), (1, .int a1), (2, .int a2), (3, .int a3), (4, .int a4)]) rfl dX3_lookForSequence_24 ?_
    refine j_aload_n E 2 rfl rfl dX3_lookForSequence_26 ?_
    refine j_iload_n E 4 rfl rfl dX3_lookForSequence_27 ?_
    refine j_iload E 1 rfl dX3_lookForSequence_28 ?_
    refine j_iload E 6 rfl dX3_lookForSequence_30 ?_
    refine j_iconst E (kc_1) dX3_lookForSequence_32 ?_
    refine j_iadd E dX3_lookForSequence_33 ?_
    obtain ⟨r4, er4, h⟩ := jbd h
    refine j_callVi E (As := [.int a2, .int r1.1, .int (a4 + 1)]) (hlk _ _ _ _ _ er4) (cwV 3 E.1.2.2.2.2 gX3_lookForSequence_X3_look rfl rfl rfl (by decide +kernel) (rk_X3_lookForSequence_X3_look d)) (wX_g7 ad cI cZ _) rfl rfl rfl (Nat.le_of_ble_eq_true rfl) ⟨Nat.zero_le _, Nat.zero_le _⟩ dX3_lookForSequence_34 ?_
    refine j_istore E (by decide) (lv' := [(7, .int r4.1), (6, .int x3), (5, .int r1.1), (0, .ref (ad 7)), (1, .int a1), (2, .int a2), (3, .int a3), (4, .int a4)]) rfl dX3_lookForSequence_37 ?_
    refine j_aload_n E 3 rfl rfl dX3_lookForSequence_39 ?_
    refine j_aload_n E 3 rfl rfl dX3_lookForSequence_40 ?_
    refine j_get E 7 (wX_g7 ad cI cZ _) rfl 8 rfl in_X3_lookForSequence_X3 (by decide) (List.mem_of_getElem? (i := 1) rfl) (fun _ h9 => h9) dX3_lookForSequence_41 ?_
    refine j_if_ne E (tgt := 52) (by decide) dX3_lookForSequence_44 (fun c5 => ?_) (fun c5 => ?_)
    · have h := jif h c5
      refine j_iconst E (kc_1) dX3_lookForSequence_52 ?_
      refine j_goto E (tgt := 57) (by decide) dX3_lookForSequence_53 ?_
      obtain ⟨s6, es6, h⟩ := jle h
      refine j_put E 7 (wX_g7 ad cI cZ _) rfl 8 (ty := .boolean) (wX_p7_8 ad cI cZ _ _) tyX3_ok nmX3 in_X3_lookForSequence_X3 (by decide) (List.mem_of_getElem? (i := 1) rfl) (fun _ h9 => h9) rfl (tyX3_ok 8 (by decide)) rfl rfl (Nat.le_of_ble_eq_true rfl) dX3_lookForSequence_57 ?_
      refine j_st es6 ?_
      refine j_iload E 0 rfl dX3_lookForSequence_60 ?_
      exact j_iret E hr rfl (Option.some.inj h) dX3_lookForSequence_62
    · have h := jit h c5
      refine j_iload E 1 rfl dX3_lookForSequence_47 ?_
      refine j_if_eq E (tgt := 56) (by decide) dX3_lookForSequence_49 (fun c7 => ?_) (fun c7 => ?_)
      · have h := jit h c7
        refine j_iconst E (kc_0) dX3_lookForSequence_56 ?_
        obtain ⟨s8, es8, h⟩ := jle h
        refine j_put E 7 (wX_g7 ad cI cZ _) rfl 8 (ty := .boolean) (wX_p7_8 ad cI cZ _ _) tyX3_ok nmX3 in_X3_lookForSequence_X3 (by decide) (List.mem_of_getElem? (i := 1) rfl) (fun _ h9 => h9) rfl (tyX3_ok 8 (by decide)) rfl rfl (Nat.le_of_ble_eq_true rfl) dX3_lookForSequence_57 ?_
        refine j_st es8 ?_
        refine j_iload E 0 rfl dX3_lookForSequence_60 ?_
        exact j_iret E hr rfl (Option.some.inj h) dX3_lookForSequence_62
      · have h := jif h c7
        refine j_iconst E (kc_1) dX3_lookForSequence_52 ?_
        refine j_goto E (tgt := 57) (by decide) dX3_lookForSequence_53 ?_
        obtain ⟨s9, es9, h⟩ := jle h
        refine j_put E 7 (wX_g7 ad cI cZ _) rfl 8 (ty := .boolean) (wX_p7_8 ad cI cZ _ _) tyX3_ok nmX3 in_X3_lookForSequence_X3 (by decide) (List.mem_of_getElem? (i := 1) rfl) (fun _ h9 => h9) rfl (tyX3_ok 8 (by decide)) rfl rfl (Nat.le_of_ble_eq_true rfl) dX3_lookForSequence_57 ?_
        refine j_st es9 ?_
        refine j_iload E 0 rfl dX3_lookForSequence_60 ?_
        exact j_iret E hr rfl (Option.some.inj h) dX3_lookForSequence_62
  · have h := jif h c2
    refine j_iload E 0 rfl dX3_lookForSequence_17 ?_
    exact j_iret E hr rfl (Option.some.inj h) dX3_lookForSequence_19
abbrev rm_X3_lookForChoice (d : Nat) : Room := rmXF d
theorem in_X3_lookForChoice_X3 : ∀ w ∈ u_ws RX3 TX3 9, w ∈ wsX3_lookForChoice := fun w h => (List.mem_cons_of_mem _ (List.mem_append_left _ (List.mem_append_left _ (List.mem_append_left _ (List.mem_append_left _ (List.mem_append_right _ h))))))
theorem rk_X3_lookForChoice_X3_look (d : Nat) : (rmXL d).frames + 1 ≤ (rm_X3_lookForChoice d).frames ∧ 8 + (6 + 11) + (rmXL d).locals ≤ (rm_X3_lookForChoice d).locals := ⟨by simp only [rm_X3_lookForChoice, rmXL, rmXF, rmXG]; omega, by simp only [rm_X3_lookForChoice, rmXL, rmXF, rmXG]; omega⟩
def f_X3_lookForChoice (lk : jS → Int32 → Int32 → Int32 → Option (Int32 × jS)) (st : jS) (a1 : Int32) (a2 : Int32) (a3 : Int32) (a4 : Int32) : Option (Int32 × jS) :=
  (lk st a1 a3 (a4 + 1)).bind fun r1 =>
  if r1.1 = (-1) then
    if (r1.2.2 7) = 0 then
      (lk r1.2 a2 a3 (a4 + 1)).bind fun r6 =>
      jl (jis r6.2 7 0) fun s7 =>
      some (r6.1, s7)
    else
    jl (jis r1.2 7 0) fun s5 =>
    some (r1.1, s5)
  else
  jl (jis r1.2 7 0) fun s3 =>
  some (r1.1, s3)
set_option maxHeartbeats 4000000 in
set_option maxRecDepth 100000 in
theorem c_X3_lookForChoice {l : Launch} {D : va_G} {ad : Nat → Nat} {cI cZ : ClassId} {st : jS} {a1 : Int32} {a2 : Int32} {a3 : Int32} {a4 : Int32} {o : (Int32 × jS)} {d : Nat} {lk : jS → Int32 → Int32 → Int32 → Option (Int32 × jS)} (hlk : ∀ (st : jS) (a b c : Int32) (r : Int32 × jS), lk st a b c = some r → CtI l D (jT cI cZ) (wX ad cI cZ) yX3_look wsX3_look (rmXL d) [.ref (ad 7), .int a, .int b, .int c] st r.1 r.2) (h : f_X3_lookForChoice lk st a1 a2 a3 a4 = some o) : CtI l D (jT cI cZ) (wX ad cI cZ) yX3_lookForChoice wsX3_lookForChoice (rm_X3_lookForChoice d) [.ref (ad 7), .int a1, .int a2, .int a3, .int a4] st o.1 o.2 := by
  refine ctI_of (o := o) (cc := cX3_lookForChoice) (nL := 6) (own := RX3) (by decide) rfl rfl (Nat.le_of_ble_eq_true rfl) (lv0 := [(0, .ref (ad 7)), (1, .int a1), (2, .int a2), (3, .int a3), (4, .int a4)]) rfl ?_
  intro p e s m args below meth c A E hr
  rw [f_X3_lookForChoice] at h
  refine j_aload_n E 0 rfl rfl dX3_lookForChoice_0 ?_
  refine j_iload_n E 1 rfl rfl dX3_lookForChoice_1 ?_
  refine j_iload_n E 3 rfl rfl dX3_lookForChoice_2 ?_
  refine j_iload E 4 rfl dX3_lookForChoice_3 ?_
  refine j_iconst E (kc_1) dX3_lookForChoice_5 ?_
  refine j_iadd E dX3_lookForChoice_6 ?_
  obtain ⟨r1, er1, h⟩ := jbd h
  refine j_callVi E (As := [.int a1, .int a3, .int (a4 + 1)]) (hlk _ _ _ _ _ er1) (cwV 3 E.1.2.2.2.2 gX3_lookForChoice_X3_look rfl rfl rfl (by decide +kernel) (rk_X3_lookForChoice_X3_look d)) (wX_g7 ad cI cZ _) rfl rfl rfl (Nat.le_of_ble_eq_true rfl) ⟨Nat.zero_le _, Nat.zero_le _⟩ dX3_lookForChoice_7 ?_
  refine j_istore E (by decide) (lv' := [(5, .int r1.1), (0, .ref (ad 7)), (1, .int a1), (2, .int a2), (3, .int a3), (4, .int a4)]) rfl dX3_lookForChoice_10 ?_
  refine j_iload E 0 rfl dX3_lookForChoice_12 ?_
  refine j_iconst E (kc_m1) dX3_lookForChoice_14 ?_
  refine j_icmp_ne E (tgt := 37) (by decide) dX3_lookForChoice_15 (fun c2 => ?_) (fun c2 => ?_)
  · have h := jif h c2
    refine j_aload_n E 1 rfl rfl dX3_lookForChoice_37 ?_
    refine j_iconst E (kc_0) dX3_lookForChoice_38 ?_
    obtain ⟨s3, es3, h⟩ := jle h
    refine j_put E 7 (wX_g7 ad cI cZ _) rfl 8 (ty := .boolean) (wX_p7_8 ad cI cZ _ _) tyX3_ok nmX3 in_X3_lookForChoice_X3 (by decide) (List.mem_of_getElem? (i := 1) rfl) (fun _ h9 => h9) rfl (tyX3_ok 8 (by decide)) rfl rfl (Nat.le_of_ble_eq_true rfl) dX3_lookForChoice_39 ?_
    refine j_st es3 ?_
    refine j_iload E 0 rfl dX3_lookForChoice_42 ?_
    exact j_iret E hr rfl (Option.some.inj h) dX3_lookForChoice_44
  · have h := jit h c2
    refine j_aload_n E 1 rfl rfl dX3_lookForChoice_18 ?_
    refine j_get E 7 (wX_g7 ad cI cZ _) rfl 8 rfl in_X3_lookForChoice_X3 (by decide) (List.mem_of_getElem? (i := 1) rfl) (fun _ h9 => h9) dX3_lookForChoice_19 ?_
    refine j_if_ne E (tgt := 37) (by decide) dX3_lookForChoice_22 (fun c4 => ?_) (fun c4 => ?_)
    · have h := jif h c4
      refine j_aload_n E 1 rfl rfl dX3_lookForChoice_37 ?_
      refine j_iconst E (kc_0) dX3_lookForChoice_38 ?_
      obtain ⟨s5, es5, h⟩ := jle h
      refine j_put E 7 (wX_g7 ad cI cZ _) rfl 8 (ty := .boolean) (wX_p7_8 ad cI cZ _ _) tyX3_ok nmX3 in_X3_lookForChoice_X3 (by decide) (List.mem_of_getElem? (i := 1) rfl) (fun _ h9 => h9) rfl (tyX3_ok 8 (by decide)) rfl rfl (Nat.le_of_ble_eq_true rfl) dX3_lookForChoice_39 ?_
      refine j_st es5 ?_
      refine j_iload E 0 rfl dX3_lookForChoice_42 ?_
      exact j_iret E hr rfl (Option.some.inj h) dX3_lookForChoice_44
    · have h := jit h c4
      refine j_aload_n E 1 rfl rfl dX3_lookForChoice_25 ?_
      refine j_iload_n E 3 rfl rfl dX3_lookForChoice_26 ?_
      refine j_iload_n E 4 rfl rfl dX3_lookForChoice_27 ?_
      refine j_iload E 5 rfl dX3_lookForChoice_28 ?_
      refine j_iconst E (kc_1) dX3_lookForChoice_30 ?_
      refine j_iadd E dX3_lookForChoice_31 ?_
      obtain ⟨r6, er6, h⟩ := jbd h
      refine j_callVi E (As := [.int a2, .int a3, .int (a4 + 1)]) (hlk _ _ _ _ _ er6) (cwV 3 E.1.2.2.2.2 gX3_lookForChoice_X3_look rfl rfl rfl (by decide +kernel) (rk_X3_lookForChoice_X3_look d)) (wX_g7 ad cI cZ _) rfl rfl rfl (Nat.le_of_ble_eq_true rfl) ⟨Nat.zero_le _, Nat.zero_le _⟩ dX3_lookForChoice_32 ?_
      refine j_istore E (by decide) (lv' := [(5, .int r6.1), (0, .ref (ad 7)), (1, .int a1), (2, .int a2), (3, .int a3), (4, .int a4)]) rfl dX3_lookForChoice_35 ?_
      refine j_aload_n E 1 rfl rfl dX3_lookForChoice_37 ?_
      refine j_iconst E (kc_0) dX3_lookForChoice_38 ?_
      obtain ⟨s7, es7, h⟩ := jle h
      refine j_put E 7 (wX_g7 ad cI cZ _) rfl 8 (ty := .boolean) (wX_p7_8 ad cI cZ _ _) tyX3_ok nmX3 in_X3_lookForChoice_X3 (by decide) (List.mem_of_getElem? (i := 1) rfl) (fun _ h9 => h9) rfl (tyX3_ok 8 (by decide)) rfl rfl (Nat.le_of_ble_eq_true rfl) dX3_lookForChoice_39 ?_
      refine j_st es7 ?_
      refine j_iload E 0 rfl dX3_lookForChoice_42 ?_
      exact j_iret E hr rfl (Option.some.inj h) dX3_lookForChoice_44
abbrev rm_X3_lookForStar (d : Nat) : Room := rmXF d
theorem in_X3_lookForStar_X3 : ∀ w ∈ u_ws RX3 TX3 9, w ∈ wsX3_lookForStar := fun w h => (List.mem_cons_of_mem _ (List.mem_append_left _ (List.mem_append_left _ (List.mem_append_left _ (List.mem_append_left _ (List.mem_append_right _ h))))))
theorem rk_X3_lookForStar_X3_look (d : Nat) : (rmXL d).frames + 1 ≤ (rm_X3_lookForStar d).frames ∧ 8 + (6 + 11) + (rmXL d).locals ≤ (rm_X3_lookForStar d).locals := ⟨by simp only [rm_X3_lookForStar, rmXL, rmXF, rmXG]; omega, by simp only [rm_X3_lookForStar, rmXL, rmXF, rmXG]; omega⟩
def f_X3_lookForStar_9 (lk : jS → Int32 → Int32 → Int32 → Option (Int32 × jS)) (K : jS → Int32 → Int32 → Int32 → Int32 → Int32 → Int32 → Option (Int32 × jS)) : Nat → jS → Int32 → Int32 → Int32 → Int32 → Int32 → Int32 → Option (Int32 × jS)
  | 0, _, _, _, _, _, _, _ => none
  | n + 1, st, v1, v2, v3, v4, v5, v6 =>
    if v6 > 40 then
      K st v1 v2 v3 v4 v5 v6
    else
    (lk st v1 v4 (v3 + 1)).bind fun r2 =>
    if r2.1 > v4 then
      jl (v6 + 1) fun x4 =>
      f_X3_lookForStar_9 lk K n r2.2 v1 v2 v3 r2.1 r2.1 x4
    else
    K r2.2 v1 v2 v3 v4 r2.1 v6
def f_X3_lookForStar (lk : jS → Int32 → Int32 → Int32 → Option (Int32 × jS)) (st : jS) (a1 : Int32) (a2 : Int32) (a3 : Int32) : Option (Int32 × jS) :=
  f_X3_lookForStar_9 lk (fun s11 y5 y6 y7 y8 y9 y10 =>
    if y9 = (-1) then
      if (s11.2 7) = 0 then
        jl (jis s11 7 0) fun s16 =>
        some (y8, s16)
      else
      jl (jis s11 7 0) fun s15 =>
      some (y9, s15)
    else
    jl (jis s11 7 0) fun s13 =>
    some (y9, s13)
    ) jFuel st a1 a2 a3 a2 a2 0
set_option maxHeartbeats 4000000 in
set_option maxRecDepth 100000 in
theorem w_X3_lookForStar_9 {ad : Nat → Nat} {cI cZ : ClassId} {p : Program} {l : Launch} {e : Env} {s : State} {m : MethodId} {args : Array Value} {below : List Frame} {meth : Method} {c : Code} {D : va_G} {A : Nat → Prop} {o : (Int32 × jS)} {d : Nat} {lk : jS → Int32 → Int32 → Int32 → Option (Int32 × jS)} (hlk : ∀ (st : jS) (a b c : Int32) (r : Int32 × jS), lk st a b c = some r → CtI l D (jT cI cZ) (wX ad cI cZ) yX3_look wsX3_look (rmXL d) [.ref (ad 7), .int a, .int b, .int c] st r.1 r.2) (E : jE p s m args meth c cX3_lookForStar 7 RX3 wsX3_lookForStar D (jT cI cZ) A) (hr : meth.sig.returnType = (some .int)) {K : jS → Int32 → Int32 → Int32 → Int32 → Int32 → Int32 → Option (Int32 × jS)} (hK : ∀ (st : jS) (v1 : Int32) (v2 : Int32) (v3 : Int32) (v4 : Int32) (v5 : Int32) (v6 : Int32), K st v1 v2 v3 v4 v5 v6 = some o → J p l e (rm_X3_lookForStar d) s m args below meth c 7 D A (wX ad cI cZ) (jZI D (wX ad cI cZ) A below args s o) 0 0 st 48 [(0, .ref (ad 7)), (1, .int v1), (2, .int v2), (3, .int v3), (4, .int v4), (5, .int v5), (6, .int v6)] []) :
    ∀ (n : Nat) (st : jS) (v1 : Int32) (v2 : Int32) (v3 : Int32) (v4 : Int32) (v5 : Int32) (v6 : Int32), f_X3_lookForStar_9 lk K n st v1 v2 v3 v4 v5 v6 = some o → J p l e (rm_X3_lookForStar d) s m args below meth c 7 D A (wX ad cI cZ) (jZI D (wX ad cI cZ) A below args s o) 0 0 st 9 [(0, .ref (ad 7)), (1, .int v1), (2, .int v2), (3, .int v3), (4, .int v4), (5, .int v5), (6, .int v6)] [] := by
  intro n
  induction n with
  | zero => intro st v1 v2 v3 v4 v5 v6 h; cases h
  | succ n ih =>
    intro st v1 v2 v3 v4 v5 v6 h
    rw [f_X3_lookForStar_9] at h
    refine j_iload E 6 rfl dX3_lookForStar_9 ?_
    refine j_bipush E (kb_40) dX3_lookForStar_11 ?_
    refine j_icmp_gt E (tgt := 48) (by decide) dX3_lookForStar_13 (fun c1 => ?_) (fun c1 => ?_)
    · have h := jit h c1
      refine j_sub [0, 1, 2, 3, 4, 5, 6] (lv' := [(0, .ref (ad 7)), (1, .int v1), (2, .int v2), (3, .int v3), (4, .int v4), (5, .int v5), (6, .int v6)]) rfl ?_
      exact hK _ _ _ _ _ _ _ h
    · have h := jif h c1
      refine j_aload_n E 0 rfl rfl dX3_lookForStar_16 ?_
      refine j_iload_n E 1 rfl rfl dX3_lookForStar_17 ?_
      refine j_iload E 4 rfl dX3_lookForStar_18 ?_
      refine j_iload_n E 3 rfl rfl dX3_lookForStar_20 ?_
      refine j_iconst E (kc_1) dX3_lookForStar_21 ?_
      refine j_iadd E dX3_lookForStar_22 ?_
      obtain ⟨r2, er2, h⟩ := jbd h
      refine j_callVi E (As := [.int v1, .int v4, .int (v3 + 1)]) (hlk _ _ _ _ _ er2) (cwV 3 E.1.2.2.2.2 gX3_lookForStar_X3_look rfl rfl rfl (by decide +kernel) (rk_X3_lookForStar_X3_look d)) (wX_g7 ad cI cZ _) rfl rfl rfl (Nat.le_of_ble_eq_true rfl) ⟨Nat.zero_le _, Nat.zero_le _⟩ dX3_lookForStar_23 ?_
      refine j_istore E (by decide) (lv' := [(5, .int r2.1), (0, .ref (ad 7)), (1, .int v1), (2, .int v2), (3, .int v3), (4, .int v4), (6, .int v6)]) rfl dX3_lookForStar_26 ?_
      refine j_iload E 0 rfl dX3_lookForStar_28 ?_
      refine j_iload E 5 rfl dX3_lookForStar_30 ?_
      refine j_icmp_gt E (tgt := 38) (by decide) dX3_lookForStar_32 (fun c3 => ?_) (fun c3 => ?_)
      · have h := jit h c3
        refine j_iload E 0 rfl dX3_lookForStar_38 ?_
        refine j_istore E (by decide) (lv' := [(4, .int r2.1), (5, .int r2.1), (0, .ref (ad 7)), (1, .int v1), (2, .int v2), (3, .int v3), (6, .int v6)]) rfl dX3_lookForStar_40 ?_
        obtain ⟨x4, ex4, h⟩ := jle h
        refine j_iinc E 6 rfl kc_1 ex4 (by decide) (lv' := [(6, .int x4), (4, .int r2.1), (5, .int r2.1), (0, .ref (ad 7)), (1, .int v1), (2, .int v2), (3, .int v3)]) rfl dX3_lookForStar_42 ?_
        refine j_goto E (tgt := 9) (by decide) dX3_lookForStar_45 ?_
        refine j_sub [3, 4, 5, 6, 1, 2, 0] (lv' := [(0, .ref (ad 7)), (1, .int v1), (2, .int v2), (3, .int v3), (4, .int r2.1), (5, .int r2.1), (6, .int x4)]) rfl ?_
        exact ih _ _ _ _ _ _ _ h
      · have h := jif h c3
        refine j_goto E (tgt := 48) (by decide) dX3_lookForStar_35 ?_
        refine j_sub [1, 2, 3, 4, 5, 0, 6] (lv' := [(0, .ref (ad 7)), (1, .int v1), (2, .int v2), (3, .int v3), (4, .int v4), (5, .int r2.1), (6, .int v6)]) rfl ?_
        exact hK _ _ _ _ _ _ _ h
set_option maxHeartbeats 4000000 in
set_option maxRecDepth 100000 in
theorem c_X3_lookForStar {l : Launch} {D : va_G} {ad : Nat → Nat} {cI cZ : ClassId} {st : jS} {a1 : Int32} {a2 : Int32} {a3 : Int32} {o : (Int32 × jS)} {d : Nat} {lk : jS → Int32 → Int32 → Int32 → Option (Int32 × jS)} (hlk : ∀ (st : jS) (a b c : Int32) (r : Int32 × jS), lk st a b c = some r → CtI l D (jT cI cZ) (wX ad cI cZ) yX3_look wsX3_look (rmXL d) [.ref (ad 7), .int a, .int b, .int c] st r.1 r.2) (h : f_X3_lookForStar lk st a1 a2 a3 = some o) : CtI l D (jT cI cZ) (wX ad cI cZ) yX3_lookForStar wsX3_lookForStar (rm_X3_lookForStar d) [.ref (ad 7), .int a1, .int a2, .int a3] st o.1 o.2 := by
  refine ctI_of (o := o) (cc := cX3_lookForStar) (nL := 7) (own := RX3) (by decide) rfl rfl (Nat.le_of_ble_eq_true rfl) (lv0 := [(0, .ref (ad 7)), (1, .int a1), (2, .int a2), (3, .int a3)]) rfl ?_
  intro p e s m args below meth c A E hr
  rw [f_X3_lookForStar] at h
  refine j_iload_n E 2 rfl rfl dX3_lookForStar_0 ?_
  refine j_istore E (by decide) (lv' := [(4, .int a2), (0, .ref (ad 7)), (1, .int a1), (2, .int a2), (3, .int a3)]) rfl dX3_lookForStar_1 ?_
  refine j_iload_n E 3 rfl rfl dX3_lookForStar_3 ?_
  refine j_istore E (by decide) (lv' := [(5, .int a2), (4, .int a2), (0, .ref (ad 7)), (1, .int a1), (2, .int a2), (3, .int a3)]) rfl dX3_lookForStar_4 ?_
  refine j_iconst E (kc_0) dX3_lookForStar_6 ?_
  refine j_istore E (by decide) (lv' := [(6, .int 0), (5, .int a2), (4, .int a2), (0, .ref (ad 7)), (1, .int a1), (2, .int a2), (3, .int a3)]) rfl dX3_lookForStar_7 ?_
  refine j_sub [3, 4, 5, 6, 2, 1, 0] (lv' := [(0, .ref (ad 7)), (1, .int a1), (2, .int a2), (3, .int a3), (4, .int a2), (5, .int a2), (6, .int 0)]) rfl ?_
  refine w_X3_lookForStar_9 hlk E hr (fun s11 y5 y6 y7 y8 y9 y10 h => ?_) _ _ _ _ _ _ _ _ h
  refine j_iload E 5 rfl dX3_lookForStar_48 ?_
  refine j_iconst E (kc_m1) dX3_lookForStar_50 ?_
  refine j_icmp_ne E (tgt := 65) (by decide) dX3_lookForStar_51 (fun c12 => ?_) (fun c12 => ?_)
  · have h := jif h c12
    refine j_aload_n E 0 rfl rfl dX3_lookForStar_65 ?_
    refine j_iconst E (kc_0) dX3_lookForStar_66 ?_
    obtain ⟨s13, es13, h⟩ := jle h
    refine j_put E 7 (wX_g7 ad cI cZ _) rfl 8 (ty := .boolean) (wX_p7_8 ad cI cZ _ _) tyX3_ok nmX3 in_X3_lookForStar_X3 (by decide) (List.mem_of_getElem? (i := 1) rfl) (fun _ h9 => h9) rfl (tyX3_ok 8 (by decide)) rfl rfl (Nat.le_of_ble_eq_true rfl) dX3_lookForStar_67 ?_
    refine j_st es13 ?_
    refine j_iload E 5 rfl dX3_lookForStar_70 ?_
    exact j_iret E hr rfl (Option.some.inj h) dX3_lookForStar_72
  · have h := jit h c12
    refine j_aload_n E 0 rfl rfl dX3_lookForStar_54 ?_
    refine j_get E 7 (wX_g7 ad cI cZ _) rfl 8 rfl in_X3_lookForStar_X3 (by decide) (List.mem_of_getElem? (i := 1) rfl) (fun _ h9 => h9) dX3_lookForStar_55 ?_
    refine j_if_ne E (tgt := 65) (by decide) dX3_lookForStar_58 (fun c14 => ?_) (fun c14 => ?_)
    · have h := jif h c14
      refine j_aload_n E 0 rfl rfl dX3_lookForStar_65 ?_
      refine j_iconst E (kc_0) dX3_lookForStar_66 ?_
      obtain ⟨s15, es15, h⟩ := jle h
      refine j_put E 7 (wX_g7 ad cI cZ _) rfl 8 (ty := .boolean) (wX_p7_8 ad cI cZ _ _) tyX3_ok nmX3 in_X3_lookForStar_X3 (by decide) (List.mem_of_getElem? (i := 1) rfl) (fun _ h9 => h9) rfl (tyX3_ok 8 (by decide)) rfl rfl (Nat.le_of_ble_eq_true rfl) dX3_lookForStar_67 ?_
      refine j_st es15 ?_
      refine j_iload E 5 rfl dX3_lookForStar_70 ?_
      exact j_iret E hr rfl (Option.some.inj h) dX3_lookForStar_72
    · have h := jit h c14
      refine j_iload E 4 rfl dX3_lookForStar_61 ?_
      refine j_istore E (by decide) (lv' := [(5, .int y8), (0, .ref (ad 7)), (1, .int y5), (2, .int y6), (3, .int y7), (4, .int y8), (6, .int y10)]) rfl dX3_lookForStar_63 ?_
      refine j_aload_n E 1 rfl rfl dX3_lookForStar_65 ?_
      refine j_iconst E (kc_0) dX3_lookForStar_66 ?_
      obtain ⟨s16, es16, h⟩ := jle h
      refine j_put E 7 (wX_g7 ad cI cZ _) rfl 8 (ty := .boolean) (wX_p7_8 ad cI cZ _ _) tyX3_ok nmX3 in_X3_lookForStar_X3 (by decide) (List.mem_of_getElem? (i := 1) rfl) (fun _ h9 => h9) rfl (tyX3_ok 8 (by decide)) rfl rfl (Nat.le_of_ble_eq_true rfl) dX3_lookForStar_67 ?_
      refine j_st es16 ?_
      refine j_iload E 0 rfl dX3_lookForStar_70 ?_
      exact j_iret E hr rfl (Option.some.inj h) dX3_lookForStar_72
abbrev rm_X3_lookForOptional (d : Nat) : Room := rmXF d
theorem in_X3_lookForOptional_X3 : ∀ w ∈ u_ws RX3 TX3 9, w ∈ wsX3_lookForOptional := fun w h => (List.mem_cons_of_mem _ (List.mem_append_left _ (List.mem_append_left _ (List.mem_append_left _ (List.mem_append_left _ (List.mem_append_right _ h))))))
theorem rk_X3_lookForOptional_X3_look (d : Nat) : (rmXL d).frames + 1 ≤ (rm_X3_lookForOptional d).frames ∧ 8 + (6 + 11) + (rmXL d).locals ≤ (rm_X3_lookForOptional d).locals := ⟨by simp only [rm_X3_lookForOptional, rmXL, rmXF, rmXG]; omega, by simp only [rm_X3_lookForOptional, rmXL, rmXF, rmXG]; omega⟩
def f_X3_lookForOptional (lk : jS → Int32 → Int32 → Int32 → Option (Int32 × jS)) (st : jS) (a1 : Int32) (a2 : Int32) (a3 : Int32) : Option (Int32 × jS) :=
  (lk st a1 a2 (a3 + 1)).bind fun r1 =>
  if r1.1 = (-1) then
    if (r1.2.2 7) = 0 then
      jl (jis r1.2 7 0) fun s6 =>
      some (a2, s6)
    else
    jl (jis r1.2 7 0) fun s5 =>
    some (r1.1, s5)
  else
  jl (jis r1.2 7 0) fun s3 =>
  some (r1.1, s3)
set_option maxHeartbeats 4000000 in
set_option maxRecDepth 100000 in
theorem c_X3_lookForOptional {l : Launch} {D : va_G} {ad : Nat → Nat} {cI cZ : ClassId} {st : jS} {a1 : Int32} {a2 : Int32} {a3 : Int32} {o : (Int32 × jS)} {d : Nat} {lk : jS → Int32 → Int32 → Int32 → Option (Int32 × jS)} (hlk : ∀ (st : jS) (a b c : Int32) (r : Int32 × jS), lk st a b c = some r → CtI l D (jT cI cZ) (wX ad cI cZ) yX3_look wsX3_look (rmXL d) [.ref (ad 7), .int a, .int b, .int c] st r.1 r.2) (h : f_X3_lookForOptional lk st a1 a2 a3 = some o) : CtI l D (jT cI cZ) (wX ad cI cZ) yX3_lookForOptional wsX3_lookForOptional (rm_X3_lookForOptional d) [.ref (ad 7), .int a1, .int a2, .int a3] st o.1 o.2 := by
  refine ctI_of (o := o) (cc := cX3_lookForOptional) (nL := 5) (own := RX3) (by decide) rfl rfl (Nat.le_of_ble_eq_true rfl) (lv0 := [(0, .ref (ad 7)), (1, .int a1), (2, .int a2), (3, .int a3)]) rfl ?_
  intro p e s m args below meth c A E hr
  rw [f_X3_lookForOptional] at h
  refine j_aload_n E 0 rfl rfl dX3_lookForOptional_0 ?_
  refine j_iload_n E 1 rfl rfl dX3_lookForOptional_1 ?_
  refine j_iload_n E 2 rfl rfl dX3_lookForOptional_2 ?_
  refine j_iload_n E 3 rfl rfl dX3_lookForOptional_3 ?_
  refine j_iconst E (kc_1) dX3_lookForOptional_4 ?_
  refine j_iadd E dX3_lookForOptional_5 ?_
  obtain ⟨r1, er1, h⟩ := jbd h
  refine j_callVi E (As := [.int a1, .int a2, .int (a3 + 1)]) (hlk _ _ _ _ _ er1) (cwV 3 E.1.2.2.2.2 gX3_lookForOptional_X3_look rfl rfl rfl (by decide +kernel) (rk_X3_lookForOptional_X3_look d)) (wX_g7 ad cI cZ _) rfl rfl rfl (Nat.le_of_ble_eq_true rfl) ⟨Nat.zero_le _, Nat.zero_le _⟩ dX3_lookForOptional_6 ?_
  refine j_istore E (by decide) (lv' := [(4, .int r1.1), (0, .ref (ad 7)), (1, .int a1), (2, .int a2), (3, .int a3)]) rfl dX3_lookForOptional_9 ?_
  refine j_iload E 0 rfl dX3_lookForOptional_11 ?_
  refine j_iconst E (kc_m1) dX3_lookForOptional_13 ?_
  refine j_icmp_ne E (tgt := 27) (by decide) dX3_lookForOptional_14 (fun c2 => ?_) (fun c2 => ?_)
  · have h := jif h c2
    refine j_aload_n E 1 rfl rfl dX3_lookForOptional_27 ?_
    refine j_iconst E (kc_0) dX3_lookForOptional_28 ?_
    obtain ⟨s3, es3, h⟩ := jle h
    refine j_put E 7 (wX_g7 ad cI cZ _) rfl 8 (ty := .boolean) (wX_p7_8 ad cI cZ _ _) tyX3_ok nmX3 in_X3_lookForOptional_X3 (by decide) (List.mem_of_getElem? (i := 1) rfl) (fun _ h9 => h9) rfl (tyX3_ok 8 (by decide)) rfl rfl (Nat.le_of_ble_eq_true rfl) dX3_lookForOptional_29 ?_
    refine j_st es3 ?_
    refine j_iload E 0 rfl dX3_lookForOptional_32 ?_
    exact j_iret E hr rfl (Option.some.inj h) dX3_lookForOptional_34
  · have h := jit h c2
    refine j_aload_n E 1 rfl rfl dX3_lookForOptional_17 ?_
    refine j_get E 7 (wX_g7 ad cI cZ _) rfl 8 rfl in_X3_lookForOptional_X3 (by decide) (List.mem_of_getElem? (i := 1) rfl) (fun _ h9 => h9) dX3_lookForOptional_18 ?_
    refine j_if_ne E (tgt := 27) (by decide) dX3_lookForOptional_21 (fun c4 => ?_) (fun c4 => ?_)
    · have h := jif h c4
      refine j_aload_n E 1 rfl rfl dX3_lookForOptional_27 ?_
      refine j_iconst E (kc_0) dX3_lookForOptional_28 ?_
      obtain ⟨s5, es5, h⟩ := jle h
      refine j_put E 7 (wX_g7 ad cI cZ _) rfl 8 (ty := .boolean) (wX_p7_8 ad cI cZ _ _) tyX3_ok nmX3 in_X3_lookForOptional_X3 (by decide) (List.mem_of_getElem? (i := 1) rfl) (fun _ h9 => h9) rfl (tyX3_ok 8 (by decide)) rfl rfl (Nat.le_of_ble_eq_true rfl) dX3_lookForOptional_29 ?_
      refine j_st es5 ?_
      refine j_iload E 0 rfl dX3_lookForOptional_32 ?_
      exact j_iret E hr rfl (Option.some.inj h) dX3_lookForOptional_34
    · have h := jit h c4
      refine j_iload_n E 3 rfl rfl dX3_lookForOptional_24 ?_
      refine j_istore E (by decide) (lv' := [(4, .int a2), (0, .ref (ad 7)), (1, .int a1), (2, .int a2), (3, .int a3)]) rfl dX3_lookForOptional_25 ?_
      refine j_aload_n E 1 rfl rfl dX3_lookForOptional_27 ?_
      refine j_iconst E (kc_0) dX3_lookForOptional_28 ?_
      obtain ⟨s6, es6, h⟩ := jle h
      refine j_put E 7 (wX_g7 ad cI cZ _) rfl 8 (ty := .boolean) (wX_p7_8 ad cI cZ _ _) tyX3_ok nmX3 in_X3_lookForOptional_X3 (by decide) (List.mem_of_getElem? (i := 1) rfl) (fun _ h9 => h9) rfl (tyX3_ok 8 (by decide)) rfl rfl (Nat.le_of_ble_eq_true rfl) dX3_lookForOptional_29 ?_
      refine j_st es6 ?_
      refine j_iload E 0 rfl dX3_lookForOptional_32 ?_
      exact j_iret E hr rfl (Option.some.inj h) dX3_lookForOptional_34
abbrev rm_X3_lookForAnd (d : Nat) : Room := rmXF d
theorem in_X3_lookForAnd_X3 : ∀ w ∈ u_ws RX3 TX3 9, w ∈ wsX3_lookForAnd := fun w h => (List.mem_cons_of_mem _ (List.mem_append_left _ (List.mem_append_left _ (List.mem_append_left _ (List.mem_append_left _ (List.mem_append_right _ h))))))
theorem rk_X3_lookForAnd_X3_look (d : Nat) : (rmXL d).frames + 1 ≤ (rm_X3_lookForAnd d).frames ∧ 8 + (6 + 11) + (rmXL d).locals ≤ (rm_X3_lookForAnd d).locals := ⟨by simp only [rm_X3_lookForAnd, rmXL, rmXF, rmXG]; omega, by simp only [rm_X3_lookForAnd, rmXL, rmXF, rmXG]; omega⟩
def f_X3_lookForAnd (lk : jS → Int32 → Int32 → Int32 → Option (Int32 × jS)) (st : jS) (a1 : Int32) (a2 : Int32) (a3 : Int32) : Option (Int32 × jS) :=
  (lk st a1 a2 (a3 + 1)).bind fun r1 =>
  jl (jis r1.2 7 0) fun s2 =>
  if r1.1 ≥ 0 then
    some (a2, s2)
  else
  some (r1.1, s2)
set_option maxHeartbeats 4000000 in
set_option maxRecDepth 100000 in
theorem c_X3_lookForAnd {l : Launch} {D : va_G} {ad : Nat → Nat} {cI cZ : ClassId} {st : jS} {a1 : Int32} {a2 : Int32} {a3 : Int32} {o : (Int32 × jS)} {d : Nat} {lk : jS → Int32 → Int32 → Int32 → Option (Int32 × jS)} (hlk : ∀ (st : jS) (a b c : Int32) (r : Int32 × jS), lk st a b c = some r → CtI l D (jT cI cZ) (wX ad cI cZ) yX3_look wsX3_look (rmXL d) [.ref (ad 7), .int a, .int b, .int c] st r.1 r.2) (h : f_X3_lookForAnd lk st a1 a2 a3 = some o) : CtI l D (jT cI cZ) (wX ad cI cZ) yX3_lookForAnd wsX3_lookForAnd (rm_X3_lookForAnd d) [.ref (ad 7), .int a1, .int a2, .int a3] st o.1 o.2 := by
  refine ctI_of (o := o) (cc := cX3_lookForAnd) (nL := 5) (own := RX3) (by decide) rfl rfl (Nat.le_of_ble_eq_true rfl) (lv0 := [(0, .ref (ad 7)), (1, .int a1), (2, .int a2), (3, .int a3)]) rfl ?_
  intro p e s m args below meth c A E hr
  rw [f_X3_lookForAnd] at h
  refine j_aload_n E 0 rfl rfl dX3_lookForAnd_0 ?_
  refine j_iload_n E 1 rfl rfl dX3_lookForAnd_1 ?_
  refine j_iload_n E 2 rfl rfl dX3_lookForAnd_2 ?_
  refine j_iload_n E 3 rfl rfl dX3_lookForAnd_3 ?_
  refine j_iconst E (kc_1) dX3_lookForAnd_4 ?_
  refine j_iadd E dX3_lookForAnd_5 ?_
  obtain ⟨r1, er1, h⟩ := jbd h
  refine j_callVi E (As := [.int a1, .int a2, .int (a3 + 1)]) (hlk _ _ _ _ _ er1) (cwV 3 E.1.2.2.2.2 gX3_lookForAnd_X3_look rfl rfl rfl (by decide +kernel) (rk_X3_lookForAnd_X3_look d)) (wX_g7 ad cI cZ _) rfl rfl rfl (Nat.le_of_ble_eq_true rfl) ⟨Nat.zero_le _, Nat.zero_le _⟩ dX3_lookForAnd_6 ?_
  refine j_istore E (by decide) (lv' := [(4, .int r1.1), (0, .ref (ad 7)), (1, .int a1), (2, .int a2), (3, .int a3)]) rfl dX3_lookForAnd_9 ?_
  refine j_aload_n E 1 rfl rfl dX3_lookForAnd_11 ?_
  refine j_iconst E (kc_0) dX3_lookForAnd_12 ?_
  obtain ⟨s2, es2, h⟩ := jle h
  refine j_put E 7 (wX_g7 ad cI cZ _) rfl 8 (ty := .boolean) (wX_p7_8 ad cI cZ _ _) tyX3_ok nmX3 in_X3_lookForAnd_X3 (by decide) (List.mem_of_getElem? (i := 1) rfl) (fun _ h9 => h9) rfl (tyX3_ok 8 (by decide)) rfl rfl (Nat.le_of_ble_eq_true rfl) dX3_lookForAnd_13 ?_
  refine j_st es2 ?_
  refine j_iload E 0 rfl dX3_lookForAnd_16 ?_
  refine j_if_ge E (tgt := 26) (by decide) dX3_lookForAnd_18 (fun c3 => ?_) (fun c3 => ?_)
  · have h := jit h c3
    refine j_iload_n E 3 rfl rfl dX3_lookForAnd_26 ?_
    exact j_iret E hr rfl (Option.some.inj h) dX3_lookForAnd_27
  · have h := jif h c3
    refine j_iload E 0 rfl dX3_lookForAnd_21 ?_
    refine j_goto E (tgt := 27) (by decide) dX3_lookForAnd_23 ?_
    exact j_iret E hr rfl (Option.some.inj h) dX3_lookForAnd_27
abbrev rm_X3_lookForNot (d : Nat) : Room := rmXF d
theorem in_X3_lookForNot_X3 : ∀ w ∈ u_ws RX3 TX3 9, w ∈ wsX3_lookForNot := fun w h => (List.mem_cons_of_mem _ (List.mem_append_left _ (List.mem_append_left _ (List.mem_append_left _ (List.mem_append_left _ (List.mem_append_right _ h))))))
theorem rk_X3_lookForNot_X3_look (d : Nat) : (rmXL d).frames + 1 ≤ (rm_X3_lookForNot d).frames ∧ 8 + (6 + 11) + (rmXL d).locals ≤ (rm_X3_lookForNot d).locals := ⟨by simp only [rm_X3_lookForNot, rmXL, rmXF, rmXG]; omega, by simp only [rm_X3_lookForNot, rmXL, rmXF, rmXG]; omega⟩
def f_X3_lookForNot (lk : jS → Int32 → Int32 → Int32 → Option (Int32 × jS)) (st : jS) (a1 : Int32) (a2 : Int32) (a3 : Int32) : Option (Int32 × jS) :=
  (lk st a1 a2 (a3 + 1)).bind fun r1 =>
  jl (jis r1.2 7 0) fun s2 =>
  if r1.1 = (-2) then
    some ((-2), s2)
  else
  if r1.1 = (-1) then
    some (a2, s2)
  else
  some ((-1), s2)
set_option maxHeartbeats 4000000 in
set_option maxRecDepth 100000 in
theorem c_X3_lookForNot {l : Launch} {D : va_G} {ad : Nat → Nat} {cI cZ : ClassId} {st : jS} {a1 : Int32} {a2 : Int32} {a3 : Int32} {o : (Int32 × jS)} {d : Nat} {lk : jS → Int32 → Int32 → Int32 → Option (Int32 × jS)} (hlk : ∀ (st : jS) (a b c : Int32) (r : Int32 × jS), lk st a b c = some r → CtI l D (jT cI cZ) (wX ad cI cZ) yX3_look wsX3_look (rmXL d) [.ref (ad 7), .int a, .int b, .int c] st r.1 r.2) (h : f_X3_lookForNot lk st a1 a2 a3 = some o) : CtI l D (jT cI cZ) (wX ad cI cZ) yX3_lookForNot wsX3_lookForNot (rm_X3_lookForNot d) [.ref (ad 7), .int a1, .int a2, .int a3] st o.1 o.2 := by
  refine ctI_of (o := o) (cc := cX3_lookForNot) (nL := 5) (own := RX3) (by decide) rfl rfl (Nat.le_of_ble_eq_true rfl) (lv0 := [(0, .ref (ad 7)), (1, .int a1), (2, .int a2), (3, .int a3)]) rfl ?_
  intro p e s m args below meth c A E hr
  rw [f_X3_lookForNot] at h
  refine j_aload_n E 0 rfl rfl dX3_lookForNot_0 ?_
  refine j_iload_n E 1 rfl rfl dX3_lookForNot_1 ?_
  refine j_iload_n E 2 rfl rfl dX3_lookForNot_2 ?_
  refine j_iload_n E 3 rfl rfl dX3_lookForNot_3 ?_
  refine j_iconst E (kc_1) dX3_lookForNot_4 ?_
  refine j_iadd E dX3_lookForNot_5 ?_
  obtain ⟨r1, er1, h⟩ := jbd h
  refine j_callVi E (As := [.int a1, .int a2, .int (a3 + 1)]) (hlk _ _ _ _ _ er1) (cwV 3 E.1.2.2.2.2 gX3_lookForNot_X3_look rfl rfl rfl (by decide +kernel) (rk_X3_lookForNot_X3_look d)) (wX_g7 ad cI cZ _) rfl rfl rfl (Nat.le_of_ble_eq_true rfl) ⟨Nat.zero_le _, Nat.zero_le _⟩ dX3_lookForNot_6 ?_
  refine j_istore E (by decide) (lv' := [(4, .int r1.1), (0, .ref (ad 7)), (1, .int a1), (2, .int a2), (3, .int a3)]) rfl dX3_lookForNot_9 ?_
  refine j_aload_n E 1 rfl rfl dX3_lookForNot_11 ?_
  refine j_iconst E (kc_0) dX3_lookForNot_12 ?_
  obtain ⟨s2, es2, h⟩ := jle h
  refine j_put E 7 (wX_g7 ad cI cZ _) rfl 8 (ty := .boolean) (wX_p7_8 ad cI cZ _ _) tyX3_ok nmX3 in_X3_lookForNot_X3 (by decide) (List.mem_of_getElem? (i := 1) rfl) (fun _ h9 => h9) rfl (tyX3_ok 8 (by decide)) rfl rfl (Nat.le_of_ble_eq_true rfl) dX3_lookForNot_13 ?_
  refine j_st es2 ?_
  refine j_iload E 0 rfl dX3_lookForNot_16 ?_
  refine j_bipush E (kb_m2) dX3_lookForNot_18 ?_
  refine j_icmp_ne E (tgt := 26) (by decide) dX3_lookForNot_20 (fun c3 => ?_) (fun c3 => ?_)
  · have h := jif h c3
    refine j_iload E 0 rfl dX3_lookForNot_26 ?_
    refine j_iconst E (kc_m1) dX3_lookForNot_28 ?_
    refine j_icmp_ne E (tgt := 36) (by decide) dX3_lookForNot_29 (fun c4 => ?_) (fun c4 => ?_)
    · have h := jif h c4
      refine j_iconst E (kc_m1) dX3_lookForNot_36 ?_
      exact j_iret E hr rfl (Option.some.inj h) dX3_lookForNot_37
    · have h := jit h c4
      refine j_iload_n E 3 rfl rfl dX3_lookForNot_32 ?_
      refine j_goto E (tgt := 37) (by decide) dX3_lookForNot_33 ?_
      exact j_iret E hr rfl (Option.some.inj h) dX3_lookForNot_37
  · have h := jit h c3
    refine j_bipush E (kb_m2) dX3_lookForNot_23 ?_
    exact j_iret E hr rfl (Option.some.inj h) dX3_lookForNot_25
