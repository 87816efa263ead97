abbrev rm_X5_define : Room := { frames := 7, cells := 2, slots := 12, locals := 117 }
theorem in_X5_define_X5 : ∀ w ∈ u_ws RX5 TX5 4, w ∈ wsX5_define := fun w h => (List.mem_cons_of_mem _ (List.mem_append_left _ (List.mem_append_left _ (List.mem_append_left _ (List.mem_append_right _ h)))))
def f_X5_define (st : jS) (a1 : Int32) (a2 : Int32) : Option (Nat × Int32 × jS) :=
  (f_X5_refuseUnknownRule a1).bind fun r1 =>
  if ¬ r1 = 0 then some (r1, 0, st) else
  if a2 = (-1) then
    (f_X1_clear st).bind fun r4 =>
    (f_X0_give r4 a1 a2).bind fun r5 =>
    some (0, r5.1, r5.2)
  else
  (f_X5_refuseUnknownExpression st a2).bind fun r6 =>
  if ¬ r6.1 = 0 then some (r6.1, 0, r6.2) else
  (f_X1_clear r6.2).bind fun r8 =>
  (f_X0_give r8 a1 a2).bind fun r9 =>
  some (0, r9.1, r9.2)
set_option maxHeartbeats 4000000 in
set_option maxRecDepth 100000 in
theorem c_X5_define {l : Launch} {D : va_G} {ad : Nat → Nat} {cI cZ : ClassId} {st : jS} {a1 : Int32} {a2 : Int32} {o : (Nat × Int32 × jS)} (hstt : l.stackTraces = false) (h : f_X5_define st a1 a2 = some o) : CxI l D (jT cI cZ) (wX ad cI cZ) yX5_define wsX5_define (rm_X5_define) 2 12 [.ref (ad 0), .int a1, .int a2] st o := by
  refine cxI_of (o := o) (cc := cX5_define) (nL := 3) (own := RX5) hstt (by decide) rfl rfl (Nat.le_of_ble_eq_true rfl) (lv0 := [(0, .ref (ad 0)), (1, .int a1), (2, .int a2)]) rfl ?_
  intro p e s m args below meth c A EX hr
  have E := EX.1
  rw [f_X5_define] at h
  refine j_iload_n E 1 rfl rfl dX5_define_0 ?_
  obtain ⟨r1, er1, h⟩ := jbd h
  refine j_xcallSI EX (As := [.int a1]) (o := (r1, st)) (c_X5_refuseUnknownRule hstt er1) (cwS 1 E.1.2.2.2.2 gX5_define_X5_refuseUnknownRule rfl rfl rfl (by decide +kernel) ⟨Nat.le_of_ble_eq_true rfl, Nat.le_of_ble_eq_true rfl⟩) rfl rfl (Nat.le_of_ble_eq_true rfl) ⟨Nat.le_of_ble_eq_true rfl, Nat.le_of_ble_eq_true rfl⟩ ⟨Nat.le_of_ble_eq_true rfl, Nat.le_of_ble_eq_true rfl⟩ dX5_define_1 (fun hx => Option.some.inj (jit h hx)) (fun c2 => ?_)
  refine j_st (st' := st) rfl ?_
  have h := jif h (fun hn => hn c2)
  refine j_iload_n E 2 rfl rfl dX5_define_4 ?_
  refine j_iconst E (kc_m1) dX5_define_5 ?_
  refine j_icmp_eq E (tgt := 14) (by decide) dX5_define_6 (fun c3 => ?_) (fun c3 => ?_)
  · have h := jit h c3
    refine j_aload_n E 0 rfl rfl dX5_define_14 ?_
    refine j_get E 0 (wX_g0 ad cI cZ _) rfl 2 rfl in_X5_define_X5 (by decide) (List.mem_of_getElem? (i := 1) rfl) (fun _ h9 => h9) dX5_define_15 ?_
    obtain ⟨r4, er4, h⟩ := jbd h
    refine j_callVv E (As := []) (c_X1_clear er4) (cwV 0 E.1.2.2.2.2 gX5_define_X1_clear rfl rfl rfl (by decide +kernel) ⟨Nat.le_of_ble_eq_true rfl, Nat.le_of_ble_eq_true rfl⟩) (wX_g11 ad cI cZ _) rfl rfl rfl (Nat.le_of_ble_eq_true rfl) ⟨Nat.le_of_ble_eq_true rfl, Nat.le_of_ble_eq_true rfl⟩ dX5_define_18 ?_
    refine j_aload_n E 0 rfl rfl dX5_define_21 ?_
    refine j_get E 0 (wX_g0 ad cI cZ _) rfl 0 rfl in_X5_define_X5 (by decide) (List.mem_of_getElem? (i := 2) rfl) (fun _ h9 => h9) dX5_define_22 ?_
    refine j_iload_n E 1 rfl rfl dX5_define_25 ?_
    refine j_iload_n E 2 rfl rfl dX5_define_26 ?_
    obtain ⟨r5, er5, h⟩ := jbd h
    refine j_callVi E (As := [.int a1, .int a2]) (c_X0_give er5) (cwV 2 E.1.2.2.2.2 gX5_define_X0_give rfl rfl rfl (by decide +kernel) ⟨Nat.le_of_ble_eq_true rfl, Nat.le_of_ble_eq_true rfl⟩) (wX_g1 ad cI cZ _) rfl rfl rfl (Nat.le_of_ble_eq_true rfl) ⟨Nat.le_of_ble_eq_true rfl, Nat.le_of_ble_eq_true rfl⟩ dX5_define_27 ?_
    exact j_xiret EX hr rfl (Option.some.inj h) ⟨Nat.le_of_ble_eq_true rfl, Nat.le_of_ble_eq_true rfl⟩ dX5_define_30
  · have h := jif h c3
    refine j_aload_n E 0 rfl rfl dX5_define_9 ?_
    refine j_iload_n E 2 rfl rfl dX5_define_10 ?_
    obtain ⟨r6, er6, h⟩ := jbd h
    refine j_xcallVI EX (As := [.int a2]) (c_X5_refuseUnknownExpression hstt er6) (cwV 1 E.1.2.2.2.2 gX5_define_X5_refuseUnknownExpression rfl rfl rfl (by decide +kernel) ⟨Nat.le_of_ble_eq_true rfl, Nat.le_of_ble_eq_true rfl⟩) (wX_g0 ad cI cZ _) rfl rfl rfl (Nat.le_of_ble_eq_true rfl) ⟨Nat.le_of_ble_eq_true rfl, Nat.le_of_ble_eq_true rfl⟩ ⟨Nat.le_of_ble_eq_true rfl, Nat.le_of_ble_eq_true rfl⟩ dX5_define_11 (fun hx => Option.some.inj (jit h hx)) (fun c7 => ?_)
    have h := jif h (fun hn => hn c7)
    refine j_aload_n E 0 rfl rfl dX5_define_14 ?_
    refine j_get E 0 (wX_g0 ad cI cZ _) rfl 2 rfl in_X5_define_X5 (by decide) (List.mem_of_getElem? (i := 1) rfl) (fun _ h9 => h9) dX5_define_15 ?_
    obtain ⟨r8, er8, h⟩ := jbd h
    refine j_callVv E (As := []) (c_X1_clear er8) (cwV 0 E.1.2.2.2.2 gX5_define_X1_clear rfl rfl rfl (by decide +kernel) ⟨Nat.le_of_ble_eq_true rfl, Nat.le_of_ble_eq_true rfl⟩) (wX_g11 ad cI cZ _) rfl rfl rfl (Nat.le_of_ble_eq_true rfl) ⟨Nat.le_of_ble_eq_true rfl, Nat.le_of_ble_eq_true rfl⟩ dX5_define_18 ?_
    refine j_aload_n E 0 rfl rfl dX5_define_21 ?_
    refine j_get E 0 (wX_g0 ad cI cZ _) rfl 0 rfl in_X5_define_X5 (by decide) (List.mem_of_getElem? (i := 2) rfl) (fun _ h9 => h9) dX5_define_22 ?_
    refine j_iload_n E 1 rfl rfl dX5_define_25 ?_
    refine j_iload_n E 2 rfl rfl dX5_define_26 ?_
    obtain ⟨r9, er9, h⟩ := jbd h
    refine j_callVi E (As := [.int a1, .int a2]) (c_X0_give er9) (cwV 2 E.1.2.2.2.2 gX5_define_X0_give rfl rfl rfl (by decide +kernel) ⟨Nat.le_of_ble_eq_true rfl, Nat.le_of_ble_eq_true rfl⟩) (wX_g1 ad cI cZ _) rfl rfl rfl (Nat.le_of_ble_eq_true rfl) ⟨Nat.le_of_ble_eq_true rfl, Nat.le_of_ble_eq_true rfl⟩ dX5_define_27 ?_
    exact j_xiret EX hr rfl (Option.some.inj h) ⟨Nat.le_of_ble_eq_true rfl, Nat.le_of_ble_eq_true rfl⟩ dX5_define_30
abbrev rm_X5_canBeEmpty : Room := { frames := 7, cells := 1, slots := 6, locals := 117 }
theorem in_X5_canBeEmpty_X5 : ∀ w ∈ u_ws RX5 TX5 4, w ∈ wsX5_canBeEmpty := fun w h => (List.mem_cons_of_mem _ (List.mem_append_left _ (List.mem_append_left _ (List.mem_append_right _ h))))
def f_X5_canBeEmpty (st : jS) (a1 : Int32) : Option (Nat × Int32 × jS) :=
  (f_X5_refuseUnknownExpression st a1).bind fun r1 =>
  if ¬ r1.1 = 0 then some (r1.1, 0, r1.2) else
  (f_X0_succeedsInPlace r1.2 a1).bind fun r3 =>
  bif jnb r3.1 then none else
  some (0, r3.1, r3.2)
set_option maxHeartbeats 4000000 in
set_option maxRecDepth 100000 in
theorem c_X5_canBeEmpty {l : Launch} {D : va_G} {ad : Nat → Nat} {cI cZ : ClassId} {st : jS} {a1 : Int32} {o : (Nat × Int32 × jS)} (hstt : l.stackTraces = false) (h : f_X5_canBeEmpty st a1 = some o) : CxI l D (jT cI cZ) (wX ad cI cZ) yX5_canBeEmpty wsX5_canBeEmpty (rm_X5_canBeEmpty) 1 6 [.ref (ad 0), .int a1] st o := by
  refine cxI_of (o := o) (cc := cX5_canBeEmpty) (nL := 2) (own := RX5) hstt (by decide) rfl rfl (Nat.le_of_ble_eq_true rfl) (lv0 := [(0, .ref (ad 0)), (1, .int a1)]) rfl ?_
  intro p e s m args below meth c A EX hr
  have E := EX.1
  rw [f_X5_canBeEmpty] at h
  refine j_aload_n E 0 rfl rfl dX5_canBeEmpty_0 ?_
  refine j_iload_n E 1 rfl rfl dX5_canBeEmpty_1 ?_
  obtain ⟨r1, er1, h⟩ := jbd h
  refine j_xcallVI EX (As := [.int a1]) (c_X5_refuseUnknownExpression hstt er1) (cwV 1 E.1.2.2.2.2 gX5_canBeEmpty_X5_refuseUnknownExpression rfl rfl rfl (by decide +kernel) ⟨Nat.le_of_ble_eq_true rfl, Nat.le_of_ble_eq_true rfl⟩) (wX_g0 ad cI cZ _) rfl rfl rfl (Nat.le_of_ble_eq_true rfl) ⟨Nat.le_of_ble_eq_true rfl, Nat.le_of_ble_eq_true rfl⟩ ⟨Nat.le_of_ble_eq_true rfl, Nat.le_of_ble_eq_true rfl⟩ dX5_canBeEmpty_2 (fun hx => Option.some.inj (jit h hx)) (fun c2 => ?_)
  have h := jif h (fun hn => hn c2)
  refine j_aload_n E 0 rfl rfl dX5_canBeEmpty_5 ?_
  refine j_get E 0 (wX_g0 ad cI cZ _) rfl 0 rfl in_X5_canBeEmpty_X5 (by decide) (List.mem_of_getElem? (i := 1) rfl) (fun _ h9 => h9) dX5_canBeEmpty_6 ?_
  refine j_iload_n E 1 rfl rfl dX5_canBeEmpty_9 ?_
  obtain ⟨r3, er3, h⟩ := jbd h
  refine j_callVi E (As := [.int a1]) (c_X0_succeedsInPlace er3) (cwV 1 E.1.2.2.2.2 gX5_canBeEmpty_X0_succeedsInPlace rfl rfl rfl (by decide +kernel) ⟨Nat.le_of_ble_eq_true rfl, Nat.le_of_ble_eq_true rfl⟩) (wX_g1 ad cI cZ _) rfl rfl rfl (Nat.le_of_ble_eq_true rfl) ⟨Nat.le_of_ble_eq_true rfl, Nat.le_of_ble_eq_true rfl⟩ dX5_canBeEmpty_10 ?_
  obtain ⟨b4, h⟩ := jnb_else h
  exact j_xiret EX hr b4 (Option.some.inj h) ⟨Nat.le_of_ble_eq_true rfl, Nat.le_of_ble_eq_true rfl⟩ dX5_canBeEmpty_13
abbrev rm_X5_isLeftRecursive : Room := { frames := 7, cells := 1, slots := 6, locals := 116 }
theorem in_X5_isLeftRecursive_X5 : ∀ w ∈ u_ws RX5 TX5 4, w ∈ wsX5_isLeftRecursive := fun w h => (List.mem_cons_of_mem _ (List.mem_append_left _ (List.mem_append_left _ (List.mem_append_right _ h))))
def f_X5_isLeftRecursive (st : jS) (a1 : Int32) : Option (Nat × Int32 × jS) :=
  (f_X5_refuseUnknownRule a1).bind fun r1 =>
  if ¬ r1 = 0 then some (r1, 0, st) else
  (f_X0_beginsWithItself st a1).bind fun r3 =>
  bif jnb r3.1 then none else
  some (0, r3.1, r3.2)
set_option maxHeartbeats 4000000 in
set_option maxRecDepth 100000 in
theorem c_X5_isLeftRecursive {l : Launch} {D : va_G} {ad : Nat → Nat} {cI cZ : ClassId} {st : jS} {a1 : Int32} {o : (Nat × Int32 × jS)} (hstt : l.stackTraces = false) (h : f_X5_isLeftRecursive st a1 = some o) : CxI l D (jT cI cZ) (wX ad cI cZ) yX5_isLeftRecursive wsX5_isLeftRecursive (rm_X5_isLeftRecursive) 1 6 [.ref (ad 0), .int a1] st o := by
  refine cxI_of (o := o) (cc := cX5_isLeftRecursive) (nL := 2) (own := RX5) hstt (by decide) rfl rfl (Nat.le_of_ble_eq_true rfl) (lv0 := [(0, .ref (ad 0)), (1, .int a1)]) rfl ?_
  intro p e s m args below meth c A EX hr
  have E := EX.1
  rw [f_X5_isLeftRecursive] at h
  refine j_iload_n E 1 rfl rfl dX5_isLeftRecursive_0 ?_
  obtain ⟨r1, er1, h⟩ := jbd h
  refine j_xcallSI EX (As := [.int a1]) (o := (r1, st)) (c_X5_refuseUnknownRule hstt er1) (cwS 1 E.1.2.2.2.2 gX5_isLeftRecursive_X5_refuseUnknownRule rfl rfl rfl (by decide +kernel) ⟨Nat.le_of_ble_eq_true rfl, Nat.le_of_ble_eq_true rfl⟩) rfl rfl (Nat.le_of_ble_eq_true rfl) ⟨Nat.le_of_ble_eq_true rfl, Nat.le_of_ble_eq_true rfl⟩ ⟨Nat.le_of_ble_eq_true rfl, Nat.le_of_ble_eq_true rfl⟩ dX5_isLeftRecursive_1 (fun hx => Option.some.inj (jit h hx)) (fun c2 => ?_)
  refine j_st (st' := st) rfl ?_
  have h := jif h (fun hn => hn c2)
  refine j_aload_n E 0 rfl rfl dX5_isLeftRecursive_4 ?_
  refine j_get E 0 (wX_g0 ad cI cZ _) rfl 0 rfl in_X5_isLeftRecursive_X5 (by decide) (List.mem_of_getElem? (i := 1) rfl) (fun _ h9 => h9) dX5_isLeftRecursive_5 ?_
  refine j_iload_n E 1 rfl rfl dX5_isLeftRecursive_8 ?_
  obtain ⟨r3, er3, h⟩ := jbd h
  refine j_callVi E (As := [.int a1]) (c_X0_beginsWithItself er3) (cwV 1 E.1.2.2.2.2 gX5_isLeftRecursive_X0_beginsWithItself rfl rfl rfl (by decide +kernel) ⟨Nat.le_of_ble_eq_true rfl, Nat.le_of_ble_eq_true rfl⟩) (wX_g1 ad cI cZ _) rfl rfl rfl (Nat.le_of_ble_eq_true rfl) ⟨Nat.le_of_ble_eq_true rfl, Nat.le_of_ble_eq_true rfl⟩ dX5_isLeftRecursive_9 ?_
  obtain ⟨b4, h⟩ := jnb_else h
  exact j_xiret EX hr b4 (Option.some.inj h) ⟨Nat.le_of_ble_eq_true rfl, Nat.le_of_ble_eq_true rfl⟩ dX5_isLeftRecursive_12
abbrev rm_X5_replace : Room := { frames := 6, cells := 1, slots := 6, locals := 96 }
theorem in_X5_replace_X4 : ∀ w ∈ u_ws RX4 TX4 2, w ∈ wsX5_replace := fun w h => (List.mem_cons_of_mem _ (List.mem_append_left _ (List.mem_append_left _ (List.mem_append_left _ (List.mem_append_left _ (List.mem_append_right _ h))))))
theorem in_X5_replace_X5 : ∀ w ∈ u_ws RX5 TX5 4, w ∈ wsX5_replace := fun w h => (List.mem_cons_of_mem _ (List.mem_append_left _ (List.mem_append_left _ (List.mem_append_left _ (List.mem_append_left _ (List.mem_append_left _ (List.mem_append_right _ h)))))))
def f_X5_replace (st : jS) (a1 : Int32) (a2 : Int32) (a3 : Int64) : Option (Nat × Int32 × jS) :=
  if a1 < 0 then
    some (3, 0, st)
  else
  if a2 < 0 then
    some (3, 0, st)
  else
  if a1 > (st.2 1) then
    some (3, 0, st)
  else
  if a2 ≤ ((st.2 1) - a1) then
    (f_X5_areBytes a3).bind fun r5 =>
    if r5 = 0 then
      some (1, 0, st)
    else
    (f_X5_countBytes a3).bind fun r7 =>
    if (((st.2 1) - a2) + r7) ≤ 40 then
      (f_X1_keepUnchanged st a1 (a1 + a2)).bind fun r9 =>
      (f_X1_shift r9.2 (a1 + a2) (r7 - a2)).bind fun r10 =>
      (f_X4_splice r10 a1 a2 a3).bind fun r11 =>
      some (0, r9.1, r11)
    else
    some (2, 0, st)
  else
  some (3, 0, st)
set_option maxHeartbeats 4000000 in
set_option maxRecDepth 100000 in
theorem c_X5_replace {l : Launch} {D : va_G} {ad : Nat → Nat} {cI cZ : ClassId} {st : jS} {a1 : Int32} {a2 : Int32} {a3 : Int64} {o : (Nat × Int32 × jS)} (hstt : l.stackTraces = false) (h : f_X5_replace st a1 a2 a3 = some o) : CxI l D (jT cI cZ) (wX ad cI cZ) yX5_replace wsX5_replace (rm_X5_replace) 1 6 [.ref (ad 0), .int a1, .int a2, .long a3] st o := by
  refine cxI_of (o := o) (cc := cX5_replace) (nL := 7) (own := RX5) hstt (by decide) rfl rfl (Nat.le_of_ble_eq_true rfl) (lv0 := [(0, .ref (ad 0)), (1, .int a1), (2, .int a2), (3, .long a3)]) rfl ?_
  intro p e s m args below meth c A EX hr
  have E := EX.1
  rw [f_X5_replace] at h
  refine j_iload_n E 1 rfl rfl dX5_replace_0 ?_
  refine j_if_lt E (tgt := 32) (by decide) dX5_replace_1 (fun c1 => ?_) (fun c1 => ?_)
  · have h := jit h c1
    exact j_xthrowI3 EX (List.mem_of_getElem? (i := 1) rfl) (List.mem_of_getElem? (i := 2) rfl) (fun w h9 => (List.mem_cons_of_mem _ (List.mem_append_left _ (List.mem_append_left _ (List.mem_append_right _ h9))))) (List.mem_of_getElem? (i := 4) rfl) (Option.some.inj h) ⟨Nat.le_of_ble_eq_true rfl, Nat.le_of_ble_eq_true rfl, Nat.le_of_ble_eq_true rfl, Nat.le_of_ble_eq_true rfl⟩ ⟨Nat.le_of_ble_eq_true rfl, Nat.le_of_ble_eq_true rfl⟩ dX5_replace_32 dX5_replace_35 dX5_replace_36 dX5_replace_38 dX5_replace_41
  · have h := jif h c1
    refine j_iload_n E 2 rfl rfl dX5_replace_4 ?_
    refine j_if_lt E (tgt := 32) (by decide) dX5_replace_5 (fun c2 => ?_) (fun c2 => ?_)
    · have h := jit h c2
      exact j_xthrowI3 EX (List.mem_of_getElem? (i := 1) rfl) (List.mem_of_getElem? (i := 2) rfl) (fun w h9 => (List.mem_cons_of_mem _ (List.mem_append_left _ (List.mem_append_left _ (List.mem_append_right _ h9))))) (List.mem_of_getElem? (i := 4) rfl) (Option.some.inj h) ⟨Nat.le_of_ble_eq_true rfl, Nat.le_of_ble_eq_true rfl, Nat.le_of_ble_eq_true rfl, Nat.le_of_ble_eq_true rfl⟩ ⟨Nat.le_of_ble_eq_true rfl, Nat.le_of_ble_eq_true rfl⟩ dX5_replace_32 dX5_replace_35 dX5_replace_36 dX5_replace_38 dX5_replace_41
    · have h := jif h c2
      refine j_iload_n E 1 rfl rfl dX5_replace_8 ?_
      refine j_aload_n E 0 rfl rfl dX5_replace_9 ?_
      refine j_get E 0 (wX_g0 ad cI cZ _) rfl 1 rfl in_X5_replace_X5 (by decide) (List.mem_of_getElem? (i := 7) rfl) (fun _ h9 => h9) dX5_replace_10 ?_
      refine j_getN E 9 (wX_g9 ad cI cZ _) rfl 1 rfl in_X5_replace_X4 (by decide) (E.2.2.2.1.1 _ (List.mem_of_getElem? (i := 7) rfl)) (fun _ h9 => h9) dX5_replace_13 ?_
      refine j_icmp_gt E (tgt := 32) (by decide) dX5_replace_16 (fun c3 => ?_) (fun c3 => ?_)
      · have h := jit h c3
        exact j_xthrowI3 EX (List.mem_of_getElem? (i := 1) rfl) (List.mem_of_getElem? (i := 2) rfl) (fun w h9 => (List.mem_cons_of_mem _ (List.mem_append_left _ (List.mem_append_left _ (List.mem_append_right _ h9))))) (List.mem_of_getElem? (i := 4) rfl) (Option.some.inj h) ⟨Nat.le_of_ble_eq_true rfl, Nat.le_of_ble_eq_true rfl, Nat.le_of_ble_eq_true rfl, Nat.le_of_ble_eq_true rfl⟩ ⟨Nat.le_of_ble_eq_true rfl, Nat.le_of_ble_eq_true rfl⟩ dX5_replace_32 dX5_replace_35 dX5_replace_36 dX5_replace_38 dX5_replace_41
      · have h := jif h c3
        refine j_iload_n E 2 rfl rfl dX5_replace_19 ?_
        refine j_aload_n E 0 rfl rfl dX5_replace_20 ?_
        refine j_get E 0 (wX_g0 ad cI cZ _) rfl 1 rfl in_X5_replace_X5 (by decide) (List.mem_of_getElem? (i := 7) rfl) (fun _ h9 => h9) dX5_replace_21 ?_
        refine j_getN E 9 (wX_g9 ad cI cZ _) rfl 1 rfl in_X5_replace_X4 (by decide) (E.2.2.2.1.1 _ (List.mem_of_getElem? (i := 7) rfl)) (fun _ h9 => h9) dX5_replace_24 ?_
        refine j_iload_n E 1 rfl rfl dX5_replace_27 ?_
        refine j_isub E dX5_replace_28 ?_
        refine j_icmp_le E (tgt := 42) (by decide) dX5_replace_29 (fun c4 => ?_) (fun c4 => ?_)
        · have h := jit h c4
          refine j_lload_n E 3 rfl rfl dX5_replace_42 ?_
          obtain ⟨r5, er5, h⟩ := jbd h
          refine j_callSi E (As := [.long a3]) (c_X5_areBytes er5) (va_cwS 1 E.1.2.2.2.2 gX5_replace_X5_areBytes rfl rfl rfl (by decide +kernel) ⟨Nat.le_of_ble_eq_true rfl, Nat.le_of_ble_eq_true rfl⟩) rfl rfl (Nat.le_of_ble_eq_true rfl) ⟨Nat.le_of_ble_eq_true rfl, Nat.le_of_ble_eq_true rfl⟩ dX5_replace_43 ?_
          refine j_if_ne E (tgt := 59) (by decide) dX5_replace_46 (fun c6 => ?_) (fun c6 => ?_)
          · have h := jif h c6
            refine j_lload_n E 3 rfl rfl dX5_replace_59 ?_
            obtain ⟨r7, er7, h⟩ := jbd h
            refine j_callSi E (As := [.long a3]) (c_X5_countBytes er7) (va_cwS 1 E.1.2.2.2.2 gX5_replace_X5_countBytes rfl rfl rfl (by decide +kernel) ⟨Nat.le_of_ble_eq_true rfl, Nat.le_of_ble_eq_true rfl⟩) rfl rfl (Nat.le_of_ble_eq_true rfl) ⟨Nat.le_of_ble_eq_true rfl, Nat.le_of_ble_eq_true rfl⟩ dX5_replace_60 ?_
            refine j_istore E (by decide) (lv' := [(5, .int r7), (0, .ref (ad 0)), (1, .int a1), (2, .int a2), (3, .long a3)]) rfl dX5_replace_63 ?_
            refine j_aload_n E 1 rfl rfl dX5_replace_65 ?_
            refine j_get E 0 (wX_g0 ad cI cZ _) rfl 1 rfl in_X5_replace_X5 (by decide) (List.mem_of_getElem? (i := 7) rfl) (fun _ h9 => h9) dX5_replace_66 ?_
            refine j_getN E 9 (wX_g9 ad cI cZ _) rfl 1 rfl in_X5_replace_X4 (by decide) (E.2.2.2.1.1 _ (List.mem_of_getElem? (i := 7) rfl)) (fun _ h9 => h9) dX5_replace_69 ?_
            refine j_iload_n E 3 rfl rfl dX5_replace_72 ?_
            refine j_isub E dX5_replace_73 ?_
            refine j_iload E 0 rfl dX5_replace_74 ?_
            refine j_iadd E dX5_replace_76 ?_
            refine j_bipush E (kb_40) dX5_replace_77 ?_
            refine j_icmp_le E (tgt := 92) (by decide) dX5_replace_79 (fun c8 => ?_) (fun c8 => ?_)
            · have h := jit h c8
              refine j_aload_n E 1 rfl rfl dX5_replace_92 ?_
              refine j_get E 0 (wX_g0 ad cI cZ _) rfl 2 rfl in_X5_replace_X5 (by decide) (List.mem_of_getElem? (i := 8) rfl) (fun _ h9 => h9) dX5_replace_93 ?_
              refine j_iload_n E 2 rfl rfl dX5_replace_96 ?_
              refine j_iload_n E 2 rfl rfl dX5_replace_97 ?_
              refine j_iload_n E 3 rfl rfl dX5_replace_98 ?_
              refine j_iadd E dX5_replace_99 ?_
              obtain ⟨r9, er9, h⟩ := jbd h
              refine j_callVi E (As := [.int a1, .int (a1 + a2)]) (c_X1_keepUnchanged er9) (cwV 2 E.1.2.2.2.2 gX5_replace_X1_keepUnchanged rfl rfl rfl (by decide +kernel) ⟨Nat.le_of_ble_eq_true rfl, Nat.le_of_ble_eq_true rfl⟩) (wX_g11 ad cI cZ _) rfl rfl rfl (Nat.le_of_ble_eq_true rfl) ⟨Nat.le_of_ble_eq_true rfl, Nat.le_of_ble_eq_true rfl⟩ dX5_replace_100 ?_
              refine j_istore E (by decide) (lv' := [(6, .int r9.1), (5, .int r7), (0, .ref (ad 0)), (1, .int a1), (2, .int a2), (3, .long a3)]) rfl dX5_replace_103 ?_
              refine j_aload_n E 2 rfl rfl dX5_replace_105 ?_
              refine j_get E 0 (wX_g0 ad cI cZ _) rfl 2 rfl in_X5_replace_X5 (by decide) (List.mem_of_getElem? (i := 8) rfl) (fun _ h9 => h9) dX5_replace_106 ?_
              refine j_iload_n E 3 rfl rfl dX5_replace_109 ?_
              refine j_iload_n E 4 rfl rfl dX5_replace_110 ?_
              refine j_iadd E dX5_replace_111 ?_
              refine j_iload E 1 rfl dX5_replace_112 ?_
              refine j_iload_n E 4 rfl rfl dX5_replace_114 ?_
              refine j_isub E dX5_replace_115 ?_
              obtain ⟨r10, er10, h⟩ := jbd h
              refine j_callVv E (As := [.int (a1 + a2), .int (r7 - a2)]) (c_X1_shift er10) (cwV 2 E.1.2.2.2.2 gX5_replace_X1_shift rfl rfl rfl (by decide +kernel) ⟨Nat.le_of_ble_eq_true rfl, Nat.le_of_ble_eq_true rfl⟩) (wX_g11 ad cI cZ _) rfl rfl rfl (Nat.le_of_ble_eq_true rfl) ⟨Nat.le_of_ble_eq_true rfl, Nat.le_of_ble_eq_true rfl⟩ dX5_replace_116 ?_
              refine j_aload_n E 2 rfl rfl dX5_replace_119 ?_
              refine j_get E 0 (wX_g0 ad cI cZ _) rfl 1 rfl in_X5_replace_X5 (by decide) (List.mem_of_getElem? (i := 7) rfl) (fun _ h9 => h9) dX5_replace_120 ?_
              refine j_iload_n E 3 rfl rfl dX5_replace_123 ?_
              refine j_iload_n E 4 rfl rfl dX5_replace_124 ?_
              refine j_lload_n E 5 rfl rfl dX5_replace_125 ?_
              obtain ⟨r11, er11, h⟩ := jbd h
              refine j_callVv E (As := [.int a1, .int a2, .long a3]) (c_X4_splice er11) (cwV 3 E.1.2.2.2.2 gX5_replace_X4_splice rfl rfl rfl (by decide +kernel) ⟨Nat.le_of_ble_eq_true rfl, Nat.le_of_ble_eq_true rfl⟩) (wX_g9 ad cI cZ _) rfl rfl rfl (Nat.le_of_ble_eq_true rfl) ⟨Nat.le_of_ble_eq_true rfl, Nat.le_of_ble_eq_true rfl⟩ dX5_replace_126 ?_
              refine j_iload E 0 rfl dX5_replace_129 ?_
              exact j_xiret EX hr rfl (Option.some.inj h) ⟨Nat.le_of_ble_eq_true rfl, Nat.le_of_ble_eq_true rfl⟩ dX5_replace_131
            · have h := jif h c8
              exact j_xthrowI2 EX (List.mem_of_getElem? (i := 5) rfl) (List.mem_of_getElem? (i := 6) rfl) (fun w h9 => (List.mem_cons_of_mem _ (List.mem_append_right _ h9))) (List.mem_of_getElem? (i := 6) rfl) (Option.some.inj h) ⟨Nat.le_of_ble_eq_true rfl, Nat.le_of_ble_eq_true rfl, Nat.le_of_ble_eq_true rfl, Nat.le_of_ble_eq_true rfl⟩ ⟨Nat.le_of_ble_eq_true rfl, Nat.le_of_ble_eq_true rfl⟩ dX5_replace_82 dX5_replace_85 dX5_replace_86 dX5_replace_88 dX5_replace_91
          · have h := jit h c6
            exact j_xthrowI1 EX (List.mem_of_getElem? (i := 3) rfl) (List.mem_of_getElem? (i := 4) rfl) (fun w h9 => (List.mem_cons_of_mem _ (List.mem_append_left _ (List.mem_append_right _ h9)))) (List.mem_of_getElem? (i := 5) rfl) (Option.some.inj h) ⟨Nat.le_of_ble_eq_true rfl, Nat.le_of_ble_eq_true rfl, Nat.le_of_ble_eq_true rfl, Nat.le_of_ble_eq_true rfl⟩ ⟨Nat.le_of_ble_eq_true rfl, Nat.le_of_ble_eq_true rfl⟩ dX5_replace_49 dX5_replace_52 dX5_replace_53 dX5_replace_55 dX5_replace_58
        · have h := jif h c4
          exact j_xthrowI3 EX (List.mem_of_getElem? (i := 1) rfl) (List.mem_of_getElem? (i := 2) rfl) (fun w h9 => (List.mem_cons_of_mem _ (List.mem_append_left _ (List.mem_append_left _ (List.mem_append_right _ h9))))) (List.mem_of_getElem? (i := 4) rfl) (Option.some.inj h) ⟨Nat.le_of_ble_eq_true rfl, Nat.le_of_ble_eq_true rfl, Nat.le_of_ble_eq_true rfl, Nat.le_of_ble_eq_true rfl⟩ ⟨Nat.le_of_ble_eq_true rfl, Nat.le_of_ble_eq_true rfl⟩ dX5_replace_32 dX5_replace_35 dX5_replace_36 dX5_replace_38 dX5_replace_41
abbrev rm_X5_byteAt : Room := { frames := 6, cells := 1, slots := 6, locals := 96 }
theorem in_X5_byteAt_X5 : ∀ w ∈ u_ws RX5 TX5 4, w ∈ wsX5_byteAt := fun w h => (List.mem_cons_of_mem _ (List.mem_append_left _ (List.mem_append_left _ (List.mem_append_right _ h))))
def f_X5_byteAt (st : jS) (a1 : Int32) : Option (Nat × Int32 × jS) :=
  (f_X4_hasByte st a1).bind fun r1 =>
  if r1.1 = 0 then
    some (3, 0, r1.2)
  else
  (f_X4_byteOrNone r1.2 a1).bind fun r3 =>
  some (0, r3.1, r3.2)
set_option maxHeartbeats 4000000 in
set_option maxRecDepth 100000 in
theorem c_X5_byteAt {l : Launch} {D : va_G} {ad : Nat → Nat} {cI cZ : ClassId} {st : jS} {a1 : Int32} {o : (Nat × Int32 × jS)} (hstt : l.stackTraces = false) (h : f_X5_byteAt st a1 = some o) : CxI l D (jT cI cZ) (wX ad cI cZ) yX5_byteAt wsX5_byteAt (rm_X5_byteAt) 1 6 [.ref (ad 0), .int a1] st o := by
  refine cxI_of (o := o) (cc := cX5_byteAt) (nL := 2) (own := RX5) hstt (by decide) rfl rfl (Nat.le_of_ble_eq_true rfl) (lv0 := [(0, .ref (ad 0)), (1, .int a1)]) rfl ?_
  intro p e s m args below meth c A EX hr
  have E := EX.1
  rw [f_X5_byteAt] at h
  refine j_aload_n E 0 rfl rfl dX5_byteAt_0 ?_
  refine j_get E 0 (wX_g0 ad cI cZ _) rfl 1 rfl in_X5_byteAt_X5 (by decide) (List.mem_of_getElem? (i := 3) rfl) (fun _ h9 => h9) dX5_byteAt_1 ?_
  refine j_iload_n E 1 rfl rfl dX5_byteAt_4 ?_
  obtain ⟨r1, er1, h⟩ := jbd h
  refine j_callVi E (As := [.int a1]) (c_X4_hasByte er1) (cwV 1 E.1.2.2.2.2 gX5_byteAt_X4_hasByte rfl rfl rfl (by decide +kernel) ⟨Nat.le_of_ble_eq_true rfl, Nat.le_of_ble_eq_true rfl⟩) (wX_g9 ad cI cZ _) rfl rfl rfl (Nat.le_of_ble_eq_true rfl) ⟨Nat.le_of_ble_eq_true rfl, Nat.le_of_ble_eq_true rfl⟩ dX5_byteAt_5 ?_
  refine j_if_ne E (tgt := 21) (by decide) dX5_byteAt_8 (fun c2 => ?_) (fun c2 => ?_)
  · have h := jif h c2
    refine j_aload_n E 0 rfl rfl dX5_byteAt_21 ?_
    refine j_get E 0 (wX_g0 ad cI cZ _) rfl 1 rfl in_X5_byteAt_X5 (by decide) (List.mem_of_getElem? (i := 3) rfl) (fun _ h9 => h9) dX5_byteAt_22 ?_
    refine j_iload_n E 1 rfl rfl dX5_byteAt_25 ?_
    obtain ⟨r3, er3, h⟩ := jbd h
    refine j_callVi E (As := [.int a1]) (c_X4_byteOrNone er3) (cwV 1 E.1.2.2.2.2 gX5_byteAt_X4_byteOrNone rfl rfl rfl (by decide +kernel) ⟨Nat.le_of_ble_eq_true rfl, Nat.le_of_ble_eq_true rfl⟩) (wX_g9 ad cI cZ _) rfl rfl rfl (Nat.le_of_ble_eq_true rfl) ⟨Nat.le_of_ble_eq_true rfl, Nat.le_of_ble_eq_true rfl⟩ dX5_byteAt_26 ?_
    exact j_xiret EX hr rfl (Option.some.inj h) ⟨Nat.le_of_ble_eq_true rfl, Nat.le_of_ble_eq_true rfl⟩ dX5_byteAt_29
  · have h := jit h c2
    exact j_xthrowI3 EX (List.mem_of_getElem? (i := 1) rfl) (List.mem_of_getElem? (i := 2) rfl) (fun w h9 => (List.mem_cons_of_mem _ (List.mem_append_right _ h9))) (List.mem_of_getElem? (i := 7) rfl) (Option.some.inj h) ⟨Nat.le_of_ble_eq_true rfl, Nat.le_of_ble_eq_true rfl, Nat.le_of_ble_eq_true rfl, Nat.le_of_ble_eq_true rfl⟩ ⟨Nat.le_of_ble_eq_true rfl, Nat.le_of_ble_eq_true rfl⟩ dX5_byteAt_11 dX5_byteAt_14 dX5_byteAt_15 dX5_byteAt_17 dX5_byteAt_20
abbrev rm_X5_parse : Room := { frames := 217, cells := 2, slots := 12, locals := 8663 }
theorem in_X5_parse_X5 : ∀ w ∈ u_ws RX5 TX5 4, w ∈ wsX5_parse := fun w h => (List.mem_cons_of_mem _ (List.mem_append_left _ (List.mem_append_left _ (List.mem_append_left _ (List.mem_append_left _ (List.mem_append_left _ (List.mem_append_left _ (List.mem_append_right _ h))))))))
def f_X5_parse (st : jS) (a1 : Int32) (a2 : Int32) : Option (Nat × Int32 × jS) :=
  (f_X5_refuseUnknownRule a1).bind fun r1 =>
  if ¬ r1 = 0 then some (r1, 0, st) else
  (f_X5_refuseUnknownPlace st a2).bind fun r3 =>
  if ¬ r3.1 = 0 then some (r3.1, 0, r3.2) else
  (f_X3_runT r3.2 a1 a2).bind fun r5 =>
  some (0, r5.1, r5.2)
set_option maxHeartbeats 4000000 in
set_option maxRecDepth 100000 in
theorem c_X5_parse {l : Launch} {D : va_G} {ad : Nat → Nat} {cI cZ : ClassId} {st : jS} {a1 : Int32} {a2 : Int32} {o : (Nat × Int32 × jS)} (hstt : l.stackTraces = false) (h : f_X5_parse st a1 a2 = some o) : CxI l D (jT cI cZ) (wX ad cI cZ) yX5_parse wsX5_parse (rm_X5_parse) 2 12 [.ref (ad 0), .int a1, .int a2] st o := by
  refine cxI_of (o := o) (cc := cX5_parse) (nL := 3) (own := RX5) hstt (by decide) rfl rfl (Nat.le_of_ble_eq_true rfl) (lv0 := [(0, .ref (ad 0)), (1, .int a1), (2, .int a2)]) rfl ?_
  intro p e s m args below meth c A EX hr
  have E := EX.1
  rw [f_X5_parse] at h
  refine j_iload_n E 1 rfl rfl dX5_parse_0 ?_
  obtain ⟨r1, er1, h⟩ := jbd h
  refine j_xcallSI EX (As := [.int a1]) (o := (r1, st)) (c_X5_refuseUnknownRule hstt er1) (cwS 1 E.1.2.2.2.2 gX5_parse_X5_refuseUnknownRule rfl rfl rfl (by decide +kernel) ⟨Nat.le_of_ble_eq_true rfl, Nat.le_of_ble_eq_true rfl⟩) rfl rfl (Nat.le_of_ble_eq_true rfl) ⟨Nat.le_of_ble_eq_true rfl, Nat.le_of_ble_eq_true rfl⟩ ⟨Nat.le_of_ble_eq_true rfl, Nat.le_of_ble_eq_true rfl⟩ dX5_parse_1 (fun hx => Option.some.inj (jit h hx)) (fun c2 => ?_)
  refine j_st (st' := st) rfl ?_
  have h := jif h (fun hn => hn c2)
  refine j_aload_n E 0 rfl rfl dX5_parse_4 ?_
  refine j_iload_n E 2 rfl rfl dX5_parse_5 ?_
  obtain ⟨r3, er3, h⟩ := jbd h
  refine j_xcallVI EX (As := [.int a2]) (c_X5_refuseUnknownPlace hstt er3) (cwV 1 E.1.2.2.2.2 gX5_parse_X5_refuseUnknownPlace rfl rfl rfl (by decide +kernel) ⟨Nat.le_of_ble_eq_true rfl, Nat.le_of_ble_eq_true rfl⟩) (wX_g0 ad cI cZ _) rfl rfl rfl (Nat.le_of_ble_eq_true rfl) ⟨Nat.le_of_ble_eq_true rfl, Nat.le_of_ble_eq_true rfl⟩ ⟨Nat.le_of_ble_eq_true rfl, Nat.le_of_ble_eq_true rfl⟩ dX5_parse_6 (fun hx => Option.some.inj (jit h hx)) (fun c4 => ?_)
  have h := jif h (fun hn => hn c4)
  refine j_aload_n E 0 rfl rfl dX5_parse_9 ?_
  refine j_get E 0 (wX_g0 ad cI cZ _) rfl 3 rfl in_X5_parse_X5 (by decide) (List.mem_of_getElem? (i := 1) rfl) (fun _ h9 => h9) dX5_parse_10 ?_
  refine j_iload_n E 1 rfl rfl dX5_parse_13 ?_
  refine j_iload_n E 2 rfl rfl dX5_parse_14 ?_
  obtain ⟨r5, er5, h⟩ := jbd h
  refine j_callVi E (As := [.int a1, .int a2]) (c_X3_runT er5) (cwV 2 E.1.2.2.2.2 gX5_parse_X3_run rfl rfl rfl (by decide +kernel) ⟨Nat.le_of_ble_eq_true rfl, Nat.le_of_ble_eq_true rfl⟩) (wX_g7 ad cI cZ _) rfl rfl rfl (Nat.le_of_ble_eq_true rfl) ⟨Nat.le_of_ble_eq_true rfl, Nat.le_of_ble_eq_true rfl⟩ dX5_parse_15 ?_
  exact j_xiret EX hr rfl (Option.some.inj h) ⟨Nat.le_of_ble_eq_true rfl, Nat.le_of_ble_eq_true rfl⟩ dX5_parse_18
abbrev rm_X5_result : Room := { frames := 7, cells := 2, slots := 12, locals := 117 }
theorem in_X5_result_X1 : ∀ w ∈ u_ws RX1 TX1 3, w ∈ wsX5_result := fun w h => (List.mem_cons_of_mem _ (List.mem_append_left _ (List.mem_append_left _ (List.mem_append_right _ h))))
theorem in_X5_result_X5 : ∀ w ∈ u_ws RX5 TX5 4, w ∈ wsX5_result := fun w h => (List.mem_cons_of_mem _ (List.mem_append_left _ (List.mem_append_left _ (List.mem_append_left _ (List.mem_append_right _ h)))))
def f_X5_result (st : jS) (a1 : Int32) (a2 : Int32) : Option (Nat × Int32 × jS) :=
  (f_X5_refuseUnknownRule a1).bind fun r1 =>
  if ¬ r1 = 0 then some (r1, 0, st) else
  (f_X5_refuseUnknownPlace st a2).bind fun r3 =>
  if ¬ r3.1 = 0 then some (r3.1, 0, r3.2) else
  (f_X5_cell a1 a2).bind fun r5 =>
  bif job r5 410 then none else
  some (0, (jag r3.2 12 r5), r3.2)
set_option maxHeartbeats 4000000 in
set_option maxRecDepth 100000 in
theorem c_X5_result {l : Launch} {D : va_G} {ad : Nat → Nat} {cI cZ : ClassId} {st : jS} {a1 : Int32} {a2 : Int32} {o : (Nat × Int32 × jS)} (hstt : l.stackTraces = false) (h : f_X5_result st a1 a2 = some o) : CxI l D (jT cI cZ) (wX ad cI cZ) yX5_result wsX5_result (rm_X5_result) 2 12 [.ref (ad 0), .int a1, .int a2] st o := by
  refine cxI_of (o := o) (cc := cX5_result) (nL := 3) (own := RX5) hstt (by decide) rfl rfl (Nat.le_of_ble_eq_true rfl) (lv0 := [(0, .ref (ad 0)), (1, .int a1), (2, .int a2)]) rfl ?_
  intro p e s m args below meth c A EX hr
  have E := EX.1
  rw [f_X5_result] at h
  refine j_iload_n E 1 rfl rfl dX5_result_0 ?_
  obtain ⟨r1, er1, h⟩ := jbd h
  refine j_xcallSI EX (As := [.int a1]) (o := (r1, st)) (c_X5_refuseUnknownRule hstt er1) (cwS 1 E.1.2.2.2.2 gX5_result_X5_refuseUnknownRule rfl rfl rfl (by decide +kernel) ⟨Nat.le_of_ble_eq_true rfl, Nat.le_of_ble_eq_true rfl⟩) rfl rfl (Nat.le_of_ble_eq_true rfl) ⟨Nat.le_of_ble_eq_true rfl, Nat.le_of_ble_eq_true rfl⟩ ⟨Nat.le_of_ble_eq_true rfl, Nat.le_of_ble_eq_true rfl⟩ dX5_result_1 (fun hx => Option.some.inj (jit h hx)) (fun c2 => ?_)
  refine j_st (st' := st) rfl ?_
  have h := jif h (fun hn => hn c2)
  refine j_aload_n E 0 rfl rfl dX5_result_4 ?_
  refine j_iload_n E 2 rfl rfl dX5_result_5 ?_
  obtain ⟨r3, er3, h⟩ := jbd h
  refine j_xcallVI EX (As := [.int a2]) (c_X5_refuseUnknownPlace hstt er3) (cwV 1 E.1.2.2.2.2 gX5_result_X5_refuseUnknownPlace rfl rfl rfl (by decide +kernel) ⟨Nat.le_of_ble_eq_true rfl, Nat.le_of_ble_eq_true rfl⟩) (wX_g0 ad cI cZ _) rfl rfl rfl (Nat.le_of_ble_eq_true rfl) ⟨Nat.le_of_ble_eq_true rfl, Nat.le_of_ble_eq_true rfl⟩ ⟨Nat.le_of_ble_eq_true rfl, Nat.le_of_ble_eq_true rfl⟩ dX5_result_6 (fun hx => Option.some.inj (jit h hx)) (fun c4 => ?_)
  have h := jif h (fun hn => hn c4)
  refine j_aload_n E 0 rfl rfl dX5_result_9 ?_
  refine j_get E 0 (wX_g0 ad cI cZ _) rfl 2 rfl in_X5_result_X5 (by decide) (List.mem_of_getElem? (i := 1) rfl) (fun _ h9 => h9) dX5_result_10 ?_
  refine j_getN E 11 (wX_g11 ad cI cZ _) rfl 0 rfl in_X5_result_X1 (by decide) (E.2.2.2.1.1 _ (List.mem_of_getElem? (i := 4) rfl)) (fun _ h9 => h9) dX5_result_13 ?_
  refine j_iload_n E 1 rfl rfl dX5_result_16 ?_
  refine j_iload_n E 2 rfl rfl dX5_result_17 ?_
  obtain ⟨r5, er5, h⟩ := jbd h
  refine j_callSi E (As := [.int a1, .int a2]) (c_X5_cell er5) (va_cwS 2 E.1.2.2.2.2 gX5_result_X5_cell rfl rfl rfl (by decide +kernel) ⟨Nat.le_of_ble_eq_true rfl, Nat.le_of_ble_eq_true rfl⟩) rfl rfl (Nat.le_of_ble_eq_true rfl) ⟨Nat.le_of_ble_eq_true rfl, Nat.le_of_ble_eq_true rfl⟩ dX5_result_18 ?_
  obtain ⟨b6, h⟩ := job_else h
  refine j_iald E 12 0 (wX_g12 ad cI cZ _) rfl b6 dX5_result_21 ?_
  exact j_xiret EX hr rfl (Option.some.inj h) ⟨Nat.le_of_ble_eq_true rfl, Nat.le_of_ble_eq_true rfl⟩ dX5_result_22
abbrev rm_X5_reach : Room := { frames := 7, cells := 2, slots := 12, locals := 117 }
theorem in_X5_reach_X1 : ∀ w ∈ u_ws RX1 TX1 3, w ∈ wsX5_reach := fun w h => (List.mem_cons_of_mem _ (List.mem_append_left _ (List.mem_append_left _ (List.mem_append_right _ h))))
theorem in_X5_reach_X5 : ∀ w ∈ u_ws RX5 TX5 4, w ∈ wsX5_reach := fun w h => (List.mem_cons_of_mem _ (List.mem_append_left _ (List.mem_append_left _ (List.mem_append_left _ (List.mem_append_right _ h)))))
def f_X5_reach (st : jS) (a1 : Int32) (a2 : Int32) : Option (Nat × Int32 × jS) :=
  (f_X5_refuseUnknownRule a1).bind fun r1 =>
  if ¬ r1 = 0 then some (r1, 0, st) else
  (f_X5_refuseUnknownPlace st a2).bind fun r3 =>
  if ¬ r3.1 = 0 then some (r3.1, 0, r3.2) else
  (f_X5_cell a1 a2).bind fun r5 =>
  bif job r5 410 then none else
  some (0, (jag r3.2 13 r5), r3.2)
set_option maxHeartbeats 4000000 in
set_option maxRecDepth 100000 in
theorem c_X5_reach {l : Launch} {D : va_G} {ad : Nat → Nat} {cI cZ : ClassId} {st : jS} {a1 : Int32} {a2 : Int32} {o : (Nat × Int32 × jS)} (hstt : l.stackTraces = false) (h : f_X5_reach st a1 a2 = some o) : CxI l D (jT cI cZ) (wX ad cI cZ) yX5_reach wsX5_reach (rm_X5_reach) 2 12 [.ref (ad 0), .int a1, .int a2] st o := by
  refine cxI_of (o := o) (cc := cX5_reach) (nL := 3) (own := RX5) hstt (by decide) rfl rfl (Nat.le_of_ble_eq_true rfl) (lv0 := [(0, .ref (ad 0)), (1, .int a1), (2, .int a2)]) rfl ?_
  intro p e s m args below meth c A EX hr
  have E := EX.1
  rw [f_X5_reach] at h
  refine j_iload_n E 1 rfl rfl dX5_reach_0 ?_
  obtain ⟨r1, er1, h⟩ := jbd h
  refine j_xcallSI EX (As := [.int a1]) (o := (r1, st)) (c_X5_refuseUnknownRule hstt er1) (cwS 1 E.1.2.2.2.2 gX5_reach_X5_refuseUnknownRule rfl rfl rfl (by decide +kernel) ⟨Nat.le_of_ble_eq_true rfl, Nat.le_of_ble_eq_true rfl⟩) rfl rfl (Nat.le_of_ble_eq_true rfl) ⟨Nat.le_of_ble_eq_true rfl, Nat.le_of_ble_eq_true rfl⟩ ⟨Nat.le_of_ble_eq_true rfl, Nat.le_of_ble_eq_true rfl⟩ dX5_reach_1 (fun hx => Option.some.inj (jit h hx)) (fun c2 => ?_)
  refine j_st (st' := st) rfl ?_
  have h := jif h (fun hn => hn c2)
  refine j_aload_n E 0 rfl rfl dX5_reach_4 ?_
  refine j_iload_n E 2 rfl rfl dX5_reach_5 ?_
  obtain ⟨r3, er3, h⟩ := jbd h
  refine j_xcallVI EX (As := [.int a2]) (c_X5_refuseUnknownPlace hstt er3) (cwV 1 E.1.2.2.2.2 gX5_reach_X5_refuseUnknownPlace rfl rfl rfl (by decide +kernel) ⟨Nat.le_of_ble_eq_true rfl, Nat.le_of_ble_eq_true rfl⟩) (wX_g0 ad cI cZ _) rfl rfl rfl (Nat.le_of_ble_eq_true rfl) ⟨Nat.le_of_ble_eq_true rfl, Nat.le_of_ble_eq_true rfl⟩ ⟨Nat.le_of_ble_eq_true rfl, Nat.le_of_ble_eq_true rfl⟩ dX5_reach_6 (fun hx => Option.some.inj (jit h hx)) (fun c4 => ?_)
  have h := jif h (fun hn => hn c4)
  refine j_aload_n E 0 rfl rfl dX5_reach_9 ?_
  refine j_get E 0 (wX_g0 ad cI cZ _) rfl 2 rfl in_X5_reach_X5 (by decide) (List.mem_of_getElem? (i := 1) rfl) (fun _ h9 => h9) dX5_reach_10 ?_
  refine j_getN E 11 (wX_g11 ad cI cZ _) rfl 1 rfl in_X5_reach_X1 (by decide) (E.2.2.2.1.1 _ (List.mem_of_getElem? (i := 5) rfl)) (fun _ h9 => h9) dX5_reach_13 ?_
  refine j_iload_n E 1 rfl rfl dX5_reach_16 ?_
  refine j_iload_n E 2 rfl rfl dX5_reach_17 ?_
  obtain ⟨r5, er5, h⟩ := jbd h
  refine j_callSi E (As := [.int a1, .int a2]) (c_X5_cell er5) (va_cwS 2 E.1.2.2.2.2 gX5_reach_X5_cell rfl rfl rfl (by decide +kernel) ⟨Nat.le_of_ble_eq_true rfl, Nat.le_of_ble_eq_true rfl⟩) rfl rfl (Nat.le_of_ble_eq_true rfl) ⟨Nat.le_of_ble_eq_true rfl, Nat.le_of_ble_eq_true rfl⟩ dX5_reach_18 ?_
  obtain ⟨b6, h⟩ := job_else h
  refine j_iald E 13 0 (wX_g13 ad cI cZ _) rfl b6 dX5_reach_21 ?_
  exact j_xiret EX hr rfl (Option.some.inj h) ⟨Nat.le_of_ble_eq_true rfl, Nat.le_of_ble_eq_true rfl⟩ dX5_reach_22
