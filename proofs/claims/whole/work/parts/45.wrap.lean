abbrev rm_L_plain : Room := { frames := 8, cells := 1, slots := 6, locals := 137 }
def f_L_plain (st : jSP) (a1 : Int32) : Option (Int32 × jSP) :=
  (f_X5_plain st.1 a1).bind fun r1 =>
  if r1.1 = 0 then
    some (0, (r1.2.2, vp_updL st.2 (0 : Int32).toNatClampNeg r1.2.1.toInt64))
  else if r1.1 = 1 then some (1, (r1.2.2, st.2))
  else if r1.1 = 2 then some (2, (r1.2.2, st.2))
  else none
set_option maxHeartbeats 4000000 in
set_option maxRecDepth 100000 in
theorem c_L_plain {l : Launch} {D : va_G} {ax : Nat → Nat} {ao : Nat} {cI cZ cJ : ClassId} {st : jSP} {a1 : Int32} {o : Int32 × jSP} (hstt : l.stackTraces = false) (h : f_L_plain st a1 = some o) : CtW l D ax ao cI cZ cJ yL_plain wsL_plain rm_L_plain 1 6 [.ref (ax 0), .int a1, .ref ao] st o := by
  refine ctW_of (o := o) (cc := cL_plain) (nL := 4) (own := RL) (hh := [(0, 9, 12, 13), (0, 9, 15, 15)]) (by decide) rfl rfl (Nat.le_of_ble_eq_true rfl) (lv0 := [(0, .ref (ax 0)), (1, .int a1), (2, .ref ao)]) rfl ?_
  intro p e s m args below meth c A E hr htab hxn hxz hxc
  rw [f_L_plain] at h
  refine j_aload_n E 2 rfl rfl dL_plain_0 ?_
  refine j_iconst E (kc_0) dL_plain_1 ?_
  refine j_aload_n E 0 rfl rfl dL_plain_2 ?_
  refine j_iload_n E 1 rfl rfl dL_plain_3 ?_
  obtain ⟨r1, er1, h⟩ := jbd h
  refine j_xcallH E hxn hxz (As := [.int a1]) (c_X5_plain hstt er1) (cwV 1 E.1.2.2.2.2 gL_plain_X5_plain rfl rfl rfl (by decide +kernel) ⟨Nat.le_of_ble_eq_true rfl, Nat.le_of_ble_eq_true rfl⟩) rfl rfl (Nat.le_of_ble_eq_true rfl) ⟨Nat.le_of_ble_eq_true rfl, Nat.le_of_ble_eq_true rfl⟩ dL_plain_4 (fun hne => ?_) (fun h0 => ?_)
  · have h := jif h hne
    by_cases k1 : r1.1 = 1
    · have h := jit h k1
      rw [k1]
      refine j_catch E (name := "java/lang/IllegalArgumentException") [] ⟨0, 9, 12, 13⟩ [⟨0, 9, 15, 15⟩] htab (fun _ h => absurd h List.not_mem_nil) rfl (Nat.succ_ne_zero _) (List.mem_of_getElem? (i := 1) rfl) hxn.2.1 (fun q => ?_)
      refine j_astore_n E rfl (by decide) (lv' := [(3, .ref q), (0, .ref (ax 0)), (1, .int a1), (2, .ref ao)]) rfl dL_plain_12 ?_
      refine j_iconst E (kc_1) dL_plain_13 ?_
      exact j_wret E hr ⟨Nat.le_of_ble_eq_true rfl, Nat.le_of_ble_eq_true rfl⟩ (Option.some.inj h) dL_plain_14
    have h := jif h k1
    by_cases k2 : r1.1 = 2
    · have h := jit h k2
      rw [k2]
      refine j_catch E (name := "java/lang/IllegalStateException") [⟨0, 9, 12, 13⟩] ⟨0, 9, 15, 15⟩ [] htab (List.forall_mem_cons.mpr ⟨Or.inr ⟨Nat.succ_ne_zero _, "java/lang/IllegalArgumentException", E.1.2.2.2.2 _ (List.mem_of_getElem? (i := 1) rfl), hxc.1⟩, fun _ h => absurd h List.not_mem_nil⟩) rfl (Nat.succ_ne_zero _) (List.mem_of_getElem? (i := 2) rfl) hxn.2.2.1 (fun q => ?_)
      refine j_astore_n E rfl (by decide) (lv' := [(3, .ref q), (0, .ref (ax 0)), (1, .int a1), (2, .ref ao)]) rfl dL_plain_15 ?_
      refine j_iconst E (kc_2) dL_plain_16 ?_
      exact j_wret E hr ⟨Nat.le_of_ble_eq_true rfl, Nat.le_of_ble_eq_true rfl⟩ (Option.some.inj h) dL_plain_17
    have h := jif h k2
    cases h
  · have h := jit h h0
    refine j_i2l E dL_plain_7 ?_
    refine j_lastP E (job_in (by decide)) dL_plain_8 ?_
    refine j_goto E (tgt := 18) (by decide) dL_plain_9 ?_
    refine j_iconst E (kc_0) dL_plain_18 ?_
    exact j_wret E hr ⟨Nat.le_of_ble_eq_true rfl, Nat.le_of_ble_eq_true rfl⟩ (Option.some.inj h) dL_plain_19
abbrev rm_L_range : Room := { frames := 8, cells := 1, slots := 6, locals := 138 }
def f_L_range (st : jSP) (a1 : Int32) (a2 : Int32) : Option (Int32 × jSP) :=
  (f_X5_range st.1 a1 a2).bind fun r1 =>
  if r1.1 = 0 then
    some (0, (r1.2.2, vp_updL st.2 (0 : Int32).toNatClampNeg r1.2.1.toInt64))
  else if r1.1 = 1 then some (1, (r1.2.2, st.2))
  else if r1.1 = 2 then some (2, (r1.2.2, st.2))
  else none
set_option maxHeartbeats 4000000 in
set_option maxRecDepth 100000 in
theorem c_L_range {l : Launch} {D : va_G} {ax : Nat → Nat} {ao : Nat} {cI cZ cJ : ClassId} {st : jSP} {a1 : Int32} {a2 : Int32} {o : Int32 × jSP} (hstt : l.stackTraces = false) (h : f_L_range st a1 a2 = some o) : CtW l D ax ao cI cZ cJ yL_range wsL_range rm_L_range 1 6 [.ref (ax 0), .int a1, .int a2, .ref ao] st o := by
  refine ctW_of (o := o) (cc := cL_range) (nL := 5) (own := RL) (hh := [(0, 10, 13, 13), (0, 10, 17, 15)]) (by decide) rfl rfl (Nat.le_of_ble_eq_true rfl) (lv0 := [(0, .ref (ax 0)), (1, .int a1), (2, .int a2), (3, .ref ao)]) rfl ?_
  intro p e s m args below meth c A E hr htab hxn hxz hxc
  rw [f_L_range] at h
  refine j_aload_n E 3 rfl rfl dL_range_0 ?_
  refine j_iconst E (kc_0) dL_range_1 ?_
  refine j_aload_n E 0 rfl rfl dL_range_2 ?_
  refine j_iload_n E 1 rfl rfl dL_range_3 ?_
  refine j_iload_n E 2 rfl rfl dL_range_4 ?_
  obtain ⟨r1, er1, h⟩ := jbd h
  refine j_xcallH E hxn hxz (As := [.int a1, .int a2]) (c_X5_range hstt er1) (cwV 2 E.1.2.2.2.2 gL_range_X5_range rfl rfl rfl (by decide +kernel) ⟨Nat.le_of_ble_eq_true rfl, Nat.le_of_ble_eq_true rfl⟩) rfl rfl (Nat.le_of_ble_eq_true rfl) ⟨Nat.le_of_ble_eq_true rfl, Nat.le_of_ble_eq_true rfl⟩ dL_range_5 (fun hne => ?_) (fun h0 => ?_)
  · have h := jif h hne
    by_cases k1 : r1.1 = 1
    · have h := jit h k1
      rw [k1]
      refine j_catch E (name := "java/lang/IllegalArgumentException") [] ⟨0, 10, 13, 13⟩ [⟨0, 10, 17, 15⟩] htab (fun _ h => absurd h List.not_mem_nil) rfl (Nat.succ_ne_zero _) (List.mem_of_getElem? (i := 1) rfl) hxn.2.1 (fun q => ?_)
      refine j_astore E (by decide) (lv' := [(4, .ref q), (0, .ref (ax 0)), (1, .int a1), (2, .int a2), (3, .ref ao)]) rfl dL_range_13 ?_
      refine j_iconst E (kc_1) dL_range_15 ?_
      exact j_wret E hr ⟨Nat.le_of_ble_eq_true rfl, Nat.le_of_ble_eq_true rfl⟩ (Option.some.inj h) dL_range_16
    have h := jif h k1
    by_cases k2 : r1.1 = 2
    · have h := jit h k2
      rw [k2]
      refine j_catch E (name := "java/lang/IllegalStateException") [⟨0, 10, 13, 13⟩] ⟨0, 10, 17, 15⟩ [] htab (List.forall_mem_cons.mpr ⟨Or.inr ⟨Nat.succ_ne_zero _, "java/lang/IllegalArgumentException", E.1.2.2.2.2 _ (List.mem_of_getElem? (i := 1) rfl), hxc.1⟩, fun _ h => absurd h List.not_mem_nil⟩) rfl (Nat.succ_ne_zero _) (List.mem_of_getElem? (i := 2) rfl) hxn.2.2.1 (fun q => ?_)
      refine j_astore E (by decide) (lv' := [(4, .ref q), (0, .ref (ax 0)), (1, .int a1), (2, .int a2), (3, .ref ao)]) rfl dL_range_17 ?_
      refine j_iconst E (kc_2) dL_range_19 ?_
      exact j_wret E hr ⟨Nat.le_of_ble_eq_true rfl, Nat.le_of_ble_eq_true rfl⟩ (Option.some.inj h) dL_range_20
    have h := jif h k2
    cases h
  · have h := jit h h0
    refine j_i2l E dL_range_8 ?_
    refine j_lastP E (job_in (by decide)) dL_range_9 ?_
    refine j_goto E (tgt := 21) (by decide) dL_range_10 ?_
    refine j_iconst E (kc_0) dL_range_21 ?_
    exact j_wret E hr ⟨Nat.le_of_ble_eq_true rfl, Nat.le_of_ble_eq_true rfl⟩ (Option.some.inj h) dL_range_22
abbrev rm_L_rule : Room := { frames := 8, cells := 2, slots := 12, locals := 137 }
def f_L_rule (st : jSP) (a1 : Int32) : Option (Int32 × jSP) :=
  (f_X5_rule st.1 a1).bind fun r1 =>
  if r1.1 = 0 then
    some (0, (r1.2.2, vp_updL st.2 (0 : Int32).toNatClampNeg r1.2.1.toInt64))
  else if r1.1 = 3 then some (1, (r1.2.2, st.2))
  else if r1.1 = 2 then some (2, (r1.2.2, st.2))
  else none
set_option maxHeartbeats 4000000 in
set_option maxRecDepth 100000 in
theorem c_L_rule {l : Launch} {D : va_G} {ax : Nat → Nat} {ao : Nat} {cI cZ cJ : ClassId} {st : jSP} {a1 : Int32} {o : Int32 × jSP} (hstt : l.stackTraces = false) (h : f_L_rule st a1 = some o) : CtW l D ax ao cI cZ cJ yL_rule wsL_rule rm_L_rule 2 12 [.ref (ax 0), .int a1, .ref ao] st o := by
  refine ctW_of (o := o) (cc := cL_rule) (nL := 4) (own := RL) (hh := [(0, 9, 12, 24), (0, 9, 15, 15)]) (by decide) rfl rfl (Nat.le_of_ble_eq_true rfl) (lv0 := [(0, .ref (ax 0)), (1, .int a1), (2, .ref ao)]) rfl ?_
  intro p e s m args below meth c A E hr htab hxn hxz hxc
  rw [f_L_rule] at h
  refine j_aload_n E 2 rfl rfl dL_rule_0 ?_
  refine j_iconst E (kc_0) dL_rule_1 ?_
  refine j_aload_n E 0 rfl rfl dL_rule_2 ?_
  refine j_iload_n E 1 rfl rfl dL_rule_3 ?_
  obtain ⟨r1, er1, h⟩ := jbd h
  refine j_xcallH E hxn hxz (As := [.int a1]) (c_X5_rule hstt er1) (cwV 1 E.1.2.2.2.2 gL_rule_X5_rule rfl rfl rfl (by decide +kernel) ⟨Nat.le_of_ble_eq_true rfl, Nat.le_of_ble_eq_true rfl⟩) rfl rfl (Nat.le_of_ble_eq_true rfl) ⟨Nat.le_of_ble_eq_true rfl, Nat.le_of_ble_eq_true rfl⟩ dL_rule_4 (fun hne => ?_) (fun h0 => ?_)
  · have h := jif h hne
    by_cases k1 : r1.1 = 3
    · have h := jit h k1
      rw [k1]
      refine j_catch E (name := "java/lang/IndexOutOfBoundsException") [] ⟨0, 9, 12, 24⟩ [⟨0, 9, 15, 15⟩] htab (fun _ h => absurd h List.not_mem_nil) rfl (Nat.succ_ne_zero _) (List.mem_of_getElem? (i := 1) rfl) hxn.2.2.2.1 (fun q => ?_)
      refine j_astore_n E rfl (by decide) (lv' := [(3, .ref q), (0, .ref (ax 0)), (1, .int a1), (2, .ref ao)]) rfl dL_rule_12 ?_
      refine j_iconst E (kc_1) dL_rule_13 ?_
      exact j_wret E hr ⟨Nat.le_of_ble_eq_true rfl, Nat.le_of_ble_eq_true rfl⟩ (Option.some.inj h) dL_rule_14
    have h := jif h k1
    by_cases k2 : r1.1 = 2
    · have h := jit h k2
      rw [k2]
      refine j_catch E (name := "java/lang/IllegalStateException") [⟨0, 9, 12, 24⟩] ⟨0, 9, 15, 15⟩ [] htab (List.forall_mem_cons.mpr ⟨Or.inr ⟨Nat.succ_ne_zero _, "java/lang/IndexOutOfBoundsException", E.1.2.2.2.2 _ (List.mem_of_getElem? (i := 1) rfl), hxc.2.1⟩, fun _ h => absurd h List.not_mem_nil⟩) rfl (Nat.succ_ne_zero _) (List.mem_of_getElem? (i := 2) rfl) hxn.2.2.1 (fun q => ?_)
      refine j_astore_n E rfl (by decide) (lv' := [(3, .ref q), (0, .ref (ax 0)), (1, .int a1), (2, .ref ao)]) rfl dL_rule_15 ?_
      refine j_iconst E (kc_2) dL_rule_16 ?_
      exact j_wret E hr ⟨Nat.le_of_ble_eq_true rfl, Nat.le_of_ble_eq_true rfl⟩ (Option.some.inj h) dL_rule_17
    have h := jif h k2
    cases h
  · have h := jit h h0
    refine j_i2l E dL_rule_7 ?_
    refine j_lastP E (job_in (by decide)) dL_rule_8 ?_
    refine j_goto E (tgt := 18) (by decide) dL_rule_9 ?_
    refine j_iconst E (kc_0) dL_rule_18 ?_
    exact j_wret E hr ⟨Nat.le_of_ble_eq_true rfl, Nat.le_of_ble_eq_true rfl⟩ (Option.some.inj h) dL_rule_19
abbrev rm_L_join : Room := { frames := 8, cells := 3, slots := 18, locals := 140 }
def f_L_join (st : jSP) (a1 : Int32) (a2 : Int32) (a3 : Int32) : Option (Int32 × jSP) :=
  (f_X5_join st.1 a1 a2 a3).bind fun r1 =>
  if r1.1 = 0 then
    some (0, (r1.2.2, vp_updL st.2 (0 : Int32).toNatClampNeg r1.2.1.toInt64))
  else if r1.1 = 3 then some (1, (r1.2.2, st.2))
  else if r1.1 = 1 then some (2, (r1.2.2, st.2))
  else if r1.1 = 2 then some (3, (r1.2.2, st.2))
  else none
set_option maxHeartbeats 4000000 in
set_option maxRecDepth 100000 in
theorem c_L_join {l : Launch} {D : va_G} {ax : Nat → Nat} {ao : Nat} {cI cZ cJ : ClassId} {st : jSP} {a1 : Int32} {a2 : Int32} {a3 : Int32} {o : Int32 × jSP} (hstt : l.stackTraces = false) (h : f_L_join st a1 a2 a3 = some o) : CtW l D ax ao cI cZ cJ yL_join wsL_join rm_L_join 3 18 [.ref (ax 0), .int a1, .int a2, .int a3, .ref ao] st o := by
  refine ctW_of (o := o) (cc := cL_join) (nL := 6) (own := RL) (hh := [(0, 12, 15, 24), (0, 12, 19, 13), (0, 12, 23, 15)]) (by decide) rfl rfl (Nat.le_of_ble_eq_true rfl) (lv0 := [(0, .ref (ax 0)), (1, .int a1), (2, .int a2), (3, .int a3), (4, .ref ao)]) rfl ?_
  intro p e s m args below meth c A E hr htab hxn hxz hxc
  rw [f_L_join] at h
  refine j_aload E 4 rfl dL_join_0 ?_
  refine j_iconst E (kc_0) dL_join_2 ?_
  refine j_aload_n E 0 rfl rfl dL_join_3 ?_
  refine j_iload_n E 1 rfl rfl dL_join_4 ?_
  refine j_iload_n E 2 rfl rfl dL_join_5 ?_
  refine j_iload_n E 3 rfl rfl dL_join_6 ?_
  obtain ⟨r1, er1, h⟩ := jbd h
  refine j_xcallH E hxn hxz (As := [.int a1, .int a2, .int a3]) (c_X5_join hstt er1) (cwV 3 E.1.2.2.2.2 gL_join_X5_join rfl rfl rfl (by decide +kernel) ⟨Nat.le_of_ble_eq_true rfl, Nat.le_of_ble_eq_true rfl⟩) rfl rfl (Nat.le_of_ble_eq_true rfl) ⟨Nat.le_of_ble_eq_true rfl, Nat.le_of_ble_eq_true rfl⟩ dL_join_7 (fun hne => ?_) (fun h0 => ?_)
  · have h := jif h hne
    by_cases k1 : r1.1 = 3
    · have h := jit h k1
      rw [k1]
      refine j_catch E (name := "java/lang/IndexOutOfBoundsException") [] ⟨0, 12, 15, 24⟩ [⟨0, 12, 19, 13⟩, ⟨0, 12, 23, 15⟩] htab (fun _ h => absurd h List.not_mem_nil) rfl (Nat.succ_ne_zero _) (List.mem_of_getElem? (i := 1) rfl) hxn.2.2.2.1 (fun q => ?_)
      refine j_astore E (by decide) (lv' := [(5, .ref q), (0, .ref (ax 0)), (1, .int a1), (2, .int a2), (3, .int a3), (4, .ref ao)]) rfl dL_join_15 ?_
      refine j_iconst E (kc_1) dL_join_17 ?_
      exact j_wret E hr ⟨Nat.le_of_ble_eq_true rfl, Nat.le_of_ble_eq_true rfl⟩ (Option.some.inj h) dL_join_18
    have h := jif h k1
    by_cases k2 : r1.1 = 1
    · have h := jit h k2
      rw [k2]
      refine j_catch E (name := "java/lang/IllegalArgumentException") [⟨0, 12, 15, 24⟩] ⟨0, 12, 19, 13⟩ [⟨0, 12, 23, 15⟩] htab (List.forall_mem_cons.mpr ⟨Or.inr ⟨Nat.succ_ne_zero _, "java/lang/IndexOutOfBoundsException", E.1.2.2.2.2 _ (List.mem_of_getElem? (i := 1) rfl), hxc.2.2⟩, fun _ h => absurd h List.not_mem_nil⟩) rfl (Nat.succ_ne_zero _) (List.mem_of_getElem? (i := 2) rfl) hxn.2.1 (fun q => ?_)
      refine j_astore E (by decide) (lv' := [(5, .ref q), (0, .ref (ax 0)), (1, .int a1), (2, .int a2), (3, .int a3), (4, .ref ao)]) rfl dL_join_19 ?_
      refine j_iconst E (kc_2) dL_join_21 ?_
      exact j_wret E hr ⟨Nat.le_of_ble_eq_true rfl, Nat.le_of_ble_eq_true rfl⟩ (Option.some.inj h) dL_join_22
    have h := jif h k2
    by_cases k3 : r1.1 = 2
    · have h := jit h k3
      rw [k3]
      refine j_catch E (name := "java/lang/IllegalStateException") [⟨0, 12, 15, 24⟩, ⟨0, 12, 19, 13⟩] ⟨0, 12, 23, 15⟩ [] htab (List.forall_mem_cons.mpr ⟨Or.inr ⟨Nat.succ_ne_zero _, "java/lang/IndexOutOfBoundsException", E.1.2.2.2.2 _ (List.mem_of_getElem? (i := 1) rfl), hxc.2.1⟩, List.forall_mem_cons.mpr ⟨Or.inr ⟨Nat.succ_ne_zero _, "java/lang/IllegalArgumentException", E.1.2.2.2.2 _ (List.mem_of_getElem? (i := 2) rfl), hxc.1⟩, fun _ h => absurd h List.not_mem_nil⟩⟩) rfl (Nat.succ_ne_zero _) (List.mem_of_getElem? (i := 3) rfl) hxn.2.2.1 (fun q => ?_)
      refine j_astore E (by decide) (lv' := [(5, .ref q), (0, .ref (ax 0)), (1, .int a1), (2, .int a2), (3, .int a3), (4, .ref ao)]) rfl dL_join_23 ?_
      refine j_iconst E (kc_3) dL_join_25 ?_
      exact j_wret E hr ⟨Nat.le_of_ble_eq_true rfl, Nat.le_of_ble_eq_true rfl⟩ (Option.some.inj h) dL_join_26
    have h := jif h k3
    cases h
  · have h := jit h h0
    refine j_i2l E dL_join_10 ?_
    refine j_lastP E (job_in (by decide)) dL_join_11 ?_
    refine j_goto E (tgt := 27) (by decide) dL_join_12 ?_
    refine j_iconst E (kc_0) dL_join_27 ?_
    exact j_wret E hr ⟨Nat.le_of_ble_eq_true rfl, Nat.le_of_ble_eq_true rfl⟩ (Option.some.inj h) dL_join_28
abbrev rm_L_wrap : Room := { frames := 8, cells := 2, slots := 12, locals := 139 }
def f_L_wrap (st : jSP) (a1 : Int32) (a2 : Int32) : Option (Int32 × jSP) :=
  (f_X5_wrap st.1 a1 a2).bind fun r1 =>
  if r1.1 = 0 then
    some (0, (r1.2.2, vp_updL st.2 (0 : Int32).toNatClampNeg r1.2.1.toInt64))
  else if r1.1 = 3 then some (1, (r1.2.2, st.2))
  else if r1.1 = 1 then some (2, (r1.2.2, st.2))
  else if r1.1 = 2 then some (3, (r1.2.2, st.2))
  else none
set_option maxHeartbeats 4000000 in
set_option maxRecDepth 100000 in
theorem c_L_wrap {l : Launch} {D : va_G} {ax : Nat → Nat} {ao : Nat} {cI cZ cJ : ClassId} {st : jSP} {a1 : Int32} {a2 : Int32} {o : Int32 × jSP} (hstt : l.stackTraces = false) (h : f_L_wrap st a1 a2 = some o) : CtW l D ax ao cI cZ cJ yL_wrap wsL_wrap rm_L_wrap 2 12 [.ref (ax 0), .int a1, .int a2, .ref ao] st o := by
  refine ctW_of (o := o) (cc := cL_wrap) (nL := 5) (own := RL) (hh := [(0, 10, 13, 24), (0, 10, 17, 13), (0, 10, 21, 15)]) (by decide) rfl rfl (Nat.le_of_ble_eq_true rfl) (lv0 := [(0, .ref (ax 0)), (1, .int a1), (2, .int a2), (3, .ref ao)]) rfl ?_
  intro p e s m args below meth c A E hr htab hxn hxz hxc
  rw [f_L_wrap] at h
  refine j_aload_n E 3 rfl rfl dL_wrap_0 ?_
  refine j_iconst E (kc_0) dL_wrap_1 ?_
  refine j_aload_n E 0 rfl rfl dL_wrap_2 ?_
  refine j_iload_n E 1 rfl rfl dL_wrap_3 ?_
  refine j_iload_n E 2 rfl rfl dL_wrap_4 ?_
  obtain ⟨r1, er1, h⟩ := jbd h
  refine j_xcallH E hxn hxz (As := [.int a1, .int a2]) (c_X5_wrap hstt er1) (cwV 2 E.1.2.2.2.2 gL_wrap_X5_wrap rfl rfl rfl (by decide +kernel) ⟨Nat.le_of_ble_eq_true rfl, Nat.le_of_ble_eq_true rfl⟩) rfl rfl (Nat.le_of_ble_eq_true rfl) ⟨Nat.le_of_ble_eq_true rfl, Nat.le_of_ble_eq_true rfl⟩ dL_wrap_5 (fun hne => ?_) (fun h0 => ?_)
  · have h := jif h hne
    by_cases k1 : r1.1 = 3
    · have h := jit h k1
      rw [k1]
      refine j_catch E (name := "java/lang/IndexOutOfBoundsException") [] ⟨0, 10, 13, 24⟩ [⟨0, 10, 17, 13⟩, ⟨0, 10, 21, 15⟩] htab (fun _ h => absurd h List.not_mem_nil) rfl (Nat.succ_ne_zero _) (List.mem_of_getElem? (i := 1) rfl) hxn.2.2.2.1 (fun q => ?_)
      refine j_astore E (by decide) (lv' := [(4, .ref q), (0, .ref (ax 0)), (1, .int a1), (2, .int a2), (3, .ref ao)]) rfl dL_wrap_13 ?_
      refine j_iconst E (kc_1) dL_wrap_15 ?_
      exact j_wret E hr ⟨Nat.le_of_ble_eq_true rfl, Nat.le_of_ble_eq_true rfl⟩ (Option.some.inj h) dL_wrap_16
    have h := jif h k1
    by_cases k2 : r1.1 = 1
    · have h := jit h k2
      rw [k2]
      refine j_catch E (name := "java/lang/IllegalArgumentException") [⟨0, 10, 13, 24⟩] ⟨0, 10, 17, 13⟩ [⟨0, 10, 21, 15⟩] htab (List.forall_mem_cons.mpr ⟨Or.inr ⟨Nat.succ_ne_zero _, "java/lang/IndexOutOfBoundsException", E.1.2.2.2.2 _ (List.mem_of_getElem? (i := 1) rfl), hxc.2.2⟩, fun _ h => absurd h List.not_mem_nil⟩) rfl (Nat.succ_ne_zero _) (List.mem_of_getElem? (i := 2) rfl) hxn.2.1 (fun q => ?_)
      refine j_astore E (by decide) (lv' := [(4, .ref q), (0, .ref (ax 0)), (1, .int a1), (2, .int a2), (3, .ref ao)]) rfl dL_wrap_17 ?_
      refine j_iconst E (kc_2) dL_wrap_19 ?_
      exact j_wret E hr ⟨Nat.le_of_ble_eq_true rfl, Nat.le_of_ble_eq_true rfl⟩ (Option.some.inj h) dL_wrap_20
    have h := jif h k2
    by_cases k3 : r1.1 = 2
    · have h := jit h k3
      rw [k3]
      refine j_catch E (name := "java/lang/IllegalStateException") [⟨0, 10, 13, 24⟩, ⟨0, 10, 17, 13⟩] ⟨0, 10, 21, 15⟩ [] htab (List.forall_mem_cons.mpr ⟨Or.inr ⟨Nat.succ_ne_zero _, "java/lang/IndexOutOfBoundsException", E.1.2.2.2.2 _ (List.mem_of_getElem? (i := 1) rfl), hxc.2.1⟩, List.forall_mem_cons.mpr ⟨Or.inr ⟨Nat.succ_ne_zero _, "java/lang/IllegalArgumentException", E.1.2.2.2.2 _ (List.mem_of_getElem? (i := 2) rfl), hxc.1⟩, fun _ h => absurd h List.not_mem_nil⟩⟩) rfl (Nat.succ_ne_zero _) (List.mem_of_getElem? (i := 3) rfl) hxn.2.2.1 (fun q => ?_)
      refine j_astore E (by decide) (lv' := [(4, .ref q), (0, .ref (ax 0)), (1, .int a1), (2, .int a2), (3, .ref ao)]) rfl dL_wrap_21 ?_
      refine j_iconst E (kc_3) dL_wrap_23 ?_
      exact j_wret E hr ⟨Nat.le_of_ble_eq_true rfl, Nat.le_of_ble_eq_true rfl⟩ (Option.some.inj h) dL_wrap_24
    have h := jif h k3
    cases h
  · have h := jit h h0
    refine j_i2l E dL_wrap_8 ?_
    refine j_lastP E (job_in (by decide)) dL_wrap_9 ?_
    refine j_goto E (tgt := 25) (by decide) dL_wrap_10 ?_
    refine j_iconst E (kc_0) dL_wrap_25 ?_
    exact j_wret E hr ⟨Nat.le_of_ble_eq_true rfl, Nat.le_of_ble_eq_true rfl⟩ (Option.some.inj h) dL_wrap_26
abbrev rm_L_define : Room := { frames := 8, cells := 2, slots := 12, locals := 139 }
def f_L_define (st : jSP) (a1 : Int32) (a2 : Int32) : Option (Int32 × jSP) :=
  (f_X5_define st.1 a1 a2).bind fun r1 =>
  if r1.1 = 0 then
    some (0, (r1.2.2, vp_updL st.2 (0 : Int32).toNatClampNeg r1.2.1.toInt64))
  else if r1.1 = 3 then some (1, (r1.2.2, st.2))
  else none
set_option maxHeartbeats 4000000 in
set_option maxRecDepth 100000 in
theorem c_L_define {l : Launch} {D : va_G} {ax : Nat → Nat} {ao : Nat} {cI cZ cJ : ClassId} {st : jSP} {a1 : Int32} {a2 : Int32} {o : Int32 × jSP} (hstt : l.stackTraces = false) (h : f_L_define st a1 a2 = some o) : CtW l D ax ao cI cZ cJ yL_define wsL_define rm_L_define 2 12 [.ref (ax 0), .int a1, .int a2, .ref ao] st o := by
  refine ctW_of (o := o) (cc := cL_define) (nL := 5) (own := RL) (hh := [(0, 10, 13, 24)]) (by decide) rfl rfl (Nat.le_of_ble_eq_true rfl) (lv0 := [(0, .ref (ax 0)), (1, .int a1), (2, .int a2), (3, .ref ao)]) rfl ?_
  intro p e s m args below meth c A E hr htab hxn hxz hxc
  rw [f_L_define] at h
  refine j_aload_n E 3 rfl rfl dL_define_0 ?_
  refine j_iconst E (kc_0) dL_define_1 ?_
  refine j_aload_n E 0 rfl rfl dL_define_2 ?_
  refine j_iload_n E 1 rfl rfl dL_define_3 ?_
  refine j_iload_n E 2 rfl rfl dL_define_4 ?_
  obtain ⟨r1, er1, h⟩ := jbd h
  refine j_xcallH E hxn hxz (As := [.int a1, .int a2]) (c_X5_define hstt er1) (cwV 2 E.1.2.2.2.2 gL_define_X5_define rfl rfl rfl (by decide +kernel) ⟨Nat.le_of_ble_eq_true rfl, Nat.le_of_ble_eq_true rfl⟩) rfl rfl (Nat.le_of_ble_eq_true rfl) ⟨Nat.le_of_ble_eq_true rfl, Nat.le_of_ble_eq_true rfl⟩ dL_define_5 (fun hne => ?_) (fun h0 => ?_)
  · have h := jif h hne
    by_cases k1 : r1.1 = 3
    · have h := jit h k1
      rw [k1]
      refine j_catch E (name := "java/lang/IndexOutOfBoundsException") [] ⟨0, 10, 13, 24⟩ [] htab (fun _ h => absurd h List.not_mem_nil) rfl (Nat.succ_ne_zero _) (List.mem_of_getElem? (i := 1) rfl) hxn.2.2.2.1 (fun q => ?_)
      refine j_astore E (by decide) (lv' := [(4, .ref q), (0, .ref (ax 0)), (1, .int a1), (2, .int a2), (3, .ref ao)]) rfl dL_define_13 ?_
      refine j_iconst E (kc_1) dL_define_15 ?_
      exact j_wret E hr ⟨Nat.le_of_ble_eq_true rfl, Nat.le_of_ble_eq_true rfl⟩ (Option.some.inj h) dL_define_16
    have h := jif h k1
    cases h
  · have h := jit h h0
    refine j_i2l E dL_define_8 ?_
    refine j_lastP E (job_in (by decide)) dL_define_9 ?_
    refine j_goto E (tgt := 17) (by decide) dL_define_10 ?_
    refine j_iconst E (kc_0) dL_define_17 ?_
    exact j_wret E hr ⟨Nat.le_of_ble_eq_true rfl, Nat.le_of_ble_eq_true rfl⟩ (Option.some.inj h) dL_define_18
abbrev rm_L_canBeEmpty : Room := { frames := 8, cells := 1, slots := 6, locals := 138 }
def f_L_canBeEmpty (st : jSP) (a1 : Int32) : Option (Int32 × jSP) :=
  (f_X5_canBeEmpty st.1 a1).bind fun r1 =>
  if r1.1 = 0 then
    if r1.2.1 = 0 then some (0, (r1.2.2, vp_updL st.2 (0 : Int32).toNatClampNeg 0)) else some (0, (r1.2.2, vp_updL st.2 (0 : Int32).toNatClampNeg 1))
  else if r1.1 = 3 then some (1, (r1.2.2, st.2))
  else none
set_option maxHeartbeats 4000000 in
set_option maxRecDepth 100000 in
theorem c_L_canBeEmpty {l : Launch} {D : va_G} {ax : Nat → Nat} {ao : Nat} {cI cZ cJ : ClassId} {st : jSP} {a1 : Int32} {o : Int32 × jSP} (hstt : l.stackTraces = false) (h : f_L_canBeEmpty st a1 = some o) : CtW l D ax ao cI cZ cJ yL_canBeEmpty wsL_canBeEmpty rm_L_canBeEmpty 1 6 [.ref (ax 0), .int a1, .ref ao] st o := by
  refine ctW_of (o := o) (cc := cL_canBeEmpty) (nL := 4) (own := RL) (hh := [(0, 16, 19, 24)]) (by decide) rfl rfl (Nat.le_of_ble_eq_true rfl) (lv0 := [(0, .ref (ax 0)), (1, .int a1), (2, .ref ao)]) rfl ?_
  intro p e s m args below meth c A E hr htab hxn hxz hxc
  rw [f_L_canBeEmpty] at h
  refine j_aload_n E 2 rfl rfl dL_canBeEmpty_0 ?_
  refine j_iconst E (kc_0) dL_canBeEmpty_1 ?_
  refine j_aload_n E 0 rfl rfl dL_canBeEmpty_2 ?_
  refine j_iload_n E 1 rfl rfl dL_canBeEmpty_3 ?_
  obtain ⟨r1, er1, h⟩ := jbd h
  refine j_xcallH E hxn hxz (As := [.int a1]) (c_X5_canBeEmpty hstt er1) (cwV 1 E.1.2.2.2.2 gL_canBeEmpty_X5_canBeEmpty rfl rfl rfl (by decide +kernel) ⟨Nat.le_of_ble_eq_true rfl, Nat.le_of_ble_eq_true rfl⟩) rfl rfl (Nat.le_of_ble_eq_true rfl) ⟨Nat.le_of_ble_eq_true rfl, Nat.le_of_ble_eq_true rfl⟩ dL_canBeEmpty_4 (fun hne => ?_) (fun h0 => ?_)
  · have h := jif h hne
    by_cases k1 : r1.1 = 3
    · have h := jit h k1
      rw [k1]
      refine j_catch E (name := "java/lang/IndexOutOfBoundsException") [] ⟨0, 16, 19, 24⟩ [] htab (fun _ h => absurd h List.not_mem_nil) rfl (Nat.succ_ne_zero _) (List.mem_of_getElem? (i := 1) rfl) hxn.2.2.2.1 (fun q => ?_)
      refine j_astore_n E rfl (by decide) (lv' := [(3, .ref q), (0, .ref (ax 0)), (1, .int a1), (2, .ref ao)]) rfl dL_canBeEmpty_19 ?_
      refine j_iconst E (kc_1) dL_canBeEmpty_20 ?_
      exact j_wret E hr ⟨Nat.le_of_ble_eq_true rfl, Nat.le_of_ble_eq_true rfl⟩ (Option.some.inj h) dL_canBeEmpty_21
    have h := jif h k1
    cases h
  · have h := jit h h0
    refine j_if_eq E (tgt := 14) (by decide) dL_canBeEmpty_7 (fun c1 => ?_) (fun c1 => ?_)
    · have h := jit h c1
      refine j_lconst E (v := 0) (by decide) dL_canBeEmpty_14 ?_
      refine j_lastP E (job_in (by decide)) dL_canBeEmpty_15 ?_
      refine j_goto E (tgt := 22) (by decide) dL_canBeEmpty_16 ?_
      refine j_iconst E (kc_0) dL_canBeEmpty_22 ?_
      exact j_wret E hr ⟨Nat.le_of_ble_eq_true rfl, Nat.le_of_ble_eq_true rfl⟩ (Option.some.inj h) dL_canBeEmpty_23
    · have h := jif h c1
      refine j_lconst E (v := 1) (by decide) dL_canBeEmpty_10 ?_
      refine j_goto E (tgt := 15) (by decide) dL_canBeEmpty_11 ?_
      refine j_lastP E (job_in (by decide)) dL_canBeEmpty_15 ?_
      refine j_goto E (tgt := 22) (by decide) dL_canBeEmpty_16 ?_
      refine j_iconst E (kc_0) dL_canBeEmpty_22 ?_
      exact j_wret E hr ⟨Nat.le_of_ble_eq_true rfl, Nat.le_of_ble_eq_true rfl⟩ (Option.some.inj h) dL_canBeEmpty_23
abbrev rm_L_isLeftRecursive : Room := { frames := 8, cells := 1, slots := 6, locals := 137 }
def f_L_isLeftRecursive (st : jSP) (a1 : Int32) : Option (Int32 × jSP) :=
  (f_X5_isLeftRecursive st.1 a1).bind fun r1 =>
  if r1.1 = 0 then
    if r1.2.1 = 0 then some (0, (r1.2.2, vp_updL st.2 (0 : Int32).toNatClampNeg 0)) else some (0, (r1.2.2, vp_updL st.2 (0 : Int32).toNatClampNeg 1))
  else if r1.1 = 3 then some (1, (r1.2.2, st.2))
  else none
set_option maxHeartbeats 4000000 in
set_option maxRecDepth 100000 in
theorem c_L_isLeftRecursive {l : Launch} {D : va_G} {ax : Nat → Nat} {ao : Nat} {cI cZ cJ : ClassId} {st : jSP} {a1 : Int32} {o : Int32 × jSP} (hstt : l.stackTraces = false) (h : f_L_isLeftRecursive st a1 = some o) : CtW l D ax ao cI cZ cJ yL_isLeftRecursive wsL_isLeftRecursive rm_L_isLeftRecursive 1 6 [.ref (ax 0), .int a1, .ref ao] st o := by
  refine ctW_of (o := o) (cc := cL_isLeftRecursive) (nL := 4) (own := RL) (hh := [(0, 16, 19, 24)]) (by decide) rfl rfl (Nat.le_of_ble_eq_true rfl) (lv0 := [(0, .ref (ax 0)), (1, .int a1), (2, .ref ao)]) rfl ?_
  intro p e s m args below meth c A E hr htab hxn hxz hxc
  rw [f_L_isLeftRecursive] at h
  refine j_aload_n E 2 rfl rfl dL_isLeftRecursive_0 ?_
  refine j_iconst E (kc_0) dL_isLeftRecursive_1 ?_
  refine j_aload_n E 0 rfl rfl dL_isLeftRecursive_2 ?_
  refine j_iload_n E 1 rfl rfl dL_isLeftRecursive_3 ?_
  obtain ⟨r1, er1, h⟩ := jbd h
  refine j_xcallH E hxn hxz (As := [.int a1]) (c_X5_isLeftRecursive hstt er1) (cwV 1 E.1.2.2.2.2 gL_isLeftRecursive_X5_isLeftRecursive rfl rfl rfl (by decide +kernel) ⟨Nat.le_of_ble_eq_true rfl, Nat.le_of_ble_eq_true rfl⟩) rfl rfl (Nat.le_of_ble_eq_true rfl) ⟨Nat.le_of_ble_eq_true rfl, Nat.le_of_ble_eq_true rfl⟩ dL_isLeftRecursive_4 (fun hne => ?_) (fun h0 => ?_)
  · have h := jif h hne
    by_cases k1 : r1.1 = 3
    · have h := jit h k1
      rw [k1]
      refine j_catch E (name := "java/lang/IndexOutOfBoundsException") [] ⟨0, 16, 19, 24⟩ [] htab (fun _ h => absurd h List.not_mem_nil) rfl (Nat.succ_ne_zero _) (List.mem_of_getElem? (i := 1) rfl) hxn.2.2.2.1 (fun q => ?_)
      refine j_astore_n E rfl (by decide) (lv' := [(3, .ref q), (0, .ref (ax 0)), (1, .int a1), (2, .ref ao)]) rfl dL_isLeftRecursive_19 ?_
      refine j_iconst E (kc_1) dL_isLeftRecursive_20 ?_
      exact j_wret E hr ⟨Nat.le_of_ble_eq_true rfl, Nat.le_of_ble_eq_true rfl⟩ (Option.some.inj h) dL_isLeftRecursive_21
    have h := jif h k1
    cases h
  · have h := jit h h0
    refine j_if_eq E (tgt := 14) (by decide) dL_isLeftRecursive_7 (fun c1 => ?_) (fun c1 => ?_)
    · have h := jit h c1
      refine j_lconst E (v := 0) (by decide) dL_isLeftRecursive_14 ?_
      refine j_lastP E (job_in (by decide)) dL_isLeftRecursive_15 ?_
      refine j_goto E (tgt := 22) (by decide) dL_isLeftRecursive_16 ?_
      refine j_iconst E (kc_0) dL_isLeftRecursive_22 ?_
      exact j_wret E hr ⟨Nat.le_of_ble_eq_true rfl, Nat.le_of_ble_eq_true rfl⟩ (Option.some.inj h) dL_isLeftRecursive_23
    · have h := jif h c1
      refine j_lconst E (v := 1) (by decide) dL_isLeftRecursive_10 ?_
      refine j_goto E (tgt := 15) (by decide) dL_isLeftRecursive_11 ?_
      refine j_lastP E (job_in (by decide)) dL_isLeftRecursive_15 ?_
      refine j_goto E (tgt := 22) (by decide) dL_isLeftRecursive_16 ?_
      refine j_iconst E (kc_0) dL_isLeftRecursive_22 ?_
      exact j_wret E hr ⟨Nat.le_of_ble_eq_true rfl, Nat.le_of_ble_eq_true rfl⟩ (Option.some.inj h) dL_isLeftRecursive_23
abbrev rm_L_replace : Room := { frames := 7, cells := 1, slots := 6, locals := 122 }
def f_L_replace (st : jSP) (a1 : Int32) (a2 : Int32) (a3 : Int64) : Option (Int32 × jSP) :=
  (f_X5_replace st.1 a1 a2 a3).bind fun r1 =>
  if r1.1 = 0 then
    some (0, (r1.2.2, vp_updL st.2 (0 : Int32).toNatClampNeg r1.2.1.toInt64))
  else if r1.1 = 3 then some (1, (r1.2.2, st.2))
  else if r1.1 = 1 then some (2, (r1.2.2, st.2))
  else if r1.1 = 2 then some (3, (r1.2.2, st.2))
  else none
set_option maxHeartbeats 4000000 in
set_option maxRecDepth 100000 in
theorem c_L_replace {l : Launch} {D : va_G} {ax : Nat → Nat} {ao : Nat} {cI cZ cJ : ClassId} {st : jSP} {a1 : Int32} {a2 : Int32} {a3 : Int64} {o : Int32 × jSP} (hstt : l.stackTraces = false) (h : f_L_replace st a1 a2 a3 = some o) : CtW l D ax ao cI cZ cJ yL_replace wsL_replace rm_L_replace 1 6 [.ref (ax 0), .int a1, .int a2, .long a3, .ref ao] st o := by
  refine ctW_of (o := o) (cc := cL_replace) (nL := 7) (own := RL) (hh := [(0, 12, 15, 24), (0, 12, 19, 13), (0, 12, 23, 15)]) (by decide) rfl rfl (Nat.le_of_ble_eq_true rfl) (lv0 := [(0, .ref (ax 0)), (1, .int a1), (2, .int a2), (3, .long a3), (5, .ref ao)]) rfl ?_
  intro p e s m args below meth c A E hr htab hxn hxz hxc
  rw [f_L_replace] at h
  refine j_aload E 4 rfl dL_replace_0 ?_
  refine j_iconst E (kc_0) dL_replace_2 ?_
  refine j_aload_n E 0 rfl rfl dL_replace_3 ?_
  refine j_iload_n E 1 rfl rfl dL_replace_4 ?_
  refine j_iload_n E 2 rfl rfl dL_replace_5 ?_
  refine j_lload_n E 3 rfl rfl dL_replace_6 ?_
  obtain ⟨r1, er1, h⟩ := jbd h
  refine j_xcallH E hxn hxz (As := [.int a1, .int a2, .long a3]) (c_X5_replace hstt er1) (cwV 3 E.1.2.2.2.2 gL_replace_X5_replace rfl rfl rfl (by decide +kernel) ⟨Nat.le_of_ble_eq_true rfl, Nat.le_of_ble_eq_true rfl⟩) rfl rfl (Nat.le_of_ble_eq_true rfl) ⟨Nat.le_of_ble_eq_true rfl, Nat.le_of_ble_eq_true rfl⟩ dL_replace_7 (fun hne => ?_) (fun h0 => ?_)
  · have h := jif h hne
    by_cases k1 : r1.1 = 3
    · have h := jit h k1
      rw [k1]
      refine j_catch E (name := "java/lang/IndexOutOfBoundsException") [] ⟨0, 12, 15, 24⟩ [⟨0, 12, 19, 13⟩, ⟨0, 12, 23, 15⟩] htab (fun _ h => absurd h List.not_mem_nil) rfl (Nat.succ_ne_zero _) (List.mem_of_getElem? (i := 1) rfl) hxn.2.2.2.1 (fun q => ?_)
      refine j_astore E (by decide) (lv' := [(6, .ref q), (0, .ref (ax 0)), (1, .int a1), (2, .int a2), (3, .long a3), (5, .ref ao)]) rfl dL_replace_15 ?_
      refine j_iconst E (kc_1) dL_replace_17 ?_
      exact j_wret E hr ⟨Nat.le_of_ble_eq_true rfl, Nat.le_of_ble_eq_true rfl⟩ (Option.some.inj h) dL_replace_18
    have h := jif h k1
    by_cases k2 : r1.1 = 1
    · have h := jit h k2
      rw [k2]
      refine j_catch E (name := "java/lang/IllegalArgumentException") [⟨0, 12, 15, 24⟩] ⟨0, 12, 19, 13⟩ [⟨0, 12, 23, 15⟩] htab (List.forall_mem_cons.mpr ⟨Or.inr ⟨Nat.succ_ne_zero _, "java/lang/IndexOutOfBoundsException", E.1.2.2.2.2 _ (List.mem_of_getElem? (i := 1) rfl), hxc.2.2⟩, fun _ h => absurd h List.not_mem_nil⟩) rfl (Nat.succ_ne_zero _) (List.mem_of_getElem? (i := 2) rfl) hxn.2.1 (fun q => ?_)
      refine j_astore E (by decide) (lv' := [(6, .ref q), (0, .ref (ax 0)), (1, .int a1), (2, .int a2), (3, .long a3), (5, .ref ao)]) rfl dL_replace_19 ?_
      refine j_iconst E (kc_2) dL_replace_21 ?_
      exact j_wret E hr ⟨Nat.le_of_ble_eq_true rfl, Nat.le_of_ble_eq_true rfl⟩ (Option.some.inj h) dL_replace_22
    have h := jif h k2
    by_cases k3 : r1.1 = 2
    · have h := jit h k3
      rw [k3]
      refine j_catch E (name := "java/lang/IllegalStateException") [⟨0, 12, 15, 24⟩, ⟨0, 12, 19, 13⟩] ⟨0, 12, 23, 15⟩ [] htab (List.forall_mem_cons.mpr ⟨Or.inr ⟨Nat.succ_ne_zero _, "java/lang/IndexOutOfBoundsException", E.1.2.2.2.2 _ (List.mem_of_getElem? (i := 1) rfl), hxc.2.1⟩, List.forall_mem_cons.mpr ⟨Or.inr ⟨Nat.succ_ne_zero _, "java/lang/IllegalArgumentException", E.1.2.2.2.2 _ (List.mem_of_getElem? (i := 2) rfl), hxc.1⟩, fun _ h => absurd h List.not_mem_nil⟩⟩) rfl (Nat.succ_ne_zero _) (List.mem_of_getElem? (i := 3) rfl) hxn.2.2.1 (fun q => ?_)
      refine j_astore E (by decide) (lv' := [(6, .ref q), (0, .ref (ax 0)), (1, .int a1), (2, .int a2), (3, .long a3), (5, .ref ao)]) rfl dL_replace_23 ?_
      refine j_iconst E (kc_3) dL_replace_25 ?_
      exact j_wret E hr ⟨Nat.le_of_ble_eq_true rfl, Nat.le_of_ble_eq_true rfl⟩ (Option.some.inj h) dL_replace_26
    have h := jif h k3
    cases h
  · have h := jit h h0
    refine j_i2l E dL_replace_10 ?_
    refine j_lastP E (job_in (by decide)) dL_replace_11 ?_
    refine j_goto E (tgt := 27) (by decide) dL_replace_12 ?_
    refine j_iconst E (kc_0) dL_replace_27 ?_
    exact j_wret E hr ⟨Nat.le_of_ble_eq_true rfl, Nat.le_of_ble_eq_true rfl⟩ (Option.some.inj h) dL_replace_28
abbrev rm_L_byteAt : Room := { frames := 7, cells := 1, slots := 6, locals := 117 }
def f_L_byteAt (st : jSP) (a1 : Int32) : Option (Int32 × jSP) :=
  (f_X5_byteAt st.1 a1).bind fun r1 =>
  if r1.1 = 0 then
    some (0, (r1.2.2, vp_updL st.2 (0 : Int32).toNatClampNeg r1.2.1.toInt64))
  else if r1.1 = 3 then some (1, (r1.2.2, st.2))
  else none
set_option maxHeartbeats 4000000 in
set_option maxRecDepth 100000 in
theorem c_L_byteAt {l : Launch} {D : va_G} {ax : Nat → Nat} {ao : Nat} {cI cZ cJ : ClassId} {st : jSP} {a1 : Int32} {o : Int32 × jSP} (hstt : l.stackTraces = false) (h : f_L_byteAt st a1 = some o) : CtW l D ax ao cI cZ cJ yL_byteAt wsL_byteAt rm_L_byteAt 1 6 [.ref (ax 0), .int a1, .ref ao] st o := by
  refine ctW_of (o := o) (cc := cL_byteAt) (nL := 4) (own := RL) (hh := [(0, 9, 12, 24)]) (by decide) rfl rfl (Nat.le_of_ble_eq_true rfl) (lv0 := [(0, .ref (ax 0)), (1, .int a1), (2, .ref ao)]) rfl ?_
  intro p e s m args below meth c A E hr htab hxn hxz hxc
  rw [f_L_byteAt] at h
  refine j_aload_n E 2 rfl rfl dL_byteAt_0 ?_
  refine j_iconst E (kc_0) dL_byteAt_1 ?_
  refine j_aload_n E 0 rfl rfl dL_byteAt_2 ?_
  refine j_iload_n E 1 rfl rfl dL_byteAt_3 ?_
  obtain ⟨r1, er1, h⟩ := jbd h
  refine j_xcallH E hxn hxz (As := [.int a1]) (c_X5_byteAt hstt er1) (cwV 1 E.1.2.2.2.2 gL_byteAt_X5_byteAt rfl rfl rfl (by decide +kernel) ⟨Nat.le_of_ble_eq_true rfl, Nat.le_of_ble_eq_true rfl⟩) rfl rfl (Nat.le_of_ble_eq_true rfl) ⟨Nat.le_of_ble_eq_true rfl, Nat.le_of_ble_eq_true rfl⟩ dL_byteAt_4 (fun hne => ?_) (fun h0 => ?_)
  · have h := jif h hne
    by_cases k1 : r1.1 = 3
    · have h := jit h k1
      rw [k1]
      refine j_catch E (name := "java/lang/IndexOutOfBoundsException") [] ⟨0, 9, 12, 24⟩ [] htab (fun _ h => absurd h List.not_mem_nil) rfl (Nat.succ_ne_zero _) (List.mem_of_getElem? (i := 1) rfl) hxn.2.2.2.1 (fun q => ?_)
      refine j_astore_n E rfl (by decide) (lv' := [(3, .ref q), (0, .ref (ax 0)), (1, .int a1), (2, .ref ao)]) rfl dL_byteAt_12 ?_
      refine j_iconst E (kc_1) dL_byteAt_13 ?_
      exact j_wret E hr ⟨Nat.le_of_ble_eq_true rfl, Nat.le_of_ble_eq_true rfl⟩ (Option.some.inj h) dL_byteAt_14
    have h := jif h k1
    cases h
  · have h := jit h h0
    refine j_i2l E dL_byteAt_7 ?_
    refine j_lastP E (job_in (by decide)) dL_byteAt_8 ?_
    refine j_goto E (tgt := 15) (by decide) dL_byteAt_9 ?_
    refine j_iconst E (kc_0) dL_byteAt_15 ?_
    exact j_wret E hr ⟨Nat.le_of_ble_eq_true rfl, Nat.le_of_ble_eq_true rfl⟩ (Option.some.inj h) dL_byteAt_16
abbrev rm_L_parse : Room := { frames := 218, cells := 2, slots := 12, locals := 8685 }
def f_L_parse (st : jSP) (a1 : Int32) (a2 : Int32) : Option (Int32 × jSP) :=
  (f_X5_parse st.1 a1 a2).bind fun r1 =>
  if r1.1 = 0 then
    some (0, (r1.2.2, vp_updL st.2 (0 : Int32).toNatClampNeg r1.2.1.toInt64))
  else if r1.1 = 3 then some (1, (r1.2.2, st.2))
  else none
set_option maxHeartbeats 4000000 in
set_option maxRecDepth 100000 in
theorem c_L_parse {l : Launch} {D : va_G} {ax : Nat → Nat} {ao : Nat} {cI cZ cJ : ClassId} {st : jSP} {a1 : Int32} {a2 : Int32} {o : Int32 × jSP} (hstt : l.stackTraces = false) (h : f_L_parse st a1 a2 = some o) : CtW l D ax ao cI cZ cJ yL_parse wsL_parse rm_L_parse 2 12 [.ref (ax 0), .int a1, .int a2, .ref ao] st o := by
  refine ctW_of (o := o) (cc := cL_parse) (nL := 5) (own := RL) (hh := [(0, 10, 13, 24)]) (by decide) rfl rfl (Nat.le_of_ble_eq_true rfl) (lv0 := [(0, .ref (ax 0)), (1, .int a1), (2, .int a2), (3, .ref ao)]) rfl ?_
  intro p e s m args below meth c A E hr htab hxn hxz hxc
  rw [f_L_parse] at h
  refine j_aload_n E 3 rfl rfl dL_parse_0 ?_
  refine j_iconst E (kc_0) dL_parse_1 ?_
  refine j_aload_n E 0 rfl rfl dL_parse_2 ?_
  refine j_iload_n E 1 rfl rfl dL_parse_3 ?_
  refine j_iload_n E 2 rfl rfl dL_parse_4 ?_
  obtain ⟨r1, er1, h⟩ := jbd h
  refine j_xcallH E hxn hxz (As := [.int a1, .int a2]) (c_X5_parse hstt er1) (cwV 2 E.1.2.2.2.2 gL_parse_X5_parse rfl rfl rfl (by decide +kernel) ⟨Nat.le_of_ble_eq_true rfl, Nat.le_of_ble_eq_true rfl⟩) rfl rfl (Nat.le_of_ble_eq_true rfl) ⟨Nat.le_of_ble_eq_true rfl, Nat.le_of_ble_eq_true rfl⟩ dL_parse_5 (fun hne => ?_) (fun h0 => ?_)
  · have h := jif h hne
    by_cases k1 : r1.1 = 3
    · have h := jit h k1
      rw [k1]
      refine j_catch E (name := "java/lang/IndexOutOfBoundsException") [] ⟨0, 10, 13, 24⟩ [] htab (fun _ h => absurd h List.not_mem_nil) rfl (Nat.succ_ne_zero _) (List.mem_of_getElem? (i := 1) rfl) hxn.2.2.2.1 (fun q => ?_)
      refine j_astore E (by decide) (lv' := [(4, .ref q), (0, .ref (ax 0)), (1, .int a1), (2, .int a2), (3, .ref ao)]) rfl dL_parse_13 ?_
      refine j_iconst E (kc_1) dL_parse_15 ?_
      exact j_wret E hr ⟨Nat.le_of_ble_eq_true rfl, Nat.le_of_ble_eq_true rfl⟩ (Option.some.inj h) dL_parse_16
    have h := jif h k1
    cases h
  · have h := jit h h0
    refine j_i2l E dL_parse_8 ?_
    refine j_lastP E (job_in (by decide)) dL_parse_9 ?_
    refine j_goto E (tgt := 17) (by decide) dL_parse_10 ?_
    refine j_iconst E (kc_0) dL_parse_17 ?_
    exact j_wret E hr ⟨Nat.le_of_ble_eq_true rfl, Nat.le_of_ble_eq_true rfl⟩ (Option.some.inj h) dL_parse_18
abbrev rm_L_result : Room := { frames := 8, cells := 2, slots := 12, locals := 139 }
def f_L_result (st : jSP) (a1 : Int32) (a2 : Int32) : Option (Int32 × jSP) :=
  (f_X5_result st.1 a1 a2).bind fun r1 =>
  if r1.1 = 0 then
    some (0, (r1.2.2, vp_updL st.2 (0 : Int32).toNatClampNeg r1.2.1.toInt64))
  else if r1.1 = 3 then some (1, (r1.2.2, st.2))
  else none
set_option maxHeartbeats 4000000 in
set_option maxRecDepth 100000 in
theorem c_L_result {l : Launch} {D : va_G} {ax : Nat → Nat} {ao : Nat} {cI cZ cJ : ClassId} {st : jSP} {a1 : Int32} {a2 : Int32} {o : Int32 × jSP} (hstt : l.stackTraces = false) (h : f_L_result st a1 a2 = some o) : CtW l D ax ao cI cZ cJ yL_result wsL_result rm_L_result 2 12 [.ref (ax 0), .int a1, .int a2, .ref ao] st o := by
  refine ctW_of (o := o) (cc := cL_result) (nL := 5) (own := RL) (hh := [(0, 10, 13, 24)]) (by decide) rfl rfl (Nat.le_of_ble_eq_true rfl) (lv0 := [(0, .ref (ax 0)), (1, .int a1), (2, .int a2), (3, .ref ao)]) rfl ?_
  intro p e s m args below meth c A E hr htab hxn hxz hxc
  rw [f_L_result] at h
  refine j_aload_n E 3 rfl rfl dL_result_0 ?_
  refine j_iconst E (kc_0) dL_result_1 ?_
  refine j_aload_n E 0 rfl rfl dL_result_2 ?_
  refine j_iload_n E 1 rfl rfl dL_result_3 ?_
  refine j_iload_n E 2 rfl rfl dL_result_4 ?_
  obtain ⟨r1, er1, h⟩ := jbd h
  refine j_xcallH E hxn hxz (As := [.int a1, .int a2]) (c_X5_result hstt er1) (cwV 2 E.1.2.2.2.2 gL_result_X5_result rfl rfl rfl (by decide +kernel) ⟨Nat.le_of_ble_eq_true rfl, Nat.le_of_ble_eq_true rfl⟩) rfl rfl (Nat.le_of_ble_eq_true rfl) ⟨Nat.le_of_ble_eq_true rfl, Nat.le_of_ble_eq_true rfl⟩ dL_result_5 (fun hne => ?_) (fun h0 => ?_)
  · have h := jif h hne
    by_cases k1 : r1.1 = 3
    · have h := jit h k1
      rw [k1]
      refine j_catch E (name := "java/lang/IndexOutOfBoundsException") [] ⟨0, 10, 13, 24⟩ [] htab (fun _ h => absurd h List.not_mem_nil) rfl (Nat.succ_ne_zero _) (List.mem_of_getElem? (i := 1) rfl) hxn.2.2.2.1 (fun q => ?_)
      refine j_astore E (by decide) (lv' := [(4, .ref q), (0, .ref (ax 0)), (1, .int a1), (2, .int a2), (3, .ref ao)]) rfl dL_result_13 ?_
      refine j_iconst E (kc_1) dL_result_15 ?_
      exact j_wret E hr ⟨Nat.le_of_ble_eq_true rfl, Nat.le_of_ble_eq_true rfl⟩ (Option.some.inj h) dL_result_16
    have h := jif h k1
    cases h
  · have h := jit h h0
    refine j_i2l E dL_result_8 ?_
    refine j_lastP E (job_in (by decide)) dL_result_9 ?_
    refine j_goto E (tgt := 17) (by decide) dL_result_10 ?_
    refine j_iconst E (kc_0) dL_result_17 ?_
    exact j_wret E hr ⟨Nat.le_of_ble_eq_true rfl, Nat.le_of_ble_eq_true rfl⟩ (Option.some.inj h) dL_result_18
abbrev rm_L_reach : Room := { frames := 8, cells := 2, slots := 12, locals := 139 }
def f_L_reach (st : jSP) (a1 : Int32) (a2 : Int32) : Option (Int32 × jSP) :=
  (f_X5_reach st.1 a1 a2).bind fun r1 =>
  if r1.1 = 0 then
    some (0, (r1.2.2, vp_updL st.2 (0 : Int32).toNatClampNeg r1.2.1.toInt64))
  else if r1.1 = 3 then some (1, (r1.2.2, st.2))
  else none
set_option maxHeartbeats 4000000 in
set_option maxRecDepth 100000 in
theorem c_L_reach {l : Launch} {D : va_G} {ax : Nat → Nat} {ao : Nat} {cI cZ cJ : ClassId} {st : jSP} {a1 : Int32} {a2 : Int32} {o : Int32 × jSP} (hstt : l.stackTraces = false) (h : f_L_reach st a1 a2 = some o) : CtW l D ax ao cI cZ cJ yL_reach wsL_reach rm_L_reach 2 12 [.ref (ax 0), .int a1, .int a2, .ref ao] st o := by
  refine ctW_of (o := o) (cc := cL_reach) (nL := 5) (own := RL) (hh := [(0, 10, 13, 24)]) (by decide) rfl rfl (Nat.le_of_ble_eq_true rfl) (lv0 := [(0, .ref (ax 0)), (1, .int a1), (2, .int a2), (3, .ref ao)]) rfl ?_
  intro p e s m args below meth c A E hr htab hxn hxz hxc
  rw [f_L_reach] at h
  refine j_aload_n E 3 rfl rfl dL_reach_0 ?_
  refine j_iconst E (kc_0) dL_reach_1 ?_
  refine j_aload_n E 0 rfl rfl dL_reach_2 ?_
  refine j_iload_n E 1 rfl rfl dL_reach_3 ?_
  refine j_iload_n E 2 rfl rfl dL_reach_4 ?_
  obtain ⟨r1, er1, h⟩ := jbd h
  refine j_xcallH E hxn hxz (As := [.int a1, .int a2]) (c_X5_reach hstt er1) (cwV 2 E.1.2.2.2.2 gL_reach_X5_reach rfl rfl rfl (by decide +kernel) ⟨Nat.le_of_ble_eq_true rfl, Nat.le_of_ble_eq_true rfl⟩) rfl rfl (Nat.le_of_ble_eq_true rfl) ⟨Nat.le_of_ble_eq_true rfl, Nat.le_of_ble_eq_true rfl⟩ dL_reach_5 (fun hne => ?_) (fun h0 => ?_)
  · have h := jif h hne
    by_cases k1 : r1.1 = 3
    · have h := jit h k1
      rw [k1]
      refine j_catch E (name := "java/lang/IndexOutOfBoundsException") [] ⟨0, 10, 13, 24⟩ [] htab (fun _ h => absurd h List.not_mem_nil) rfl (Nat.succ_ne_zero _) (List.mem_of_getElem? (i := 1) rfl) hxn.2.2.2.1 (fun q => ?_)
      refine j_astore E (by decide) (lv' := [(4, .ref q), (0, .ref (ax 0)), (1, .int a1), (2, .int a2), (3, .ref ao)]) rfl dL_reach_13 ?_
      refine j_iconst E (kc_1) dL_reach_15 ?_
      exact j_wret E hr ⟨Nat.le_of_ble_eq_true rfl, Nat.le_of_ble_eq_true rfl⟩ (Option.some.inj h) dL_reach_16
    have h := jif h k1
    cases h
  · have h := jit h h0
    refine j_i2l E dL_reach_8 ?_
    refine j_lastP E (job_in (by decide)) dL_reach_9 ?_
    refine j_goto E (tgt := 17) (by decide) dL_reach_10 ?_
    refine j_iconst E (kc_0) dL_reach_17 ?_
    exact j_wret E hr ⟨Nat.le_of_ble_eq_true rfl, Nat.le_of_ble_eq_true rfl⟩ (Option.some.inj h) dL_reach_18
