def f_X3_runT (st : jS) (a b : Int32) : Option (Int32 × jS) := f_X3_run (f_X3_look 102) st a b
theorem c_X3_runT {l : Launch} {D : va_G} {ad : Nat → Nat} {cI cZ : ClassId} {st : jS} {a b : Int32} {o : Int32 × jS} (h : f_X3_runT st a b = some o) : CtI l D (jT cI cZ) (wX ad cI cZ) yX3_run wsX3_run (rm_X3_run 102) [.ref (ad 7), .int a, .int b] st o.1 o.2 := c_X3_run (c_X3_look 102) h
def f_X6_parseT (st : jS) (a b : Int32) : Option (Int32 × jS) := f_X6_parse (f_X6_look 102) st a b
theorem c_X6_parseT {l : Launch} {D : va_G} {ad : Nat → Nat} {cI cZ : ClassId} {st : jS} {a b : Int32} {o : Int32 × jS} (h : f_X6_parseT st a b = some o) : CtI l D (jT cI cZ) (wM ad cI cZ) yX6_parse wsX6_parse (rm_X6_parse 102) [.ref (ad 0), .int a, .int b] st o.1 o.2 := c_X6_parse (c_X6_look 102) h
abbrev rm_X5_expressionCount : Room := { frames := 0, cells := 0, slots := 0, locals := 0 }
theorem in_X5_expressionCount_X0 : ∀ w ∈ u_ws RX0 TX0 8, w ∈ wsX5_expressionCount := fun w h => (List.mem_cons_of_mem _ (List.mem_append_right _ h))
theorem in_X5_expressionCount_X5 : ∀ w ∈ u_ws RX5 TX5 4, w ∈ wsX5_expressionCount := fun w h => (List.mem_cons_of_mem _ (List.mem_append_left _ (List.mem_append_right _ h)))
def f_X5_expressionCount (st : jS)  : Option (Int32 × jS) :=
  some ((st.2 0), st)
set_option maxHeartbeats 4000000 in
set_option maxRecDepth 100000 in
theorem c_X5_expressionCount {l : Launch} {D : va_G} {ad : Nat → Nat} {cI cZ : ClassId} {st : jS}  {o : (Int32 × jS)} (h : f_X5_expressionCount st = some o) : CtI l D (jT cI cZ) (wX ad cI cZ) yX5_expressionCount wsX5_expressionCount (rm_X5_expressionCount) [.ref (ad 0)] st o.1 o.2 := by
  refine ctI_of (o := o) (cc := cX5_expressionCount) (nL := 1) (own := RX5) (by decide) rfl rfl (Nat.le_of_ble_eq_true rfl) (lv0 := [(0, .ref (ad 0))]) rfl ?_
  intro p e s m args below meth c A E hr
  rw [f_X5_expressionCount] at h
  refine j_aload_n E 0 rfl rfl dX5_expressionCount_0 ?_
  refine j_get E 0 (wX_g0 ad cI cZ _) rfl 0 rfl in_X5_expressionCount_X5 (by decide) (List.mem_of_getElem? (i := 1) rfl) (fun _ h9 => h9) dX5_expressionCount_1 ?_
  refine j_getN E 1 (wX_g1 ad cI cZ _) rfl 4 rfl in_X5_expressionCount_X0 (by decide) (E.2.2.2.1.1 _ (List.mem_of_getElem? (i := 6) rfl)) (fun _ h9 => h9) dX5_expressionCount_4 ?_
  exact j_iret E hr rfl (Option.some.inj h) dX5_expressionCount_7
abbrev rm_X5_size : Room := { frames := 0, cells := 0, slots := 0, locals := 0 }
theorem in_X5_size_X4 : ∀ w ∈ u_ws RX4 TX4 2, w ∈ wsX5_size := fun w h => (List.mem_cons_of_mem _ (List.mem_append_right _ h))
theorem in_X5_size_X5 : ∀ w ∈ u_ws RX5 TX5 4, w ∈ wsX5_size := fun w h => (List.mem_cons_of_mem _ (List.mem_append_left _ (List.mem_append_right _ h)))
def f_X5_size (st : jS)  : Option (Int32 × jS) :=
  some ((st.2 1), st)
set_option maxHeartbeats 4000000 in
set_option maxRecDepth 100000 in
theorem c_X5_size {l : Launch} {D : va_G} {ad : Nat → Nat} {cI cZ : ClassId} {st : jS}  {o : (Int32 × jS)} (h : f_X5_size st = some o) : CtI l D (jT cI cZ) (wX ad cI cZ) yX5_size wsX5_size (rm_X5_size) [.ref (ad 0)] st o.1 o.2 := by
  refine ctI_of (o := o) (cc := cX5_size) (nL := 1) (own := RX5) (by decide) rfl rfl (Nat.le_of_ble_eq_true rfl) (lv0 := [(0, .ref (ad 0))]) rfl ?_
  intro p e s m args below meth c A E hr
  rw [f_X5_size] at h
  refine j_aload_n E 0 rfl rfl dX5_size_0 ?_
  refine j_get E 0 (wX_g0 ad cI cZ _) rfl 1 rfl in_X5_size_X5 (by decide) (List.mem_of_getElem? (i := 1) rfl) (fun _ h9 => h9) dX5_size_1 ?_
  refine j_getN E 9 (wX_g9 ad cI cZ _) rfl 1 rfl in_X5_size_X4 (by decide) (E.2.2.2.1.1 _ (List.mem_of_getElem? (i := 7) rfl)) (fun _ h9 => h9) dX5_size_4 ?_
  exact j_iret E hr rfl (Option.some.inj h) dX5_size_7
abbrev rm_X5_work : Room := { frames := 0, cells := 0, slots := 0, locals := 0 }
theorem in_X5_work_X3 : ∀ w ∈ u_ws RX3 TX3 9, w ∈ wsX5_work := fun w h => (List.mem_cons_of_mem _ (List.mem_append_right _ h))
theorem in_X5_work_X5 : ∀ w ∈ u_ws RX5 TX5 4, w ∈ wsX5_work := fun w h => (List.mem_cons_of_mem _ (List.mem_append_left _ (List.mem_append_right _ h)))
def f_X5_work (st : jS)  : Option (Int32 × jS) :=
  some ((st.2 3), st)
set_option maxHeartbeats 4000000 in
set_option maxRecDepth 100000 in
theorem c_X5_work {l : Launch} {D : va_G} {ad : Nat → Nat} {cI cZ : ClassId} {st : jS}  {o : (Int32 × jS)} (h : f_X5_work st = some o) : CtI l D (jT cI cZ) (wX ad cI cZ) yX5_work wsX5_work (rm_X5_work) [.ref (ad 0)] st o.1 o.2 := by
  refine ctI_of (o := o) (cc := cX5_work) (nL := 1) (own := RX5) (by decide) rfl rfl (Nat.le_of_ble_eq_true rfl) (lv0 := [(0, .ref (ad 0))]) rfl ?_
  intro p e s m args below meth c A E hr
  rw [f_X5_work] at h
  refine j_aload_n E 0 rfl rfl dX5_work_0 ?_
  refine j_get E 0 (wX_g0 ad cI cZ _) rfl 3 rfl in_X5_work_X5 (by decide) (List.mem_of_getElem? (i := 1) rfl) (fun _ h9 => h9) dX5_work_1 ?_
  refine j_getN E 7 (wX_g7 ad cI cZ _) rfl 4 rfl in_X5_work_X3 (by decide) (E.2.2.2.1.1 _ (List.mem_of_getElem? (i := 0) rfl)) (fun _ h9 => h9) dX5_work_4 ?_
  exact j_iret E hr rfl (Option.some.inj h) dX5_work_7
abbrev rm_X5_hits : Room := { frames := 0, cells := 0, slots := 0, locals := 0 }
theorem in_X5_hits_X3 : ∀ w ∈ u_ws RX3 TX3 9, w ∈ wsX5_hits := fun w h => (List.mem_cons_of_mem _ (List.mem_append_right _ h))
theorem in_X5_hits_X5 : ∀ w ∈ u_ws RX5 TX5 4, w ∈ wsX5_hits := fun w h => (List.mem_cons_of_mem _ (List.mem_append_left _ (List.mem_append_right _ h)))
def f_X5_hits (st : jS)  : Option (Int32 × jS) :=
  some ((st.2 4), st)
set_option maxHeartbeats 4000000 in
set_option maxRecDepth 100000 in
theorem c_X5_hits {l : Launch} {D : va_G} {ad : Nat → Nat} {cI cZ : ClassId} {st : jS}  {o : (Int32 × jS)} (h : f_X5_hits st = some o) : CtI l D (jT cI cZ) (wX ad cI cZ) yX5_hits wsX5_hits (rm_X5_hits) [.ref (ad 0)] st o.1 o.2 := by
  refine ctI_of (o := o) (cc := cX5_hits) (nL := 1) (own := RX5) (by decide) rfl rfl (Nat.le_of_ble_eq_true rfl) (lv0 := [(0, .ref (ad 0))]) rfl ?_
  intro p e s m args below meth c A E hr
  rw [f_X5_hits] at h
  refine j_aload_n E 0 rfl rfl dX5_hits_0 ?_
  refine j_get E 0 (wX_g0 ad cI cZ _) rfl 3 rfl in_X5_hits_X5 (by decide) (List.mem_of_getElem? (i := 1) rfl) (fun _ h9 => h9) dX5_hits_1 ?_
  refine j_getN E 7 (wX_g7 ad cI cZ _) rfl 5 rfl in_X5_hits_X3 (by decide) (E.2.2.2.1.1 _ (List.mem_of_getElem? (i := 1) rfl)) (fun _ h9 => h9) dX5_hits_4 ?_
  exact j_iret E hr rfl (Option.some.inj h) dX5_hits_7
abbrev rm_X5_growths : Room := { frames := 0, cells := 0, slots := 0, locals := 0 }
theorem in_X5_growths_X3 : ∀ w ∈ u_ws RX3 TX3 9, w ∈ wsX5_growths := fun w h => (List.mem_cons_of_mem _ (List.mem_append_right _ h))
theorem in_X5_growths_X5 : ∀ w ∈ u_ws RX5 TX5 4, w ∈ wsX5_growths := fun w h => (List.mem_cons_of_mem _ (List.mem_append_left _ (List.mem_append_right _ h)))
def f_X5_growths (st : jS)  : Option (Int32 × jS) :=
  some ((st.2 5), st)
set_option maxHeartbeats 4000000 in
set_option maxRecDepth 100000 in
theorem c_X5_growths {l : Launch} {D : va_G} {ad : Nat → Nat} {cI cZ : ClassId} {st : jS}  {o : (Int32 × jS)} (h : f_X5_growths st = some o) : CtI l D (jT cI cZ) (wX ad cI cZ) yX5_growths wsX5_growths (rm_X5_growths) [.ref (ad 0)] st o.1 o.2 := by
  refine ctI_of (o := o) (cc := cX5_growths) (nL := 1) (own := RX5) (by decide) rfl rfl (Nat.le_of_ble_eq_true rfl) (lv0 := [(0, .ref (ad 0))]) rfl ?_
  intro p e s m args below meth c A E hr
  rw [f_X5_growths] at h
  refine j_aload_n E 0 rfl rfl dX5_growths_0 ?_
  refine j_get E 0 (wX_g0 ad cI cZ _) rfl 3 rfl in_X5_growths_X5 (by decide) (List.mem_of_getElem? (i := 1) rfl) (fun _ h9 => h9) dX5_growths_1 ?_
  refine j_getN E 7 (wX_g7 ad cI cZ _) rfl 6 rfl in_X5_growths_X3 (by decide) (E.2.2.2.1.1 _ (List.mem_of_getElem? (i := 2) rfl)) (fun _ h9 => h9) dX5_growths_4 ?_
  exact j_iret E hr rfl (Option.some.inj h) dX5_growths_7
abbrev rm_X5_farthest : Room := { frames := 0, cells := 0, slots := 0, locals := 0 }
theorem in_X5_farthest_X3 : ∀ w ∈ u_ws RX3 TX3 9, w ∈ wsX5_farthest := fun w h => (List.mem_cons_of_mem _ (List.mem_append_right _ h))
theorem in_X5_farthest_X5 : ∀ w ∈ u_ws RX5 TX5 4, w ∈ wsX5_farthest := fun w h => (List.mem_cons_of_mem _ (List.mem_append_left _ (List.mem_append_right _ h)))
def f_X5_farthest (st : jS)  : Option (Int32 × jS) :=
  some ((st.2 6), st)
set_option maxHeartbeats 4000000 in
set_option maxRecDepth 100000 in
theorem c_X5_farthest {l : Launch} {D : va_G} {ad : Nat → Nat} {cI cZ : ClassId} {st : jS}  {o : (Int32 × jS)} (h : f_X5_farthest st = some o) : CtI l D (jT cI cZ) (wX ad cI cZ) yX5_farthest wsX5_farthest (rm_X5_farthest) [.ref (ad 0)] st o.1 o.2 := by
  refine ctI_of (o := o) (cc := cX5_farthest) (nL := 1) (own := RX5) (by decide) rfl rfl (Nat.le_of_ble_eq_true rfl) (lv0 := [(0, .ref (ad 0))]) rfl ?_
  intro p e s m args below meth c A E hr
  rw [f_X5_farthest] at h
  refine j_aload_n E 0 rfl rfl dX5_farthest_0 ?_
  refine j_get E 0 (wX_g0 ad cI cZ _) rfl 3 rfl in_X5_farthest_X5 (by decide) (List.mem_of_getElem? (i := 1) rfl) (fun _ h9 => h9) dX5_farthest_1 ?_
  refine j_getN E 7 (wX_g7 ad cI cZ _) rfl 7 rfl in_X5_farthest_X3 (by decide) (E.2.2.2.1.1 _ (List.mem_of_getElem? (i := 3) rfl)) (fun _ h9 => h9) dX5_farthest_4 ?_
  exact j_iret E hr rfl (Option.some.inj h) dX5_farthest_7
abbrev rm_X5_remembered : Room := { frames := 2, cells := 0, slots := 0, locals := 43 }
theorem in_X5_remembered_X5 : ∀ w ∈ u_ws RX5 TX5 4, w ∈ wsX5_remembered := fun w h => (List.mem_cons_of_mem _ (List.mem_append_left _ (List.mem_append_right _ h)))
def f_X5_remembered (st : jS)  : Option (Int32 × jS) :=
  (f_X1_count st).bind fun r1 =>
  some (r1.1, r1.2)
set_option maxHeartbeats 4000000 in
set_option maxRecDepth 100000 in
theorem c_X5_remembered {l : Launch} {D : va_G} {ad : Nat → Nat} {cI cZ : ClassId} {st : jS}  {o : (Int32 × jS)} (h : f_X5_remembered st = some o) : CtI l D (jT cI cZ) (wX ad cI cZ) yX5_remembered wsX5_remembered (rm_X5_remembered) [.ref (ad 0)] st o.1 o.2 := by
  refine ctI_of (o := o) (cc := cX5_remembered) (nL := 1) (own := RX5) (by decide) rfl rfl (Nat.le_of_ble_eq_true rfl) (lv0 := [(0, .ref (ad 0))]) rfl ?_
  intro p e s m args below meth c A E hr
  rw [f_X5_remembered] at h
  refine j_aload_n E 0 rfl rfl dX5_remembered_0 ?_
  refine j_get E 0 (wX_g0 ad cI cZ _) rfl 2 rfl in_X5_remembered_X5 (by decide) (List.mem_of_getElem? (i := 1) rfl) (fun _ h9 => h9) dX5_remembered_1 ?_
  obtain ⟨r1, er1, h⟩ := jbd h
  refine j_callVi E (As := []) (c_X1_count er1) (cwV 0 E.1.2.2.2.2 gX5_remembered_X1_count rfl rfl rfl (by decide +kernel) ⟨Nat.le_of_ble_eq_true rfl, Nat.le_of_ble_eq_true rfl⟩) (wX_g11 ad cI cZ _) rfl rfl rfl (Nat.le_of_ble_eq_true rfl) ⟨Nat.zero_le _, Nat.zero_le _⟩ dX5_remembered_4 ?_
  exact j_iret E hr rfl (Option.some.inj h) dX5_remembered_7
abbrev rm_X5_forget : Room := { frames := 3, cells := 0, slots := 0, locals := 66 }
theorem in_X5_forget_X5 : ∀ w ∈ u_ws RX5 TX5 4, w ∈ wsX5_forget := fun w h => (List.mem_cons_of_mem _ (List.mem_append_left _ (List.mem_append_right _ h)))
def f_X5_forget (st : jS)  : Option (Int32 × jS) :=
  (f_X1_count st).bind fun r1 =>
  (f_X1_clear r1.2).bind fun r2 =>
  some (r1.1, r2)
set_option maxHeartbeats 4000000 in
set_option maxRecDepth 100000 in
theorem c_X5_forget {l : Launch} {D : va_G} {ad : Nat → Nat} {cI cZ : ClassId} {st : jS}  {o : (Int32 × jS)} (h : f_X5_forget st = some o) : CtI l D (jT cI cZ) (wX ad cI cZ) yX5_forget wsX5_forget (rm_X5_forget) [.ref (ad 0)] st o.1 o.2 := by
  refine ctI_of (o := o) (cc := cX5_forget) (nL := 2) (own := RX5) (by decide) rfl rfl (Nat.le_of_ble_eq_true rfl) (lv0 := [(0, .ref (ad 0))]) rfl ?_
  intro p e s m args below meth c A E hr
  rw [f_X5_forget] at h
  refine j_aload_n E 0 rfl rfl dX5_forget_0 ?_
  refine j_get E 0 (wX_g0 ad cI cZ _) rfl 2 rfl in_X5_forget_X5 (by decide) (List.mem_of_getElem? (i := 1) rfl) (fun _ h9 => h9) dX5_forget_1 ?_
  obtain ⟨r1, er1, h⟩ := jbd h
  refine j_callVi E (As := []) (c_X1_count er1) (cwV 0 E.1.2.2.2.2 gX5_forget_X1_count rfl rfl rfl (by decide +kernel) ⟨Nat.le_of_ble_eq_true rfl, Nat.le_of_ble_eq_true rfl⟩) (wX_g11 ad cI cZ _) rfl rfl rfl (Nat.le_of_ble_eq_true rfl) ⟨Nat.zero_le _, Nat.zero_le _⟩ dX5_forget_4 ?_
  refine j_istore_n E rfl (by decide) (lv' := [(1, .int r1.1), (0, .ref (ad 0))]) rfl dX5_forget_7 ?_
  refine j_aload_n E 1 rfl rfl dX5_forget_8 ?_
  refine j_get E 0 (wX_g0 ad cI cZ _) rfl 2 rfl in_X5_forget_X5 (by decide) (List.mem_of_getElem? (i := 1) rfl) (fun _ h9 => h9) dX5_forget_9 ?_
  obtain ⟨r2, er2, h⟩ := jbd h
  refine j_callVv E (As := []) (c_X1_clear er2) (cwV 0 E.1.2.2.2.2 gX5_forget_X1_clear rfl rfl rfl (by decide +kernel) ⟨Nat.le_of_ble_eq_true rfl, Nat.le_of_ble_eq_true rfl⟩) (wX_g11 ad cI cZ _) rfl rfl rfl (Nat.le_of_ble_eq_true rfl) ⟨Nat.zero_le _, Nat.zero_le _⟩ dX5_forget_12 ?_
  refine j_iload_n E 0 rfl rfl dX5_forget_15 ?_
  exact j_iret E hr rfl (Option.some.inj h) dX5_forget_16
abbrev rm_X5_digest : Room := { frames := 2, cells := 0, slots := 0, locals := 47 }
theorem in_X5_digest_X3 : ∀ w ∈ u_ws RX3 TX3 9, w ∈ wsX5_digest := fun w h => (List.mem_cons_of_mem _ (List.mem_append_left _ (List.mem_append_left _ (List.mem_append_left _ (List.mem_append_right _ h)))))
theorem in_X5_digest_X5 : ∀ w ∈ u_ws RX5 TX5 4, w ∈ wsX5_digest := fun w h => (List.mem_cons_of_mem _ (List.mem_append_left _ (List.mem_append_left _ (List.mem_append_left _ (List.mem_append_left _ (List.mem_append_right _ h))))))
def f_X5_digest (st : jS)  : Option (Int64 × jS) :=
  (f_X0_addToDigest st (107 : Int64)).bind fun r1 =>
  (f_X4_addToDigest r1.2 r1.1).bind fun r2 =>
  (f_X1_addToDigest r2.2 r2.1).bind fun r3 =>
  (f_X5_mix r3.1 (r3.2.2 3)).bind fun r4 =>
  (f_X5_mix r4 (r3.2.2 4)).bind fun r5 =>
  (f_X5_mix r5 (r3.2.2 5)).bind fun r6 =>
  some (r6, r3.2)
set_option maxHeartbeats 4000000 in
set_option maxRecDepth 100000 in
theorem c_X5_digest {l : Launch} {D : va_G} {ad : Nat → Nat} {cI cZ : ClassId} {st : jS}  {o : (Int64 × jS)} (h : f_X5_digest st = some o) : CtL l D (jT cI cZ) (wX ad cI cZ) yX5_digest wsX5_digest (rm_X5_digest) [.ref (ad 0)] st o.1 o.2 := by
  refine ctL_of (o := o) (cc := cX5_digest) (nL := 3) (own := RX5) (by decide) rfl rfl (Nat.le_of_ble_eq_true rfl) (lv0 := [(0, .ref (ad 0))]) rfl ?_
  intro p e s m args below meth c A E hr
  rw [f_X5_digest] at h
  refine j_aload_n E 0 rfl rfl dX5_digest_0 ?_
  refine j_get E 0 (wX_g0 ad cI cZ _) rfl 0 rfl in_X5_digest_X5 (by decide) (List.mem_of_getElem? (i := 1) rfl) (fun _ h9 => h9) dX5_digest_1 ?_
  refine j_ldc2 E (List.mem_of_getElem? (i := 2) rfl) dX5_digest_4 ?_
  obtain ⟨r1, er1, h⟩ := jbd h
  refine j_callVl E (As := [.long (107 : Int64)]) (c_X0_addToDigest er1) (cwV 1 E.1.2.2.2.2 gX5_digest_X0_addToDigest rfl rfl rfl (by decide +kernel) ⟨Nat.le_of_ble_eq_true rfl, Nat.le_of_ble_eq_true rfl⟩) (wX_g1 ad cI cZ _) rfl rfl rfl (Nat.le_of_ble_eq_true rfl) ⟨Nat.zero_le _, Nat.zero_le _⟩ dX5_digest_7 ?_
  refine j_lstore_n E rfl (by decide) (lv' := [(1, .long r1.1), (0, .ref (ad 0))]) rfl dX5_digest_10 ?_
  refine j_aload_n E 1 rfl rfl dX5_digest_11 ?_
  refine j_get E 0 (wX_g0 ad cI cZ _) rfl 1 rfl in_X5_digest_X5 (by decide) (List.mem_of_getElem? (i := 3) rfl) (fun _ h9 => h9) dX5_digest_12 ?_
  refine j_lload_n E 0 rfl rfl dX5_digest_15 ?_
  obtain ⟨r2, er2, h⟩ := jbd h
  refine j_callVl E (As := [.long r1.1]) (c_X4_addToDigest er2) (cwV 1 E.1.2.2.2.2 gX5_digest_X4_addToDigest rfl rfl rfl (by decide +kernel) ⟨Nat.le_of_ble_eq_true rfl, Nat.le_of_ble_eq_true rfl⟩) (wX_g9 ad cI cZ _) rfl rfl rfl (Nat.le_of_ble_eq_true rfl) ⟨Nat.zero_le _, Nat.zero_le _⟩ dX5_digest_16 ?_
  refine j_lstore_n E rfl (by decide) (lv' := [(1, .long r2.1), (0, .ref (ad 0))]) rfl dX5_digest_19 ?_
  refine j_aload_n E 1 rfl rfl dX5_digest_20 ?_
  refine j_get E 0 (wX_g0 ad cI cZ _) rfl 2 rfl in_X5_digest_X5 (by decide) (List.mem_of_getElem? (i := 4) rfl) (fun _ h9 => h9) dX5_digest_21 ?_
  refine j_lload_n E 0 rfl rfl dX5_digest_24 ?_
  obtain ⟨r3, er3, h⟩ := jbd h
  refine j_callVl E (As := [.long r2.1]) (c_X1_addToDigest er3) (cwV 1 E.1.2.2.2.2 gX5_digest_X1_addToDigest rfl rfl rfl (by decide +kernel) ⟨Nat.le_of_ble_eq_true rfl, Nat.le_of_ble_eq_true rfl⟩) (wX_g11 ad cI cZ _) rfl rfl rfl (Nat.le_of_ble_eq_true rfl) ⟨Nat.zero_le _, Nat.zero_le _⟩ dX5_digest_25 ?_
  refine j_lstore_n E rfl (by decide) (lv' := [(1, .long r3.1), (0, .ref (ad 0))]) rfl dX5_digest_28 ?_
  refine j_lload_n E 0 rfl rfl dX5_digest_29 ?_
  refine j_aload_n E 1 rfl rfl dX5_digest_30 ?_
  refine j_get E 0 (wX_g0 ad cI cZ _) rfl 3 rfl in_X5_digest_X5 (by decide) (List.mem_of_getElem? (i := 5) rfl) (fun _ h9 => h9) dX5_digest_31 ?_
  refine j_getN E 7 (wX_g7 ad cI cZ _) rfl 4 rfl in_X5_digest_X3 (by decide) (E.2.2.2.1.1 _ (List.mem_of_getElem? (i := 0) rfl)) (fun _ h9 => h9) dX5_digest_34 ?_
  obtain ⟨r4, er4, h⟩ := jbd h
  refine j_callSl E (As := [.long r3.1, .int (r3.2.2 3)]) (c_X5_mix er4) (va_cwS 2 E.1.2.2.2.2 gX5_digest_X5_mix rfl rfl rfl (by decide +kernel) ⟨Nat.le_of_ble_eq_true rfl, Nat.le_of_ble_eq_true rfl⟩) rfl rfl (Nat.le_of_ble_eq_true rfl) ⟨Nat.zero_le _, Nat.zero_le _⟩ dX5_digest_37 ?_
  refine j_lstore_n E rfl (by decide) (lv' := [(1, .long r4), (0, .ref (ad 0))]) rfl dX5_digest_40 ?_
  refine j_lload_n E 0 rfl rfl dX5_digest_41 ?_
  refine j_aload_n E 1 rfl rfl dX5_digest_42 ?_
  refine j_get E 0 (wX_g0 ad cI cZ _) rfl 3 rfl in_X5_digest_X5 (by decide) (List.mem_of_getElem? (i := 5) rfl) (fun _ h9 => h9) dX5_digest_43 ?_
  refine j_getN E 7 (wX_g7 ad cI cZ _) rfl 5 rfl in_X5_digest_X3 (by decide) (E.2.2.2.1.1 _ (List.mem_of_getElem? (i := 1) rfl)) (fun _ h9 => h9) dX5_digest_46 ?_
  obtain ⟨r5, er5, h⟩ := jbd h
  refine j_callSl E (As := [.long r4, .int (r3.2.2 4)]) (c_X5_mix er5) (va_cwS 2 E.1.2.2.2.2 gX5_digest_X5_mix rfl rfl rfl (by decide +kernel) ⟨Nat.le_of_ble_eq_true rfl, Nat.le_of_ble_eq_true rfl⟩) rfl rfl (Nat.le_of_ble_eq_true rfl) ⟨Nat.zero_le _, Nat.zero_le _⟩ dX5_digest_49 ?_
  refine j_lstore_n E rfl (by decide) (lv' := [(1, .long r5), (0, .ref (ad 0))]) rfl dX5_digest_52 ?_
  refine j_lload_n E 0 rfl rfl dX5_digest_53 ?_
  refine j_aload_n E 1 rfl rfl dX5_digest_54 ?_
  refine j_get E 0 (wX_g0 ad cI cZ _) rfl 3 rfl in_X5_digest_X5 (by decide) (List.mem_of_getElem? (i := 5) rfl) (fun _ h9 => h9) dX5_digest_55 ?_
  refine j_getN E 7 (wX_g7 ad cI cZ _) rfl 6 rfl in_X5_digest_X3 (by decide) (E.2.2.2.1.1 _ (List.mem_of_getElem? (i := 2) rfl)) (fun _ h9 => h9) dX5_digest_58 ?_
  obtain ⟨r6, er6, h⟩ := jbd h
  refine j_callSl E (As := [.long r5, .int (r3.2.2 5)]) (c_X5_mix er6) (va_cwS 2 E.1.2.2.2.2 gX5_digest_X5_mix rfl rfl rfl (by decide +kernel) ⟨Nat.le_of_ble_eq_true rfl, Nat.le_of_ble_eq_true rfl⟩) rfl rfl (Nat.le_of_ble_eq_true rfl) ⟨Nat.zero_le _, Nat.zero_le _⟩ dX5_digest_61 ?_
  exact j_lret E hr (Option.some.inj h) dX5_digest_64
abbrev rm_X5_refuseIfFull : Room := { frames := 6, cells := 1, slots := 6, locals := 96 }
theorem in_X5_refuseIfFull_X5 : ∀ w ∈ u_ws RX5 TX5 4, w ∈ wsX5_refuseIfFull := fun w h => (List.mem_cons_of_mem _ (List.mem_append_left _ (List.mem_append_left _ (List.mem_append_right _ h))))
def f_X5_refuseIfFull (st : jS)  : Option (Nat × jS) :=
  (f_X0_isFull st).bind fun r1 =>
  if r1.1 = 0 then
    some (0, r1.2)
  else
  some (2, r1.2)
set_option maxHeartbeats 4000000 in
set_option maxRecDepth 100000 in
theorem c_X5_refuseIfFull {l : Launch} {D : va_G} {ad : Nat → Nat} {cI cZ : ClassId} {st : jS}  {o : (Nat × jS)} (hstt : l.stackTraces = false) (h : f_X5_refuseIfFull st = some o) : CxV l D (jT cI cZ) (wX ad cI cZ) yX5_refuseIfFull wsX5_refuseIfFull (rm_X5_refuseIfFull) 1 6 [.ref (ad 0)] st o := by
  refine cxV_of (o := o) (cc := cX5_refuseIfFull) (nL := 1) (own := RX5) hstt (by decide) rfl rfl (Nat.le_of_ble_eq_true rfl) (lv0 := [(0, .ref (ad 0))]) rfl ?_
  intro p e s m args below meth c A EX hr
  have E := EX.1
  rw [f_X5_refuseIfFull] at h
  refine j_aload_n E 0 rfl rfl dX5_refuseIfFull_0 ?_
  refine j_get E 0 (wX_g0 ad cI cZ _) rfl 0 rfl in_X5_refuseIfFull_X5 (by decide) (List.mem_of_getElem? (i := 3) rfl) (fun _ h9 => h9) dX5_refuseIfFull_1 ?_
  obtain ⟨r1, er1, h⟩ := jbd h
  refine j_callVi E (As := []) (c_X0_isFull er1) (cwV 0 E.1.2.2.2.2 gX5_refuseIfFull_X0_isFull rfl rfl rfl (by decide +kernel) ⟨Nat.le_of_ble_eq_true rfl, Nat.le_of_ble_eq_true rfl⟩) (wX_g1 ad cI cZ _) rfl rfl rfl (Nat.le_of_ble_eq_true rfl) ⟨Nat.le_of_ble_eq_true rfl, Nat.le_of_ble_eq_true rfl⟩ dX5_refuseIfFull_4 ?_
  refine j_if_eq E (tgt := 20) (by decide) dX5_refuseIfFull_7 (fun c2 => ?_) (fun c2 => ?_)
  · have h := jit h c2
    exact j_xvret EX hr (Option.some.inj h) ⟨Nat.le_of_ble_eq_true rfl, Nat.le_of_ble_eq_true rfl⟩ dX5_refuseIfFull_20
  · have h := jif h c2
    exact j_xthrowV2 EX (List.mem_of_getElem? (i := 1) rfl) (List.mem_of_getElem? (i := 2) rfl) (fun w h9 => (List.mem_cons_of_mem _ (List.mem_append_right _ h9))) (List.mem_of_getElem? (i := 8) rfl) (Option.some.inj h) ⟨Nat.le_of_ble_eq_true rfl, Nat.le_of_ble_eq_true rfl, Nat.le_of_ble_eq_true rfl, Nat.le_of_ble_eq_true rfl⟩ ⟨Nat.le_of_ble_eq_true rfl, Nat.le_of_ble_eq_true rfl⟩ dX5_refuseIfFull_10 dX5_refuseIfFull_13 dX5_refuseIfFull_14 dX5_refuseIfFull_16 dX5_refuseIfFull_19
abbrev rm_X5_refuseUnknownExpression : Room := { frames := 6, cells := 1, slots := 6, locals := 96 }
theorem in_X5_refuseUnknownExpression_X5 : ∀ w ∈ u_ws RX5 TX5 4, w ∈ wsX5_refuseUnknownExpression := fun w h => (List.mem_cons_of_mem _ (List.mem_append_left _ (List.mem_append_left _ (List.mem_append_right _ h))))
def f_X5_refuseUnknownExpression (st : jS) (a1 : Int32) : Option (Nat × jS) :=
  (f_X0_has st a1).bind fun r1 =>
  if r1.1 = 0 then
    some (3, r1.2)
  else
  some (0, r1.2)
set_option maxHeartbeats 4000000 in
set_option maxRecDepth 100000 in
theorem c_X5_refuseUnknownExpression {l : Launch} {D : va_G} {ad : Nat → Nat} {cI cZ : ClassId} {st : jS} {a1 : Int32} {o : (Nat × jS)} (hstt : l.stackTraces = false) (h : f_X5_refuseUnknownExpression st a1 = some o) : CxV l D (jT cI cZ) (wX ad cI cZ) yX5_refuseUnknownExpression wsX5_refuseUnknownExpression (rm_X5_refuseUnknownExpression) 1 6 [.ref (ad 0), .int a1] st o := by
  refine cxV_of (o := o) (cc := cX5_refuseUnknownExpression) (nL := 2) (own := RX5) hstt (by decide) rfl rfl (Nat.le_of_ble_eq_true rfl) (lv0 := [(0, .ref (ad 0)), (1, .int a1)]) rfl ?_
  intro p e s m args below meth c A EX hr
  have E := EX.1
  rw [f_X5_refuseUnknownExpression] at h
  refine j_aload_n E 0 rfl rfl dX5_refuseUnknownExpression_0 ?_
  refine j_get E 0 (wX_g0 ad cI cZ _) rfl 0 rfl in_X5_refuseUnknownExpression_X5 (by decide) (List.mem_of_getElem? (i := 3) rfl) (fun _ h9 => h9) dX5_refuseUnknownExpression_1 ?_
  refine j_iload_n E 1 rfl rfl dX5_refuseUnknownExpression_4 ?_
  obtain ⟨r1, er1, h⟩ := jbd h
  refine j_callVi E (As := [.int a1]) (c_X0_has er1) (cwV 1 E.1.2.2.2.2 gX5_refuseUnknownExpression_X0_has rfl rfl rfl (by decide +kernel) ⟨Nat.le_of_ble_eq_true rfl, Nat.le_of_ble_eq_true rfl⟩) (wX_g1 ad cI cZ _) rfl rfl rfl (Nat.le_of_ble_eq_true rfl) ⟨Nat.le_of_ble_eq_true rfl, Nat.le_of_ble_eq_true rfl⟩ dX5_refuseUnknownExpression_5 ?_
  refine j_if_ne E (tgt := 21) (by decide) dX5_refuseUnknownExpression_8 (fun c2 => ?_) (fun c2 => ?_)
  · have h := jif h c2
    exact j_xvret EX hr (Option.some.inj h) ⟨Nat.le_of_ble_eq_true rfl, Nat.le_of_ble_eq_true rfl⟩ dX5_refuseUnknownExpression_21
  · have h := jit h c2
    exact j_xthrowV3 EX (List.mem_of_getElem? (i := 1) rfl) (List.mem_of_getElem? (i := 2) rfl) (fun w h9 => (List.mem_cons_of_mem _ (List.mem_append_right _ h9))) (List.mem_of_getElem? (i := 9) rfl) (Option.some.inj h) ⟨Nat.le_of_ble_eq_true rfl, Nat.le_of_ble_eq_true rfl, Nat.le_of_ble_eq_true rfl, Nat.le_of_ble_eq_true rfl⟩ ⟨Nat.le_of_ble_eq_true rfl, Nat.le_of_ble_eq_true rfl⟩ dX5_refuseUnknownExpression_11 dX5_refuseUnknownExpression_14 dX5_refuseUnknownExpression_15 dX5_refuseUnknownExpression_17 dX5_refuseUnknownExpression_20
abbrev rm_X5_refuseUnknownPlace : Room := { frames := 6, cells := 1, slots := 6, locals := 96 }
theorem in_X5_refuseUnknownPlace_X4 : ∀ w ∈ u_ws RX4 TX4 2, w ∈ wsX5_refuseUnknownPlace := fun w h => (List.mem_cons_of_mem _ (List.mem_append_left _ (List.mem_append_right _ h)))
theorem in_X5_refuseUnknownPlace_X5 : ∀ w ∈ u_ws RX5 TX5 4, w ∈ wsX5_refuseUnknownPlace := fun w h => (List.mem_cons_of_mem _ (List.mem_append_left _ (List.mem_append_left _ (List.mem_append_right _ h))))
def f_X5_refuseUnknownPlace (st : jS) (a1 : Int32) : Option (Nat × jS) :=
  if a1 < 0 then
    some (3, st)
  else
  if a1 ≤ (st.2 1) then
    some (0, st)
  else
  some (3, st)
set_option maxHeartbeats 4000000 in
set_option maxRecDepth 100000 in
theorem c_X5_refuseUnknownPlace {l : Launch} {D : va_G} {ad : Nat → Nat} {cI cZ : ClassId} {st : jS} {a1 : Int32} {o : (Nat × jS)} (hstt : l.stackTraces = false) (h : f_X5_refuseUnknownPlace st a1 = some o) : CxV l D (jT cI cZ) (wX ad cI cZ) yX5_refuseUnknownPlace wsX5_refuseUnknownPlace (rm_X5_refuseUnknownPlace) 1 6 [.ref (ad 0), .int a1] st o := by
  refine cxV_of (o := o) (cc := cX5_refuseUnknownPlace) (nL := 2) (own := RX5) hstt (by decide) rfl rfl (Nat.le_of_ble_eq_true rfl) (lv0 := [(0, .ref (ad 0)), (1, .int a1)]) rfl ?_
  intro p e s m args below meth c A EX hr
  have E := EX.1
  rw [f_X5_refuseUnknownPlace] at h
  refine j_iload_n E 1 rfl rfl dX5_refuseUnknownPlace_0 ?_
  refine j_if_lt E (tgt := 15) (by decide) dX5_refuseUnknownPlace_1 (fun c1 => ?_) (fun c1 => ?_)
  · have h := jit h c1
    exact j_xthrowV3 EX (List.mem_of_getElem? (i := 1) rfl) (List.mem_of_getElem? (i := 2) rfl) (fun w h9 => (List.mem_cons_of_mem _ (List.mem_append_right _ h9))) (List.mem_of_getElem? (i := 7) rfl) (Option.some.inj h) ⟨Nat.le_of_ble_eq_true rfl, Nat.le_of_ble_eq_true rfl, Nat.le_of_ble_eq_true rfl, Nat.le_of_ble_eq_true rfl⟩ ⟨Nat.le_of_ble_eq_true rfl, Nat.le_of_ble_eq_true rfl⟩ dX5_refuseUnknownPlace_15 dX5_refuseUnknownPlace_18 dX5_refuseUnknownPlace_19 dX5_refuseUnknownPlace_21 dX5_refuseUnknownPlace_24
  · have h := jif h c1
    refine j_iload_n E 1 rfl rfl dX5_refuseUnknownPlace_4 ?_
    refine j_aload_n E 0 rfl rfl dX5_refuseUnknownPlace_5 ?_
    refine j_get E 0 (wX_g0 ad cI cZ _) rfl 1 rfl in_X5_refuseUnknownPlace_X5 (by decide) (List.mem_of_getElem? (i := 3) rfl) (fun _ h9 => h9) dX5_refuseUnknownPlace_6 ?_
    refine j_getN E 9 (wX_g9 ad cI cZ _) rfl 1 rfl in_X5_refuseUnknownPlace_X4 (by decide) (E.2.2.2.1.1 _ (List.mem_of_getElem? (i := 7) rfl)) (fun _ h9 => h9) dX5_refuseUnknownPlace_9 ?_
    refine j_icmp_le E (tgt := 25) (by decide) dX5_refuseUnknownPlace_12 (fun c2 => ?_) (fun c2 => ?_)
    · have h := jit h c2
      exact j_xvret EX hr (Option.some.inj h) ⟨Nat.le_of_ble_eq_true rfl, Nat.le_of_ble_eq_true rfl⟩ dX5_refuseUnknownPlace_25
    · have h := jif h c2
      exact j_xthrowV3 EX (List.mem_of_getElem? (i := 1) rfl) (List.mem_of_getElem? (i := 2) rfl) (fun w h9 => (List.mem_cons_of_mem _ (List.mem_append_right _ h9))) (List.mem_of_getElem? (i := 7) rfl) (Option.some.inj h) ⟨Nat.le_of_ble_eq_true rfl, Nat.le_of_ble_eq_true rfl, Nat.le_of_ble_eq_true rfl, Nat.le_of_ble_eq_true rfl⟩ ⟨Nat.le_of_ble_eq_true rfl, Nat.le_of_ble_eq_true rfl⟩ dX5_refuseUnknownPlace_15 dX5_refuseUnknownPlace_18 dX5_refuseUnknownPlace_19 dX5_refuseUnknownPlace_21 dX5_refuseUnknownPlace_24
abbrev rm_X5_refuseUnknownRule : Room := { frames := 6, cells := 1, slots := 6, locals := 96 }
def f_X5_refuseUnknownRule (a1 : Int32) : Option Nat :=
  if a1 < 0 then
    some 3
  else
  if a1 < 10 then
    some 0
  else
  some 3
set_option maxHeartbeats 4000000 in
set_option maxRecDepth 100000 in
theorem c_X5_refuseUnknownRule {l : Launch} {D : va_G} {S : Type} {wf : S → va_W} {st : S} {tys : List (ClassId × FieldType)} {a1 : Int32} {o : Nat} (hstt : l.stackTraces = false) (h : f_X5_refuseUnknownRule a1 = some o) : CxV l D tys wf yX5_refuseUnknownRule wsX5_refuseUnknownRule (rm_X5_refuseUnknownRule) 1 6 [.int a1] st (o, st) := by
  refine cxV_of (o := (o, st)) (cc := cX5_refuseUnknownRule) (nL := 1) (own := RX5) hstt (by decide) rfl rfl (Nat.le_of_ble_eq_true rfl) (lv0 := [(0, .int a1)]) rfl ?_
  intro p e s m args below meth c A EX hr
  have E := EX.1
  rw [f_X5_refuseUnknownRule] at h
  refine j_iload_n E 0 rfl rfl dX5_refuseUnknownRule_0 ?_
  refine j_if_lt E (tgt := 10) (by decide) dX5_refuseUnknownRule_1 (fun c1 => ?_) (fun c1 => ?_)
  · have h := jit h c1
    exact j_xthrowV3 EX (List.mem_of_getElem? (i := 1) rfl) (List.mem_of_getElem? (i := 2) rfl) (fun w h9 => (List.mem_cons_of_mem _ (List.mem_append_right _ h9))) (List.mem_of_getElem? (i := 10) rfl) (congrArg (fun z => (z, st)) (Option.some.inj h)) ⟨Nat.le_of_ble_eq_true rfl, Nat.le_of_ble_eq_true rfl, Nat.le_of_ble_eq_true rfl, Nat.le_of_ble_eq_true rfl⟩ ⟨Nat.le_of_ble_eq_true rfl, Nat.le_of_ble_eq_true rfl⟩ dX5_refuseUnknownRule_10 dX5_refuseUnknownRule_13 dX5_refuseUnknownRule_14 dX5_refuseUnknownRule_16 dX5_refuseUnknownRule_19
  · have h := jif h c1
    refine j_iload_n E 0 rfl rfl dX5_refuseUnknownRule_4 ?_
    refine j_bipush E (kb_10) dX5_refuseUnknownRule_5 ?_
    refine j_icmp_lt E (tgt := 20) (by decide) dX5_refuseUnknownRule_7 (fun c2 => ?_) (fun c2 => ?_)
    · have h := jit h c2
      exact j_xvret EX hr (congrArg (fun z => (z, st)) (Option.some.inj h)) ⟨Nat.le_of_ble_eq_true rfl, Nat.le_of_ble_eq_true rfl⟩ dX5_refuseUnknownRule_20
    · have h := jif h c2
      exact j_xthrowV3 EX (List.mem_of_getElem? (i := 1) rfl) (List.mem_of_getElem? (i := 2) rfl) (fun w h9 => (List.mem_cons_of_mem _ (List.mem_append_right _ h9))) (List.mem_of_getElem? (i := 10) rfl) (congrArg (fun z => (z, st)) (Option.some.inj h)) ⟨Nat.le_of_ble_eq_true rfl, Nat.le_of_ble_eq_true rfl, Nat.le_of_ble_eq_true rfl, Nat.le_of_ble_eq_true rfl⟩ ⟨Nat.le_of_ble_eq_true rfl, Nat.le_of_ble_eq_true rfl⟩ dX5_refuseUnknownRule_10 dX5_refuseUnknownRule_13 dX5_refuseUnknownRule_14 dX5_refuseUnknownRule_16 dX5_refuseUnknownRule_19
abbrev rm_X5_plain : Room := { frames := 7, cells := 1, slots := 6, locals := 116 }
theorem in_X5_plain_X5 : ∀ w ∈ u_ws RX5 TX5 4, w ∈ wsX5_plain := fun w h => (List.mem_cons_of_mem _ (List.mem_append_left _ (List.mem_append_left _ (List.mem_append_left _ (List.mem_append_right _ h)))))
def f_X5_plain (st : jS) (a1 : Int32) : Option (Nat × Int32 × jS) :=
  if a1 = 0 then
    (f_X5_refuseIfFull st).bind fun r2 =>
    if ¬ r2.1 = 0 then some (r2.1, 0, r2.2) else
    (f_X0_add r2.2 a1 (-1) (-1)).bind fun r4 =>
    some (0, r4.1, r4.2)
  else
  if a1 = 1 then
    (f_X5_refuseIfFull st).bind fun r6 =>
    if ¬ r6.1 = 0 then some (r6.1, 0, r6.2) else
    (f_X0_add r6.2 a1 (-1) (-1)).bind fun r8 =>
    some (0, r8.1, r8.2)
  else
  some (1, 0, st)
set_option maxHeartbeats 4000000 in
set_option maxRecDepth 100000 in
theorem c_X5_plain {l : Launch} {D : va_G} {ad : Nat → Nat} {cI cZ : ClassId} {st : jS} {a1 : Int32} {o : (Nat × Int32 × jS)} (hstt : l.stackTraces = false) (h : f_X5_plain st a1 = some o) : CxI l D (jT cI cZ) (wX ad cI cZ) yX5_plain wsX5_plain (rm_X5_plain) 1 6 [.ref (ad 0), .int a1] st o := by
  refine cxI_of (o := o) (cc := cX5_plain) (nL := 2) (own := RX5) hstt (by decide) rfl rfl (Nat.le_of_ble_eq_true rfl) (lv0 := [(0, .ref (ad 0)), (1, .int a1)]) rfl ?_
  intro p e s m args below meth c A EX hr
  have E := EX.1
  rw [f_X5_plain] at h
  refine j_iload_n E 1 rfl rfl dX5_plain_0 ?_
  refine j_if_eq E (tgt := 19) (by decide) dX5_plain_1 (fun c1 => ?_) (fun c1 => ?_)
  · have h := jit h c1
    refine j_aload_n E 0 rfl rfl dX5_plain_19 ?_
    obtain ⟨r2, er2, h⟩ := jbd h
    refine j_xcallVI EX (As := []) (c_X5_refuseIfFull hstt er2) (cwV 0 E.1.2.2.2.2 gX5_plain_X5_refuseIfFull rfl rfl rfl (by decide +kernel) ⟨Nat.le_of_ble_eq_true rfl, Nat.le_of_ble_eq_true rfl⟩) (wX_g0 ad cI cZ _) rfl rfl rfl (Nat.le_of_ble_eq_true rfl) ⟨Nat.le_of_ble_eq_true rfl, Nat.le_of_ble_eq_true rfl⟩ ⟨Nat.le_of_ble_eq_true rfl, Nat.le_of_ble_eq_true rfl⟩ dX5_plain_20 (fun hx => Option.some.inj (jit h hx)) (fun c3 => ?_)
    have h := jif h (fun hn => hn c3)
    refine j_aload_n E 0 rfl rfl dX5_plain_23 ?_
    refine j_get E 0 (wX_g0 ad cI cZ _) rfl 0 rfl in_X5_plain_X5 (by decide) (List.mem_of_getElem? (i := 3) rfl) (fun _ h9 => h9) dX5_plain_24 ?_
    refine j_iload_n E 1 rfl rfl dX5_plain_27 ?_
    refine j_iconst E (kc_m1) dX5_plain_28 ?_
    refine j_iconst E (kc_m1) dX5_plain_29 ?_
    obtain ⟨r4, er4, h⟩ := jbd h
    refine j_callVi E (As := [.int a1, .int (-1), .int (-1)]) (c_X0_add er4) (cwV 3 E.1.2.2.2.2 gX5_plain_X0_add rfl rfl rfl (by decide +kernel) ⟨Nat.le_of_ble_eq_true rfl, Nat.le_of_ble_eq_true rfl⟩) (wX_g1 ad cI cZ _) rfl rfl rfl (Nat.le_of_ble_eq_true rfl) ⟨Nat.le_of_ble_eq_true rfl, Nat.le_of_ble_eq_true rfl⟩ dX5_plain_30 ?_
    exact j_xiret EX hr rfl (Option.some.inj h) ⟨Nat.le_of_ble_eq_true rfl, Nat.le_of_ble_eq_true rfl⟩ dX5_plain_33
  · have h := jif h c1
    refine j_iload_n E 1 rfl rfl dX5_plain_4 ?_
    refine j_iconst E (kc_1) dX5_plain_5 ?_
    refine j_icmp_eq E (tgt := 19) (by decide) dX5_plain_6 (fun c5 => ?_) (fun c5 => ?_)
    · have h := jit h c5
      refine j_aload_n E 0 rfl rfl dX5_plain_19 ?_
      obtain ⟨r6, er6, h⟩ := jbd h
      refine j_xcallVI EX (As := []) (c_X5_refuseIfFull hstt er6) (cwV 0 E.1.2.2.2.2 gX5_plain_X5_refuseIfFull rfl rfl rfl (by decide +kernel) ⟨Nat.le_of_ble_eq_true rfl, Nat.le_of_ble_eq_true rfl⟩) (wX_g0 ad cI cZ _) rfl rfl rfl (Nat.le_of_ble_eq_true rfl) ⟨Nat.le_of_ble_eq_true rfl, Nat.le_of_ble_eq_true rfl⟩ ⟨Nat.le_of_ble_eq_true rfl, Nat.le_of_ble_eq_true rfl⟩ dX5_plain_20 (fun hx => Option.some.inj (jit h hx)) (fun c7 => ?_)
      have h := jif h (fun hn => hn c7)
      refine j_aload_n E 0 rfl rfl dX5_plain_23 ?_
      refine j_get E 0 (wX_g0 ad cI cZ _) rfl 0 rfl in_X5_plain_X5 (by decide) (List.mem_of_getElem? (i := 3) rfl) (fun _ h9 => h9) dX5_plain_24 ?_
      refine j_iload_n E 1 rfl rfl dX5_plain_27 ?_
      refine j_iconst E (kc_m1) dX5_plain_28 ?_
      refine j_iconst E (kc_m1) dX5_plain_29 ?_
      obtain ⟨r8, er8, h⟩ := jbd h
      refine j_callVi E (As := [.int a1, .int (-1), .int (-1)]) (c_X0_add er8) (cwV 3 E.1.2.2.2.2 gX5_plain_X0_add rfl rfl rfl (by decide +kernel) ⟨Nat.le_of_ble_eq_true rfl, Nat.le_of_ble_eq_true rfl⟩) (wX_g1 ad cI cZ _) rfl rfl rfl (Nat.le_of_ble_eq_true rfl) ⟨Nat.le_of_ble_eq_true rfl, Nat.le_of_ble_eq_true rfl⟩ dX5_plain_30 ?_
      exact j_xiret EX hr rfl (Option.some.inj h) ⟨Nat.le_of_ble_eq_true rfl, Nat.le_of_ble_eq_true rfl⟩ dX5_plain_33
    · have h := jif h c5
      exact j_xthrowI1 EX (List.mem_of_getElem? (i := 1) rfl) (List.mem_of_getElem? (i := 2) rfl) (fun w h9 => (List.mem_cons_of_mem _ (List.mem_append_left _ (List.mem_append_right _ h9)))) (List.mem_of_getElem? (i := 0) rfl) (Option.some.inj h) ⟨Nat.le_of_ble_eq_true rfl, Nat.le_of_ble_eq_true rfl, Nat.le_of_ble_eq_true rfl, Nat.le_of_ble_eq_true rfl⟩ ⟨Nat.le_of_ble_eq_true rfl, Nat.le_of_ble_eq_true rfl⟩ dX5_plain_9 dX5_plain_12 dX5_plain_13 dX5_plain_15 dX5_plain_18
abbrev rm_X5_range : Room := { frames := 7, cells := 1, slots := 6, locals := 116 }
theorem in_X5_range_X5 : ∀ w ∈ u_ws RX5 TX5 4, w ∈ wsX5_range := fun w h => (List.mem_cons_of_mem _ (List.mem_append_left _ (List.mem_append_left _ (List.mem_append_left _ (List.mem_append_right _ h)))))
def f_X5_range (st : jS) (a1 : Int32) (a2 : Int32) : Option (Nat × Int32 × jS) :=
  (f_X5_isByte a1).bind fun r1 =>
  if r1 = 0 then
    some (1, 0, st)
  else
  (f_X5_isByte a2).bind fun r3 =>
  if r3 = 0 then
    some (1, 0, st)
  else
  if a1 ≤ a2 then
    (f_X5_refuseIfFull st).bind fun r6 =>
    if ¬ r6.1 = 0 then some (r6.1, 0, r6.2) else
    (f_X0_add r6.2 2 a1 a2).bind fun r8 =>
    some (0, r8.1, r8.2)
  else
  some (1, 0, st)
set_option maxHeartbeats 4000000 in
set_option maxRecDepth 100000 in
theorem c_X5_range {l : Launch} {D : va_G} {ad : Nat → Nat} {cI cZ : ClassId} {st : jS} {a1 : Int32} {a2 : Int32} {o : (Nat × Int32 × jS)} (hstt : l.stackTraces = false) (h : f_X5_range st a1 a2 = some o) : CxI l D (jT cI cZ) (wX ad cI cZ) yX5_range wsX5_range (rm_X5_range) 1 6 [.ref (ad 0), .int a1, .int a2] st o := by
  refine cxI_of (o := o) (cc := cX5_range) (nL := 3) (own := RX5) hstt (by decide) rfl rfl (Nat.le_of_ble_eq_true rfl) (lv0 := [(0, .ref (ad 0)), (1, .int a1), (2, .int a2)]) rfl ?_
  intro p e s m args below meth c A EX hr
  have E := EX.1
  rw [f_X5_range] at h
  refine j_iload_n E 1 rfl rfl dX5_range_0 ?_
  obtain ⟨r1, er1, h⟩ := jbd h
  refine j_callSi E (As := [.int a1]) (c_X5_isByte er1) (va_cwS 1 E.1.2.2.2.2 gX5_range_X5_isByte rfl rfl rfl (by decide +kernel) ⟨Nat.le_of_ble_eq_true rfl, Nat.le_of_ble_eq_true rfl⟩) rfl rfl (Nat.le_of_ble_eq_true rfl) ⟨Nat.le_of_ble_eq_true rfl, Nat.le_of_ble_eq_true rfl⟩ dX5_range_1 ?_
  refine j_if_eq E (tgt := 19) (by decide) dX5_range_4 (fun c2 => ?_) (fun c2 => ?_)
  · have h := jit h c2
    exact j_xthrowI1 EX (List.mem_of_getElem? (i := 1) rfl) (List.mem_of_getElem? (i := 2) rfl) (fun w h9 => (List.mem_cons_of_mem _ (List.mem_append_left _ (List.mem_append_right _ h9)))) (List.mem_of_getElem? (i := 1) rfl) (Option.some.inj h) ⟨Nat.le_of_ble_eq_true rfl, Nat.le_of_ble_eq_true rfl, Nat.le_of_ble_eq_true rfl, Nat.le_of_ble_eq_true rfl⟩ ⟨Nat.le_of_ble_eq_true rfl, Nat.le_of_ble_eq_true rfl⟩ dX5_range_19 dX5_range_22 dX5_range_23 dX5_range_25 dX5_range_28
  · have h := jif h c2
    refine j_iload_n E 2 rfl rfl dX5_range_7 ?_
    obtain ⟨r3, er3, h⟩ := jbd h
    refine j_callSi E (As := [.int a2]) (c_X5_isByte er3) (va_cwS 1 E.1.2.2.2.2 gX5_range_X5_isByte rfl rfl rfl (by decide +kernel) ⟨Nat.le_of_ble_eq_true rfl, Nat.le_of_ble_eq_true rfl⟩) rfl rfl (Nat.le_of_ble_eq_true rfl) ⟨Nat.le_of_ble_eq_true rfl, Nat.le_of_ble_eq_true rfl⟩ dX5_range_8 ?_
    refine j_if_eq E (tgt := 19) (by decide) dX5_range_11 (fun c4 => ?_) (fun c4 => ?_)
    · have h := jit h c4
      exact j_xthrowI1 EX (List.mem_of_getElem? (i := 1) rfl) (List.mem_of_getElem? (i := 2) rfl) (fun w h9 => (List.mem_cons_of_mem _ (List.mem_append_left _ (List.mem_append_right _ h9)))) (List.mem_of_getElem? (i := 1) rfl) (Option.some.inj h) ⟨Nat.le_of_ble_eq_true rfl, Nat.le_of_ble_eq_true rfl, Nat.le_of_ble_eq_true rfl, Nat.le_of_ble_eq_true rfl⟩ ⟨Nat.le_of_ble_eq_true rfl, Nat.le_of_ble_eq_true rfl⟩ dX5_range_19 dX5_range_22 dX5_range_23 dX5_range_25 dX5_range_28
    · have h := jif h c4
      refine j_iload_n E 1 rfl rfl dX5_range_14 ?_
      refine j_iload_n E 2 rfl rfl dX5_range_15 ?_
      refine j_icmp_le E (tgt := 29) (by decide) dX5_range_16 (fun c5 => ?_) (fun c5 => ?_)
      · have h := jit h c5
        refine j_aload_n E 0 rfl rfl dX5_range_29 ?_
        obtain ⟨r6, er6, h⟩ := jbd h
        refine j_xcallVI EX (As := []) (c_X5_refuseIfFull hstt er6) (cwV 0 E.1.2.2.2.2 gX5_range_X5_refuseIfFull rfl rfl rfl (by decide +kernel) ⟨Nat.le_of_ble_eq_true rfl, Nat.le_of_ble_eq_true rfl⟩) (wX_g0 ad cI cZ _) rfl rfl rfl (Nat.le_of_ble_eq_true rfl) ⟨Nat.le_of_ble_eq_true rfl, Nat.le_of_ble_eq_true rfl⟩ ⟨Nat.le_of_ble_eq_true rfl, Nat.le_of_ble_eq_true rfl⟩ dX5_range_30 (fun hx => Option.some.inj (jit h hx)) (fun c7 => ?_)
        have h := jif h (fun hn => hn c7)
        refine j_aload_n E 0 rfl rfl dX5_range_33 ?_
        refine j_get E 0 (wX_g0 ad cI cZ _) rfl 0 rfl in_X5_range_X5 (by decide) (List.mem_of_getElem? (i := 3) rfl) (fun _ h9 => h9) dX5_range_34 ?_
        refine j_iconst E (kc_2) dX5_range_37 ?_
        refine j_iload_n E 1 rfl rfl dX5_range_38 ?_
        refine j_iload_n E 2 rfl rfl dX5_range_39 ?_
        obtain ⟨r8, er8, h⟩ := jbd h
        refine j_callVi E (As := [.int 2, .int a1, .int a2]) (c_X0_add er8) (cwV 3 E.1.2.2.2.2 gX5_range_X0_add rfl rfl rfl (by decide +kernel) ⟨Nat.le_of_ble_eq_true rfl, Nat.le_of_ble_eq_true rfl⟩) (wX_g1 ad cI cZ _) rfl rfl rfl (Nat.le_of_ble_eq_true rfl) ⟨Nat.le_of_ble_eq_true rfl, Nat.le_of_ble_eq_true rfl⟩ dX5_range_40 ?_
        exact j_xiret EX hr rfl (Option.some.inj h) ⟨Nat.le_of_ble_eq_true rfl, Nat.le_of_ble_eq_true rfl⟩ dX5_range_43
      · have h := jif h c5
        exact j_xthrowI1 EX (List.mem_of_getElem? (i := 1) rfl) (List.mem_of_getElem? (i := 2) rfl) (fun w h9 => (List.mem_cons_of_mem _ (List.mem_append_left _ (List.mem_append_right _ h9)))) (List.mem_of_getElem? (i := 1) rfl) (Option.some.inj h) ⟨Nat.le_of_ble_eq_true rfl, Nat.le_of_ble_eq_true rfl, Nat.le_of_ble_eq_true rfl, Nat.le_of_ble_eq_true rfl⟩ ⟨Nat.le_of_ble_eq_true rfl, Nat.le_of_ble_eq_true rfl⟩ dX5_range_19 dX5_range_22 dX5_range_23 dX5_range_25 dX5_range_28
abbrev rm_X5_rule : Room := { frames := 7, cells := 2, slots := 12, locals := 116 }
theorem in_X5_rule_X5 : ∀ w ∈ u_ws RX5 TX5 4, w ∈ wsX5_rule := fun w h => (List.mem_cons_of_mem _ (List.mem_append_left _ (List.mem_append_left _ (List.mem_append_left _ (List.mem_append_right _ h)))))
def f_X5_rule (st : jS) (a1 : Int32) : Option (Nat × Int32 × jS) :=
  (f_X5_refuseUnknownRule a1).bind fun r1 =>
  if ¬ r1 = 0 then some (r1, 0, st) else
  (f_X5_refuseIfFull st).bind fun r3 =>
  if ¬ r3.1 = 0 then some (r3.1, 0, r3.2) else
  (f_X0_add r3.2 3 a1 (-1)).bind fun r5 =>
  some (0, r5.1, r5.2)
set_option maxHeartbeats 4000000 in
set_option maxRecDepth 100000 in
theorem c_X5_rule {l : Launch} {D : va_G} {ad : Nat → Nat} {cI cZ : ClassId} {st : jS} {a1 : Int32} {o : (Nat × Int32 × jS)} (hstt : l.stackTraces = false) (h : f_X5_rule st a1 = some o) : CxI l D (jT cI cZ) (wX ad cI cZ) yX5_rule wsX5_rule (rm_X5_rule) 2 12 [.ref (ad 0), .int a1] st o := by
  refine cxI_of (o := o) (cc := cX5_rule) (nL := 2) (own := RX5) hstt (by decide) rfl rfl (Nat.le_of_ble_eq_true rfl) (lv0 := [(0, .ref (ad 0)), (1, .int a1)]) rfl ?_
  intro p e s m args below meth c A EX hr
  have E := EX.1
  rw [f_X5_rule] at h
  refine j_iload_n E 1 rfl rfl dX5_rule_0 ?_
  obtain ⟨r1, er1, h⟩ := jbd h
  refine j_xcallSI EX (As := [.int a1]) (o := (r1, st)) (c_X5_refuseUnknownRule hstt er1) (cwS 1 E.1.2.2.2.2 gX5_rule_X5_refuseUnknownRule rfl rfl rfl (by decide +kernel) ⟨Nat.le_of_ble_eq_true rfl, Nat.le_of_ble_eq_true rfl⟩) rfl rfl (Nat.le_of_ble_eq_true rfl) ⟨Nat.le_of_ble_eq_true rfl, Nat.le_of_ble_eq_true rfl⟩ ⟨Nat.le_of_ble_eq_true rfl, Nat.le_of_ble_eq_true rfl⟩ dX5_rule_1 (fun hx => Option.some.inj (jit h hx)) (fun c2 => ?_)
  refine j_st (st' := st) rfl ?_
  have h := jif h (fun hn => hn c2)
  refine j_aload_n E 0 rfl rfl dX5_rule_4 ?_
  obtain ⟨r3, er3, h⟩ := jbd h
  refine j_xcallVI EX (As := []) (c_X5_refuseIfFull hstt er3) (cwV 0 E.1.2.2.2.2 gX5_rule_X5_refuseIfFull rfl rfl rfl (by decide +kernel) ⟨Nat.le_of_ble_eq_true rfl, Nat.le_of_ble_eq_true rfl⟩) (wX_g0 ad cI cZ _) rfl rfl rfl (Nat.le_of_ble_eq_true rfl) ⟨Nat.le_of_ble_eq_true rfl, Nat.le_of_ble_eq_true rfl⟩ ⟨Nat.le_of_ble_eq_true rfl, Nat.le_of_ble_eq_true rfl⟩ dX5_rule_5 (fun hx => Option.some.inj (jit h hx)) (fun c4 => ?_)
  have h := jif h (fun hn => hn c4)
  refine j_aload_n E 0 rfl rfl dX5_rule_8 ?_
  refine j_get E 0 (wX_g0 ad cI cZ _) rfl 0 rfl in_X5_rule_X5 (by decide) (List.mem_of_getElem? (i := 1) rfl) (fun _ h9 => h9) dX5_rule_9 ?_
  refine j_iconst E (kc_3) dX5_rule_12 ?_
  refine j_iload_n E 1 rfl rfl dX5_rule_13 ?_
  refine j_iconst E (kc_m1) dX5_rule_14 ?_
  obtain ⟨r5, er5, h⟩ := jbd h
  refine j_callVi E (As := [.int 3, .int a1, .int (-1)]) (c_X0_add er5) (cwV 3 E.1.2.2.2.2 gX5_rule_X0_add rfl rfl rfl (by decide +kernel) ⟨Nat.le_of_ble_eq_true rfl, Nat.le_of_ble_eq_true rfl⟩) (wX_g1 ad cI cZ _) rfl rfl rfl (Nat.le_of_ble_eq_true rfl) ⟨Nat.le_of_ble_eq_true rfl, Nat.le_of_ble_eq_true rfl⟩ dX5_rule_15 ?_
  exact j_xiret EX hr rfl (Option.some.inj h) ⟨Nat.le_of_ble_eq_true rfl, Nat.le_of_ble_eq_true rfl⟩ dX5_rule_18
abbrev rm_X5_join : Room := { frames := 7, cells := 3, slots := 18, locals := 117 }
theorem in_X5_join_X5 : ∀ w ∈ u_ws RX5 TX5 4, w ∈ wsX5_join := fun w h => (List.mem_cons_of_mem _ (List.mem_append_left _ (List.mem_append_left _ (List.mem_append_left _ (List.mem_append_left _ (List.mem_append_right _ h))))))
def f_X5_join (st : jS) (a1 : Int32) (a2 : Int32) (a3 : Int32) : Option (Nat × Int32 × jS) :=
  (f_X5_refuseUnknownExpression st a2).bind fun r1 =>
  if ¬ r1.1 = 0 then some (r1.1, 0, r1.2) else
  (f_X5_refuseUnknownExpression r1.2 a3).bind fun r3 =>
  if ¬ r3.1 = 0 then some (r3.1, 0, r3.2) else
  if a1 = 4 then
    (f_X5_refuseIfFull r3.2).bind fun r6 =>
    if ¬ r6.1 = 0 then some (r6.1, 0, r6.2) else
    (f_X0_add r6.2 a1 a2 a3).bind fun r8 =>
    some (0, r8.1, r8.2)
  else
  if a1 = 5 then
    (f_X5_refuseIfFull r3.2).bind fun r10 =>
    if ¬ r10.1 = 0 then some (r10.1, 0, r10.2) else
    (f_X0_add r10.2 a1 a2 a3).bind fun r12 =>
    some (0, r12.1, r12.2)
  else
  some (1, 0, r3.2)
set_option maxHeartbeats 4000000 in
set_option maxRecDepth 100000 in
theorem c_X5_join {l : Launch} {D : va_G} {ad : Nat → Nat} {cI cZ : ClassId} {st : jS} {a1 : Int32} {a2 : Int32} {a3 : Int32} {o : (Nat × Int32 × jS)} (hstt : l.stackTraces = false) (h : f_X5_join st a1 a2 a3 = some o) : CxI l D (jT cI cZ) (wX ad cI cZ) yX5_join wsX5_join (rm_X5_join) 3 18 [.ref (ad 0), .int a1, .int a2, .int a3] st o := by
  refine cxI_of (o := o) (cc := cX5_join) (nL := 4) (own := RX5) hstt (by decide) rfl rfl (Nat.le_of_ble_eq_true rfl) (lv0 := [(0, .ref (ad 0)), (1, .int a1), (2, .int a2), (3, .int a3)]) rfl ?_
  intro p e s m args below meth c A EX hr
  have E := EX.1
  rw [f_X5_join] at h
  refine j_aload_n E 0 rfl rfl dX5_join_0 ?_
  refine j_iload_n E 2 rfl rfl dX5_join_1 ?_
  obtain ⟨r1, er1, h⟩ := jbd h
  refine j_xcallVI EX (As := [.int a2]) (c_X5_refuseUnknownExpression hstt er1) (cwV 1 E.1.2.2.2.2 gX5_join_X5_refuseUnknownExpression rfl rfl rfl (by decide +kernel) ⟨Nat.le_of_ble_eq_true rfl, Nat.le_of_ble_eq_true rfl⟩) (wX_g0 ad cI cZ _) rfl rfl rfl (Nat.le_of_ble_eq_true rfl) ⟨Nat.le_of_ble_eq_true rfl, Nat.le_of_ble_eq_true rfl⟩ ⟨Nat.le_of_ble_eq_true rfl, Nat.le_of_ble_eq_true rfl⟩ dX5_join_2 (fun hx => Option.some.inj (jit h hx)) (fun c2 => ?_)
  have h := jif h (fun hn => hn c2)
  refine j_aload_n E 0 rfl rfl dX5_join_5 ?_
  refine j_iload_n E 3 rfl rfl dX5_join_6 ?_
  obtain ⟨r3, er3, h⟩ := jbd h
  refine j_xcallVI EX (As := [.int a3]) (c_X5_refuseUnknownExpression hstt er3) (cwV 1 E.1.2.2.2.2 gX5_join_X5_refuseUnknownExpression rfl rfl rfl (by decide +kernel) ⟨Nat.le_of_ble_eq_true rfl, Nat.le_of_ble_eq_true rfl⟩) (wX_g0 ad cI cZ _) rfl rfl rfl (Nat.le_of_ble_eq_true rfl) ⟨Nat.le_of_ble_eq_true rfl, Nat.le_of_ble_eq_true rfl⟩ ⟨Nat.le_of_ble_eq_true rfl, Nat.le_of_ble_eq_true rfl⟩ dX5_join_7 (fun hx => Option.some.inj (jit h hx)) (fun c4 => ?_)
  have h := jif h (fun hn => hn c4)
  refine j_iload_n E 1 rfl rfl dX5_join_10 ?_
  refine j_iconst E (kc_4) dX5_join_11 ?_
  refine j_icmp_eq E (tgt := 30) (by decide) dX5_join_12 (fun c5 => ?_) (fun c5 => ?_)
  · have h := jit h c5
    refine j_aload_n E 0 rfl rfl dX5_join_30 ?_
    obtain ⟨r6, er6, h⟩ := jbd h
    refine j_xcallVI EX (As := []) (c_X5_refuseIfFull hstt er6) (cwV 0 E.1.2.2.2.2 gX5_join_X5_refuseIfFull rfl rfl rfl (by decide +kernel) ⟨Nat.le_of_ble_eq_true rfl, Nat.le_of_ble_eq_true rfl⟩) (wX_g0 ad cI cZ _) rfl rfl rfl (Nat.le_of_ble_eq_true rfl) ⟨Nat.le_of_ble_eq_true rfl, Nat.le_of_ble_eq_true rfl⟩ ⟨Nat.le_of_ble_eq_true rfl, Nat.le_of_ble_eq_true rfl⟩ dX5_join_31 (fun hx => Option.some.inj (jit h hx)) (fun c7 => ?_)
    have h := jif h (fun hn => hn c7)
    refine j_aload_n E 0 rfl rfl dX5_join_34 ?_
    refine j_get E 0 (wX_g0 ad cI cZ _) rfl 0 rfl in_X5_join_X5 (by decide) (List.mem_of_getElem? (i := 3) rfl) (fun _ h9 => h9) dX5_join_35 ?_
    refine j_iload_n E 1 rfl rfl dX5_join_38 ?_
    refine j_iload_n E 2 rfl rfl dX5_join_39 ?_
    refine j_iload_n E 3 rfl rfl dX5_join_40 ?_
    obtain ⟨r8, er8, h⟩ := jbd h
    refine j_callVi E (As := [.int a1, .int a2, .int a3]) (c_X0_add er8) (cwV 3 E.1.2.2.2.2 gX5_join_X0_add rfl rfl rfl (by decide +kernel) ⟨Nat.le_of_ble_eq_true rfl, Nat.le_of_ble_eq_true rfl⟩) (wX_g1 ad cI cZ _) rfl rfl rfl (Nat.le_of_ble_eq_true rfl) ⟨Nat.le_of_ble_eq_true rfl, Nat.le_of_ble_eq_true rfl⟩ dX5_join_41 ?_
    exact j_xiret EX hr rfl (Option.some.inj h) ⟨Nat.le_of_ble_eq_true rfl, Nat.le_of_ble_eq_true rfl⟩ dX5_join_44
  · have h := jif h c5
    refine j_iload_n E 1 rfl rfl dX5_join_15 ?_
    refine j_iconst E (kc_5) dX5_join_16 ?_
    refine j_icmp_eq E (tgt := 30) (by decide) dX5_join_17 (fun c9 => ?_) (fun c9 => ?_)
    · have h := jit h c9
      refine j_aload_n E 0 rfl rfl dX5_join_30 ?_
      obtain ⟨r10, er10, h⟩ := jbd h
      refine j_xcallVI EX (As := []) (c_X5_refuseIfFull hstt er10) (cwV 0 E.1.2.2.2.2 gX5_join_X5_refuseIfFull rfl rfl rfl (by decide +kernel) ⟨Nat.le_of_ble_eq_true rfl, Nat.le_of_ble_eq_true rfl⟩) (wX_g0 ad cI cZ _) rfl rfl rfl (Nat.le_of_ble_eq_true rfl) ⟨Nat.le_of_ble_eq_true rfl, Nat.le_of_ble_eq_true rfl⟩ ⟨Nat.le_of_ble_eq_true rfl, Nat.le_of_ble_eq_true rfl⟩ dX5_join_31 (fun hx => Option.some.inj (jit h hx)) (fun c11 => ?_)
      have h := jif h (fun hn => hn c11)
      refine j_aload_n E 0 rfl rfl dX5_join_34 ?_
      refine j_get E 0 (wX_g0 ad cI cZ _) rfl 0 rfl in_X5_join_X5 (by decide) (List.mem_of_getElem? (i := 3) rfl) (fun _ h9 => h9) dX5_join_35 ?_
      refine j_iload_n E 1 rfl rfl dX5_join_38 ?_
      refine j_iload_n E 2 rfl rfl dX5_join_39 ?_
      refine j_iload_n E 3 rfl rfl dX5_join_40 ?_
      obtain ⟨r12, er12, h⟩ := jbd h
      refine j_callVi E (As := [.int a1, .int a2, .int a3]) (c_X0_add er12) (cwV 3 E.1.2.2.2.2 gX5_join_X0_add rfl rfl rfl (by decide +kernel) ⟨Nat.le_of_ble_eq_true rfl, Nat.le_of_ble_eq_true rfl⟩) (wX_g1 ad cI cZ _) rfl rfl rfl (Nat.le_of_ble_eq_true rfl) ⟨Nat.le_of_ble_eq_true rfl, Nat.le_of_ble_eq_true rfl⟩ dX5_join_41 ?_
      exact j_xiret EX hr rfl (Option.some.inj h) ⟨Nat.le_of_ble_eq_true rfl, Nat.le_of_ble_eq_true rfl⟩ dX5_join_44
    · have h := jif h c9
      exact j_xthrowI1 EX (List.mem_of_getElem? (i := 1) rfl) (List.mem_of_getElem? (i := 2) rfl) (fun w h9 => (List.mem_cons_of_mem _ (List.mem_append_left _ (List.mem_append_left _ (List.mem_append_right _ h9))))) (List.mem_of_getElem? (i := 2) rfl) (Option.some.inj h) ⟨Nat.le_of_ble_eq_true rfl, Nat.le_of_ble_eq_true rfl, Nat.le_of_ble_eq_true rfl, Nat.le_of_ble_eq_true rfl⟩ ⟨Nat.le_of_ble_eq_true rfl, Nat.le_of_ble_eq_true rfl⟩ dX5_join_20 dX5_join_23 dX5_join_24 dX5_join_26 dX5_join_29
abbrev rm_X5_wrap : Room := { frames := 7, cells := 2, slots := 12, locals := 117 }
theorem in_X5_wrap_X5 : ∀ w ∈ u_ws RX5 TX5 4, w ∈ wsX5_wrap := fun w h => (List.mem_cons_of_mem _ (List.mem_append_left _ (List.mem_append_left _ (List.mem_append_left _ (List.mem_append_left _ (List.mem_append_right _ h))))))
def f_X5_wrap (st : jS) (a1 : Int32) (a2 : Int32) : Option (Nat × Int32 × jS) :=
  (f_X5_refuseUnknownExpression st a2).bind fun r1 =>
  if ¬ r1.1 = 0 then some (r1.1, 0, r1.2) else
  if a1 < 6 then
    some (1, 0, r1.2)
  else
  if a1 ≤ 9 then
    (f_X5_refuseIfFull r1.2).bind fun r5 =>
    if ¬ r5.1 = 0 then some (r5.1, 0, r5.2) else
    (f_X0_add r5.2 a1 a2 (-1)).bind fun r7 =>
    some (0, r7.1, r7.2)
  else
  some (1, 0, r1.2)
set_option maxHeartbeats 4000000 in
set_option maxRecDepth 100000 in
theorem c_X5_wrap {l : Launch} {D : va_G} {ad : Nat → Nat} {cI cZ : ClassId} {st : jS} {a1 : Int32} {a2 : Int32} {o : (Nat × Int32 × jS)} (hstt : l.stackTraces = false) (h : f_X5_wrap st a1 a2 = some o) : CxI l D (jT cI cZ) (wX ad cI cZ) yX5_wrap wsX5_wrap (rm_X5_wrap) 2 12 [.ref (ad 0), .int a1, .int a2] st o := by
  refine cxI_of (o := o) (cc := cX5_wrap) (nL := 3) (own := RX5) hstt (by decide) rfl rfl (Nat.le_of_ble_eq_true rfl) (lv0 := [(0, .ref (ad 0)), (1, .int a1), (2, .int a2)]) rfl ?_
  intro p e s m args below meth c A EX hr
  have E := EX.1
  rw [f_X5_wrap] at h
  refine j_aload_n E 0 rfl rfl dX5_wrap_0 ?_
  refine j_iload_n E 2 rfl rfl dX5_wrap_1 ?_
  obtain ⟨r1, er1, h⟩ := jbd h
  refine j_xcallVI EX (As := [.int a2]) (c_X5_refuseUnknownExpression hstt er1) (cwV 1 E.1.2.2.2.2 gX5_wrap_X5_refuseUnknownExpression rfl rfl rfl (by decide +kernel) ⟨Nat.le_of_ble_eq_true rfl, Nat.le_of_ble_eq_true rfl⟩) (wX_g0 ad cI cZ _) rfl rfl rfl (Nat.le_of_ble_eq_true rfl) ⟨Nat.le_of_ble_eq_true rfl, Nat.le_of_ble_eq_true rfl⟩ ⟨Nat.le_of_ble_eq_true rfl, Nat.le_of_ble_eq_true rfl⟩ dX5_wrap_2 (fun hx => Option.some.inj (jit h hx)) (fun c2 => ?_)
  have h := jif h (fun hn => hn c2)
  refine j_iload_n E 1 rfl rfl dX5_wrap_5 ?_
  refine j_bipush E (kb_6) dX5_wrap_6 ?_
  refine j_icmp_lt E (tgt := 17) (by decide) dX5_wrap_8 (fun c3 => ?_) (fun c3 => ?_)
  · have h := jit h c3
    exact j_xthrowI1 EX (List.mem_of_getElem? (i := 1) rfl) (List.mem_of_getElem? (i := 2) rfl) (fun w h9 => (List.mem_cons_of_mem _ (List.mem_append_left _ (List.mem_append_left _ (List.mem_append_right _ h9))))) (List.mem_of_getElem? (i := 3) rfl) (Option.some.inj h) ⟨Nat.le_of_ble_eq_true rfl, Nat.le_of_ble_eq_true rfl, Nat.le_of_ble_eq_true rfl, Nat.le_of_ble_eq_true rfl⟩ ⟨Nat.le_of_ble_eq_true rfl, Nat.le_of_ble_eq_true rfl⟩ dX5_wrap_17 dX5_wrap_20 dX5_wrap_21 dX5_wrap_23 dX5_wrap_26
  · have h := jif h c3
    refine j_iload_n E 1 rfl rfl dX5_wrap_11 ?_
    refine j_bipush E (kb_9) dX5_wrap_12 ?_
    refine j_icmp_le E (tgt := 27) (by decide) dX5_wrap_14 (fun c4 => ?_) (fun c4 => ?_)
    · have h := jit h c4
      refine j_aload_n E 0 rfl rfl dX5_wrap_27 ?_
      obtain ⟨r5, er5, h⟩ := jbd h
      refine j_xcallVI EX (As := []) (c_X5_refuseIfFull hstt er5) (cwV 0 E.1.2.2.2.2 gX5_wrap_X5_refuseIfFull rfl rfl rfl (by decide +kernel) ⟨Nat.le_of_ble_eq_true rfl, Nat.le_of_ble_eq_true rfl⟩) (wX_g0 ad cI cZ _) rfl rfl rfl (Nat.le_of_ble_eq_true rfl) ⟨Nat.le_of_ble_eq_true rfl, Nat.le_of_ble_eq_true rfl⟩ ⟨Nat.le_of_ble_eq_true rfl, Nat.le_of_ble_eq_true rfl⟩ dX5_wrap_28 (fun hx => Option.some.inj (jit h hx)) (fun c6 => ?_)
      have h := jif h (fun hn => hn c6)
      refine j_aload_n E 0 rfl rfl dX5_wrap_31 ?_
      refine j_get E 0 (wX_g0 ad cI cZ _) rfl 0 rfl in_X5_wrap_X5 (by decide) (List.mem_of_getElem? (i := 3) rfl) (fun _ h9 => h9) dX5_wrap_32 ?_
      refine j_iload_n E 1 rfl rfl dX5_wrap_35 ?_
      refine j_iload_n E 2 rfl rfl dX5_wrap_36 ?_
      refine j_iconst E (kc_m1) dX5_wrap_37 ?_
      obtain ⟨r7, er7, h⟩ := jbd h
      refine j_callVi E (As := [.int a1, .int a2, .int (-1)]) (c_X0_add er7) (cwV 3 E.1.2.2.2.2 gX5_wrap_X0_add rfl rfl rfl (by decide +kernel) ⟨Nat.le_of_ble_eq_true rfl, Nat.le_of_ble_eq_true rfl⟩) (wX_g1 ad cI cZ _) rfl rfl rfl (Nat.le_of_ble_eq_true rfl) ⟨Nat.le_of_ble_eq_true rfl, Nat.le_of_ble_eq_true rfl⟩ dX5_wrap_38 ?_
      exact j_xiret EX hr rfl (Option.some.inj h) ⟨Nat.le_of_ble_eq_true rfl, Nat.le_of_ble_eq_true rfl⟩ dX5_wrap_41
    · have h := jif h c4
      exact j_xthrowI1 EX (List.mem_of_getElem? (i := 1) rfl) (List.mem_of_getElem? (i := 2) rfl) (fun w h9 => (List.mem_cons_of_mem _ (List.mem_append_left _ (List.mem_append_left _ (List.mem_append_right _ h9))))) (List.mem_of_getElem? (i := 3) rfl) (Option.some.inj h) ⟨Nat.le_of_ble_eq_true rfl, Nat.le_of_ble_eq_true rfl, Nat.le_of_ble_eq_true rfl, Nat.le_of_ble_eq_true rfl⟩ ⟨Nat.le_of_ble_eq_true rfl, Nat.le_of_ble_eq_true rfl⟩ dX5_wrap_17 dX5_wrap_20 dX5_wrap_21 dX5_wrap_23 dX5_wrap_26
