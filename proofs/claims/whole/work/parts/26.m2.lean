abbrev rm_X6_can : Room := { frames := 0, cells := 0, slots := 0, locals := 0 }
theorem in_X6_can_X6 : ∀ w ∈ u_ws RX6 TX6 29, w ∈ wsX6_can := fun w h => (List.mem_cons_of_mem _ (List.mem_append_right _ h))
def f_X6_can (st : jS) (a1 : Int32) : Option (Int32 × jS) :=
  bif job a1 80 then none else
  jl (jag st 1 a1) fun x2 =>
  if x2 = 2 then
    some (0, st)
  else
  if x2 = 3 then
    bif job a1 80 then none else
    bif job (jag st 2 a1) 10 then none else
    bif jnb (jag st 17 (jag st 2 a1)) then none else
    some ((jag st 17 (jag st 2 a1)), st)
  else
  if x2 = 4 then
    bif job a1 80 then none else
    bif job (jag st 2 a1) 80 then none else
    if (jag st 18 (jag st 2 a1)) = 0 then
      some (0, st)
    else
    bif job a1 80 then none else
    bif job (jag st 3 a1) 80 then none else
    if (jag st 18 (jag st 3 a1)) = 0 then
      some (0, st)
    else
    some (1, st)
  else
  if x2 = 5 then
    bif job a1 80 then none else
    bif job (jag st 2 a1) 80 then none else
    if (jag st 18 (jag st 2 a1)) = 0 then
      bif job a1 80 then none else
      bif job (jag st 3 a1) 80 then none else
      if (jag st 18 (jag st 3 a1)) = 0 then
        some (0, st)
      else
      some (1, st)
    else
    some (1, st)
  else
  some (1, st)
set_option maxHeartbeats 4000000 in
set_option maxRecDepth 100000 in
theorem c_X6_can {l : Launch} {D : va_G} {ad : Nat → Nat} {cI cZ : ClassId} {st : jS} {a1 : Int32} {o : (Int32 × jS)} (h : f_X6_can st a1 = some o) : CtI l D (jT cI cZ) (wM ad cI cZ) yX6_can wsX6_can (rm_X6_can) [.ref (ad 0), .int a1] st o.1 o.2 := by
  refine ctI_of (o := o) (cc := cX6_can) (nL := 2) (own := RX6) (by decide) rfl rfl (Nat.le_of_ble_eq_true rfl) (lv0 := [(0, .ref (ad 0)), (1, .int a1)]) rfl ?_
  intro p e s m args below meth c A E hr
  rw [f_X6_can] at h
  refine j_aload_n E 0 rfl rfl dX6_can_0 ?_
  refine j_get E 0 (wM_g0 ad cI cZ _) rfl 2 rfl in_X6_can_X6 (by decide) (List.mem_of_getElem? (i := 1) rfl) (fun _ h9 => h9) dX6_can_1 ?_
  refine j_iload_n E 1 rfl rfl dX6_can_4 ?_
  obtain ⟨b1, h⟩ := job_else h
  refine j_iald E 1 0 (wM_g1 ad cI cZ _) rfl b1 dX6_can_5 ?_
  obtain ⟨x2, ex2, h⟩ := jle h
  refine j_topi ex2 ?_
  by_cases c3 : x2 = 2
  · have h := jit h c3
    refine j_tableIn E dX6_can_6 (by rw [c3]; decide) (by rw [c3]; decide) (by rw [c3]; rfl) (tgt := 36) (by decide) ?_
    refine j_iconst E (kc_0) dX6_can_36 ?_
    exact j_iret E hr rfl (Option.some.inj h) dX6_can_37
  have h := jif h c3
  by_cases c4 : x2 = 3
  · have h := jit h c4
    refine j_tableIn E dX6_can_6 (by rw [c4]; decide) (by rw [c4]; decide) (by rw [c4]; rfl) (tgt := 38) (by decide) ?_
    refine j_aload_n E 0 rfl rfl dX6_can_38 ?_
    refine j_get E 0 (wM_g0 ad cI cZ _) rfl 26 rfl in_X6_can_X6 (by decide) (List.mem_of_getElem? (i := 2) rfl) (fun _ h9 => h9) dX6_can_39 ?_
    refine j_aload_n E 0 rfl rfl dX6_can_42 ?_
    refine j_get E 0 (wM_g0 ad cI cZ _) rfl 3 rfl in_X6_can_X6 (by decide) (List.mem_of_getElem? (i := 3) rfl) (fun _ h9 => h9) dX6_can_43 ?_
    refine j_iload_n E 1 rfl rfl dX6_can_46 ?_
    obtain ⟨b5, h⟩ := job_else h
    refine j_iald E 2 0 (wM_g2 ad cI cZ _) rfl b5 dX6_can_47 ?_
    obtain ⟨b6, h⟩ := job_else h
    refine j_zald E 17 1 (wM_g17 ad cI cZ _) rfl b6 dX6_can_48 ?_
    obtain ⟨b7, h⟩ := jnb_else h
    exact j_iret E hr b7 (Option.some.inj h) dX6_can_49
  have h := jif h c4
  by_cases c8 : x2 = 4
  · have h := jit h c8
    refine j_tableIn E dX6_can_6 (by rw [c8]; decide) (by rw [c8]; decide) (by rw [c8]; rfl) (tgt := 50) (by decide) ?_
    refine j_aload_n E 0 rfl rfl dX6_can_50 ?_
    refine j_get E 0 (wM_g0 ad cI cZ _) rfl 27 rfl in_X6_can_X6 (by decide) (List.mem_of_getElem? (i := 4) rfl) (fun _ h9 => h9) dX6_can_51 ?_
    refine j_aload_n E 0 rfl rfl dX6_can_54 ?_
    refine j_get E 0 (wM_g0 ad cI cZ _) rfl 3 rfl in_X6_can_X6 (by decide) (List.mem_of_getElem? (i := 3) rfl) (fun _ h9 => h9) dX6_can_55 ?_
    refine j_iload_n E 1 rfl rfl dX6_can_58 ?_
    obtain ⟨b9, h⟩ := job_else h
    refine j_iald E 2 0 (wM_g2 ad cI cZ _) rfl b9 dX6_can_59 ?_
    obtain ⟨b10, h⟩ := job_else h
    refine j_zald E 18 1 (wM_g18 ad cI cZ _) rfl b10 dX6_can_60 ?_
    refine j_if_eq E (tgt := 82) (by decide) dX6_can_61 (fun c11 => ?_) (fun c11 => ?_)
    · have h := jit h c11
      refine j_iconst E (kc_0) dX6_can_82 ?_
      exact j_iret E hr rfl (Option.some.inj h) dX6_can_83
    · have h := jif h c11
      refine j_aload_n E 0 rfl rfl dX6_can_64 ?_
      refine j_get E 0 (wM_g0 ad cI cZ _) rfl 27 rfl in_X6_can_X6 (by decide) (List.mem_of_getElem? (i := 4) rfl) (fun _ h9 => h9) dX6_can_65 ?_
      refine j_aload_n E 0 rfl rfl dX6_can_68 ?_
      refine j_get E 0 (wM_g0 ad cI cZ _) rfl 4 rfl in_X6_can_X6 (by decide) (List.mem_of_getElem? (i := 5) rfl) (fun _ h9 => h9) dX6_can_69 ?_
      refine j_iload_n E 1 rfl rfl dX6_can_72 ?_
      obtain ⟨b12, h⟩ := job_else h
      refine j_iald E 3 0 (wM_g3 ad cI cZ _) rfl b12 dX6_can_73 ?_
      obtain ⟨b13, h⟩ := job_else h
      refine j_zald E 18 1 (wM_g18 ad cI cZ _) rfl b13 dX6_can_74 ?_
      refine j_if_eq E (tgt := 82) (by decide) dX6_can_75 (fun c14 => ?_) (fun c14 => ?_)
      · have h := jit h c14
        refine j_iconst E (kc_0) dX6_can_82 ?_
        exact j_iret E hr rfl (Option.some.inj h) dX6_can_83
      · have h := jif h c14
        refine j_iconst E (kc_1) dX6_can_78 ?_
        refine j_goto E (tgt := 83) (by decide) dX6_can_79 ?_
        exact j_iret E hr rfl (Option.some.inj h) dX6_can_83
  have h := jif h c8
  by_cases c15 : x2 = 5
  · have h := jit h c15
    refine j_tableIn E dX6_can_6 (by rw [c15]; decide) (by rw [c15]; decide) (by rw [c15]; rfl) (tgt := 84) (by decide) ?_
    refine j_aload_n E 0 rfl rfl dX6_can_84 ?_
    refine j_get E 0 (wM_g0 ad cI cZ _) rfl 27 rfl in_X6_can_X6 (by decide) (List.mem_of_getElem? (i := 4) rfl) (fun _ h9 => h9) dX6_can_85 ?_
    refine j_aload_n E 0 rfl rfl dX6_can_88 ?_
    refine j_get E 0 (wM_g0 ad cI cZ _) rfl 3 rfl in_X6_can_X6 (by decide) (List.mem_of_getElem? (i := 3) rfl) (fun _ h9 => h9) dX6_can_89 ?_
    refine j_iload_n E 1 rfl rfl dX6_can_92 ?_
    obtain ⟨b16, h⟩ := job_else h
    refine j_iald E 2 0 (wM_g2 ad cI cZ _) rfl b16 dX6_can_93 ?_
    obtain ⟨b17, h⟩ := job_else h
    refine j_zald E 18 1 (wM_g18 ad cI cZ _) rfl b17 dX6_can_94 ?_
    refine j_if_ne E (tgt := 112) (by decide) dX6_can_95 (fun c18 => ?_) (fun c18 => ?_)
    · have h := jif h c18
      refine j_iconst E (kc_1) dX6_can_112 ?_
      refine j_goto E (tgt := 117) (by decide) dX6_can_113 ?_
      exact j_iret E hr rfl (Option.some.inj h) dX6_can_117
    · have h := jit h c18
      refine j_aload_n E 0 rfl rfl dX6_can_98 ?_
      refine j_get E 0 (wM_g0 ad cI cZ _) rfl 27 rfl in_X6_can_X6 (by decide) (List.mem_of_getElem? (i := 4) rfl) (fun _ h9 => h9) dX6_can_99 ?_
      refine j_aload_n E 0 rfl rfl dX6_can_102 ?_
      refine j_get E 0 (wM_g0 ad cI cZ _) rfl 4 rfl in_X6_can_X6 (by decide) (List.mem_of_getElem? (i := 5) rfl) (fun _ h9 => h9) dX6_can_103 ?_
      refine j_iload_n E 1 rfl rfl dX6_can_106 ?_
      obtain ⟨b19, h⟩ := job_else h
      refine j_iald E 3 0 (wM_g3 ad cI cZ _) rfl b19 dX6_can_107 ?_
      obtain ⟨b20, h⟩ := job_else h
      refine j_zald E 18 1 (wM_g18 ad cI cZ _) rfl b20 dX6_can_108 ?_
      refine j_if_eq E (tgt := 116) (by decide) dX6_can_109 (fun c21 => ?_) (fun c21 => ?_)
      · have h := jit h c21
        refine j_iconst E (kc_0) dX6_can_116 ?_
        exact j_iret E hr rfl (Option.some.inj h) dX6_can_117
      · have h := jif h c21
        refine j_iconst E (kc_1) dX6_can_112 ?_
        refine j_goto E (tgt := 117) (by decide) dX6_can_113 ?_
        exact j_iret E hr rfl (Option.some.inj h) dX6_can_117
  have h := jif h c15
  refine j_tableOut E dX6_can_6 (jOut2_5 c3 c4 c8 c15) (tgt := 118) (by decide) ?_
  refine j_iconst E (kc_1) dX6_can_118 ?_
  exact j_iret E hr rfl (Option.some.inj h) dX6_can_119
abbrev rm_X6_beginsWith : Room := { frames := 0, cells := 0, slots := 0, locals := 0 }
theorem in_X6_beginsWith_X6 : ∀ w ∈ u_ws RX6 TX6 29, w ∈ wsX6_beginsWith := fun w h => (List.mem_cons_of_mem _ (List.mem_append_right _ h))
def f_X6_beginsWith (st : jS) (a1 : Int32) : Option (Int32 × jS) :=
  bif job a1 80 then none else
  jl (jag st 1 a1) fun x2 =>
  if x2 = 0 then
    some (0, st)
  else
  if x2 = 1 then
    some (0, st)
  else
  if x2 = 2 then
    some (0, st)
  else
  if x2 = 3 then
    bif job a1 80 then none else
    some ((1 <<< ((jag st 2 a1) &&& 31)), st)
  else
  if x2 = 4 then
    bif job a1 80 then none else
    bif job (jag st 2 a1) 80 then none else
    bif job a1 80 then none else
    bif job (jag st 2 a1) 80 then none else
    if (jag st 18 (jag st 2 a1)) = 0 then
      some (((jag st 19 (jag st 2 a1)) ||| 0), st)
    else
    bif job a1 80 then none else
    bif job (jag st 3 a1) 80 then none else
    some (((jag st 19 (jag st 2 a1)) ||| (jag st 19 (jag st 3 a1))), st)
  else
  if x2 = 5 then
    bif job a1 80 then none else
    bif job (jag st 2 a1) 80 then none else
    bif job a1 80 then none else
    bif job (jag st 3 a1) 80 then none else
    some (((jag st 19 (jag st 2 a1)) ||| (jag st 19 (jag st 3 a1))), st)
  else
  bif job a1 80 then none else
  bif job (jag st 2 a1) 80 then none else
  some ((jag st 19 (jag st 2 a1)), st)
set_option maxHeartbeats 4000000 in
set_option maxRecDepth 100000 in
theorem c_X6_beginsWith {l : Launch} {D : va_G} {ad : Nat → Nat} {cI cZ : ClassId} {st : jS} {a1 : Int32} {o : (Int32 × jS)} (h : f_X6_beginsWith st a1 = some o) : CtI l D (jT cI cZ) (wM ad cI cZ) yX6_beginsWith wsX6_beginsWith (rm_X6_beginsWith) [.ref (ad 0), .int a1] st o.1 o.2 := by
  refine ctI_of (o := o) (cc := cX6_beginsWith) (nL := 2) (own := RX6) (by decide) rfl rfl (Nat.le_of_ble_eq_true rfl) (lv0 := [(0, .ref (ad 0)), (1, .int a1)]) rfl ?_
  intro p e s m args below meth c A E hr
  rw [f_X6_beginsWith] at h
  refine j_aload_n E 0 rfl rfl dX6_beginsWith_0 ?_
  refine j_get E 0 (wM_g0 ad cI cZ _) rfl 2 rfl in_X6_beginsWith_X6 (by decide) (List.mem_of_getElem? (i := 1) rfl) (fun _ h9 => h9) dX6_beginsWith_1 ?_
  refine j_iload_n E 1 rfl rfl dX6_beginsWith_4 ?_
  obtain ⟨b1, h⟩ := job_else h
  refine j_iald E 1 0 (wM_g1 ad cI cZ _) rfl b1 dX6_beginsWith_5 ?_
  obtain ⟨x2, ex2, h⟩ := jle h
  refine j_topi ex2 ?_
  by_cases c3 : x2 = 0
  · have h := jit h c3
    refine j_tableIn E dX6_beginsWith_6 (by rw [c3]; decide) (by rw [c3]; decide) (by rw [c3]; rfl) (tgt := 44) (by decide) ?_
    refine j_iconst E (kc_0) dX6_beginsWith_44 ?_
    exact j_iret E hr rfl (Option.some.inj h) dX6_beginsWith_45
  have h := jif h c3
  by_cases c4 : x2 = 1
  · have h := jit h c4
    refine j_tableIn E dX6_beginsWith_6 (by rw [c4]; decide) (by rw [c4]; decide) (by rw [c4]; rfl) (tgt := 44) (by decide) ?_
    refine j_iconst E (kc_0) dX6_beginsWith_44 ?_
    exact j_iret E hr rfl (Option.some.inj h) dX6_beginsWith_45
  have h := jif h c4
  by_cases c5 : x2 = 2
  · have h := jit h c5
    refine j_tableIn E dX6_beginsWith_6 (by rw [c5]; decide) (by rw [c5]; decide) (by rw [c5]; rfl) (tgt := 44) (by decide) ?_
    refine j_iconst E (kc_0) dX6_beginsWith_44 ?_
    exact j_iret E hr rfl (Option.some.inj h) dX6_beginsWith_45
  have h := jif h c5
  by_cases c6 : x2 = 3
  · have h := jit h c6
    refine j_tableIn E dX6_beginsWith_6 (by rw [c6]; decide) (by rw [c6]; decide) (by rw [c6]; rfl) (tgt := 46) (by decide) ?_
    refine j_iconst E (kc_1) dX6_beginsWith_46 ?_
    refine j_aload_n E 0 rfl rfl dX6_beginsWith_47 ?_
    refine j_get E 0 (wM_g0 ad cI cZ _) rfl 3 rfl in_X6_beginsWith_X6 (by decide) (List.mem_of_getElem? (i := 2) rfl) (fun _ h9 => h9) dX6_beginsWith_48 ?_
    refine j_iload_n E 1 rfl rfl dX6_beginsWith_51 ?_
    obtain ⟨b7, h⟩ := job_else h
    refine j_iald E 2 0 (wM_g2 ad cI cZ _) rfl b7 dX6_beginsWith_52 ?_
    refine j_ishl E dX6_beginsWith_53 ?_
    exact j_iret E hr rfl (Option.some.inj h) dX6_beginsWith_54
  have h := jif h c6
  by_cases c8 : x2 = 4
  · have h := jit h c8
    refine j_tableIn E dX6_beginsWith_6 (by rw [c8]; decide) (by rw [c8]; decide) (by rw [c8]; rfl) (tgt := 55) (by decide) ?_
    refine j_aload_n E 0 rfl rfl dX6_beginsWith_55 ?_
    refine j_get E 0 (wM_g0 ad cI cZ _) rfl 28 rfl in_X6_beginsWith_X6 (by decide) (List.mem_of_getElem? (i := 3) rfl) (fun _ h9 => h9) dX6_beginsWith_56 ?_
    refine j_aload_n E 0 rfl rfl dX6_beginsWith_59 ?_
    refine j_get E 0 (wM_g0 ad cI cZ _) rfl 3 rfl in_X6_beginsWith_X6 (by decide) (List.mem_of_getElem? (i := 2) rfl) (fun _ h9 => h9) dX6_beginsWith_60 ?_
    refine j_iload_n E 1 rfl rfl dX6_beginsWith_63 ?_
    obtain ⟨b9, h⟩ := job_else h
    refine j_iald E 2 0 (wM_g2 ad cI cZ _) rfl b9 dX6_beginsWith_64 ?_
    obtain ⟨b10, h⟩ := job_else h
    refine j_iald E 19 0 (wM_g19 ad cI cZ _) rfl b10 dX6_beginsWith_65 ?_
    refine j_aload_n E 0 rfl rfl dX6_beginsWith_66 ?_
    refine j_get E 0 (wM_g0 ad cI cZ _) rfl 27 rfl in_X6_beginsWith_X6 (by decide) (List.mem_of_getElem? (i := 4) rfl) (fun _ h9 => h9) dX6_beginsWith_67 ?_
    refine j_aload_n E 0 rfl rfl dX6_beginsWith_70 ?_
    refine j_get E 0 (wM_g0 ad cI cZ _) rfl 3 rfl in_X6_beginsWith_X6 (by decide) (List.mem_of_getElem? (i := 2) rfl) (fun _ h9 => h9) dX6_beginsWith_71 ?_
    refine j_iload_n E 1 rfl rfl dX6_beginsWith_74 ?_
    obtain ⟨b11, h⟩ := job_else h
    refine j_iald E 2 0 (wM_g2 ad cI cZ _) rfl b11 dX6_beginsWith_75 ?_
    obtain ⟨b12, h⟩ := job_else h
    refine j_zald E 18 1 (wM_g18 ad cI cZ _) rfl b12 dX6_beginsWith_76 ?_
    refine j_if_eq E (tgt := 94) (by decide) dX6_beginsWith_77 (fun c13 => ?_) (fun c13 => ?_)
    · have h := jit h c13
      refine j_iconst E (kc_0) dX6_beginsWith_94 ?_
      refine j_ior E dX6_beginsWith_95 ?_
      exact j_iret E hr rfl (Option.some.inj h) dX6_beginsWith_96
    · have h := jif h c13
      refine j_aload_n E 0 rfl rfl dX6_beginsWith_80 ?_
      refine j_get E 0 (wM_g0 ad cI cZ _) rfl 28 rfl in_X6_beginsWith_X6 (by decide) (List.mem_of_getElem? (i := 3) rfl) (fun _ h9 => h9) dX6_beginsWith_81 ?_
      refine j_aload_n E 0 rfl rfl dX6_beginsWith_84 ?_
      refine j_get E 0 (wM_g0 ad cI cZ _) rfl 4 rfl in_X6_beginsWith_X6 (by decide) (List.mem_of_getElem? (i := 5) rfl) (fun _ h9 => h9) dX6_beginsWith_85 ?_
      refine j_iload_n E 1 rfl rfl dX6_beginsWith_88 ?_
      obtain ⟨b14, h⟩ := job_else h
      refine j_iald E 3 0 (wM_g3 ad cI cZ _) rfl b14 dX6_beginsWith_89 ?_
      obtain ⟨b15, h⟩ := job_else h
      refine j_iald E 19 0 (wM_g19 ad cI cZ _) rfl b15 dX6_beginsWith_90 ?_
      refine j_goto E (tgt := 95) (by decide) dX6_beginsWith_91 ?_
      refine j_ior E dX6_beginsWith_95 ?_
      exact j_iret E hr rfl (Option.some.inj h) dX6_beginsWith_96
  have h := jif h c8
  by_cases c16 : x2 = 5
  · have h := jit h c16
    refine j_tableIn E dX6_beginsWith_6 (by rw [c16]; decide) (by rw [c16]; decide) (by rw [c16]; rfl) (tgt := 97) (by decide) ?_
    refine j_aload_n E 0 rfl rfl dX6_beginsWith_97 ?_
    refine j_get E 0 (wM_g0 ad cI cZ _) rfl 28 rfl in_X6_beginsWith_X6 (by decide) (List.mem_of_getElem? (i := 3) rfl) (fun _ h9 => h9) dX6_beginsWith_98 ?_
    refine j_aload_n E 0 rfl rfl dX6_beginsWith_101 ?_
    refine j_get E 0 (wM_g0 ad cI cZ _) rfl 3 rfl in_X6_beginsWith_X6 (by decide) (List.mem_of_getElem? (i := 2) rfl) (fun _ h9 => h9) dX6_beginsWith_102 ?_
    refine j_iload_n E 1 rfl rfl dX6_beginsWith_105 ?_
    obtain ⟨b17, h⟩ := job_else h
    refine j_iald E 2 0 (wM_g2 ad cI cZ _) rfl b17 dX6_beginsWith_106 ?_
    obtain ⟨b18, h⟩ := job_else h
    refine j_iald E 19 0 (wM_g19 ad cI cZ _) rfl b18 dX6_beginsWith_107 ?_
    refine j_aload_n E 0 rfl rfl dX6_beginsWith_108 ?_
    refine j_get E 0 (wM_g0 ad cI cZ _) rfl 28 rfl in_X6_beginsWith_X6 (by decide) (List.mem_of_getElem? (i := 3) rfl) (fun _ h9 => h9) dX6_beginsWith_109 ?_
    refine j_aload_n E 0 rfl rfl dX6_beginsWith_112 ?_
    refine j_get E 0 (wM_g0 ad cI cZ _) rfl 4 rfl in_X6_beginsWith_X6 (by decide) (List.mem_of_getElem? (i := 5) rfl) (fun _ h9 => h9) dX6_beginsWith_113 ?_
    refine j_iload_n E 1 rfl rfl dX6_beginsWith_116 ?_
    obtain ⟨b19, h⟩ := job_else h
    refine j_iald E 3 0 (wM_g3 ad cI cZ _) rfl b19 dX6_beginsWith_117 ?_
    obtain ⟨b20, h⟩ := job_else h
    refine j_iald E 19 0 (wM_g19 ad cI cZ _) rfl b20 dX6_beginsWith_118 ?_
    refine j_ior E dX6_beginsWith_119 ?_
    exact j_iret E hr rfl (Option.some.inj h) dX6_beginsWith_120
  have h := jif h c16
  refine j_tableOut E dX6_beginsWith_6 (jOut0_5 c3 c4 c5 c6 c8 c16) (tgt := 121) (by decide) ?_
  refine j_aload_n E 0 rfl rfl dX6_beginsWith_121 ?_
  refine j_get E 0 (wM_g0 ad cI cZ _) rfl 28 rfl in_X6_beginsWith_X6 (by decide) (List.mem_of_getElem? (i := 3) rfl) (fun _ h9 => h9) dX6_beginsWith_122 ?_
  refine j_aload_n E 0 rfl rfl dX6_beginsWith_125 ?_
  refine j_get E 0 (wM_g0 ad cI cZ _) rfl 3 rfl in_X6_beginsWith_X6 (by decide) (List.mem_of_getElem? (i := 2) rfl) (fun _ h9 => h9) dX6_beginsWith_126 ?_
  refine j_iload_n E 1 rfl rfl dX6_beginsWith_129 ?_
  obtain ⟨b21, h⟩ := job_else h
  refine j_iald E 2 0 (wM_g2 ad cI cZ _) rfl b21 dX6_beginsWith_130 ?_
  obtain ⟨b22, h⟩ := job_else h
  refine j_iald E 19 0 (wM_g19 ad cI cZ _) rfl b22 dX6_beginsWith_131 ?_
  exact j_iret E hr rfl (Option.some.inj h) dX6_beginsWith_132
abbrev rm_X6_findForms : Room := { frames := 1, cells := 0, slots := 0, locals := 21 }
theorem in_X6_findForms_X6 : ∀ w ∈ u_ws RX6 TX6 29, w ∈ wsX6_findForms := fun w h => (List.mem_cons_of_mem _ (List.mem_append_right _ h))
def f_X6_findForms_2 (K : jS → Int32 → Option jS) : Nat → jS → Int32 → Option jS
  | 0, _, _ => none
  | n + 1, st, v1 =>
    if v1 ≥ 10 then
      K st v1
    else
    bif job v1 10 then none else
    jl (jas st 17 v1 (vp_nar .boolean 0)) fun s3 =>
    jl (v1 + 1) fun x4 =>
    f_X6_findForms_2 K n s3 x4
def f_X6_findForms_31 (K : jS → Int32 → Int32 → Option jS) : Nat → jS → Int32 → Int32 → Option jS
  | 0, _, _, _ => none
  | n + 1, st, v1, v2 =>
    if v2 ≥ (st.2 1) then
      K st v1 v2
    else
    (f_X6_can st v2).bind fun r9 =>
    bif job v2 80 then none else
    jl (jas r9.2 18 v2 (vp_nar .boolean r9.1)) fun s11 =>
    jl (v2 + 1) fun x12 =>
    f_X6_findForms_31 K n s11 v1 x12
def f_X6_findForms_58 (K : jS → Int32 → Int32 → Option jS) : Nat → jS → Int32 → Int32 → Option jS
  | 0, _, _, _ => none
  | n + 1, st, v1, v2 =>
    if v2 ≥ 10 then
      K st v1 v2
    else
    bif job v2 10 then none else
    if (jag st 4 v2) = (-1) then
      bif job v2 10 then none else
      jl (jas st 17 v2 (vp_nar .boolean 0)) fun s20 =>
      jl (v2 + 1) fun x21 =>
      f_X6_findForms_58 K n s20 v1 x21
    else
    bif job v2 10 then none else
    bif job (jag st 4 v2) 80 then none else
    if (jag st 18 (jag st 4 v2)) = 0 then
      bif job v2 10 then none else
      jl (jas st 17 v2 (vp_nar .boolean 0)) fun s26 =>
      jl (v2 + 1) fun x27 =>
      f_X6_findForms_58 K n s26 v1 x27
    else
    bif job v2 10 then none else
    jl (jas st 17 v2 (vp_nar .boolean 1)) fun s29 =>
    jl (v2 + 1) fun x30 =>
    f_X6_findForms_58 K n s29 v1 x30
def f_X6_findForms_23 (K : jS → Int32 → Option jS) : Nat → jS → Int32 → Option jS
  | 0, _, _ => none
  | n + 1, st, v1 =>
    if v1 > 10 then
      K st v1
    else
    f_X6_findForms_31 (fun s15 y13 y14 =>
      f_X6_findForms_58 (fun s33 y31 y32 =>
        jl (y31 + 1) fun x34 =>
        f_X6_findForms_23 K n s33 x34
        ) jFuel s15 y13 0
      ) jFuel st v1 0
def f_X6_findForms_113 (K : jS → Int32 → Option jS) : Nat → jS → Int32 → Option jS
  | 0, _, _ => none
  | n + 1, st, v1 =>
    if v1 ≥ (st.2 1) then
      K st v1
    else
    (f_X6_beginsWith st v1).bind fun r38 =>
    bif job v1 80 then none else
    jl (jas r38.2 19 v1 r38.1) fun s40 =>
    jl (v1 + 1) fun x41 =>
    f_X6_findForms_113 K n s40 x41
def f_X6_findForms (st : jS)  : Option jS :=
  f_X6_findForms_2 (fun s6 y5 =>
    f_X6_findForms_23 (fun s36 y35 =>
      f_X6_findForms_113 (fun s43 y42 =>
        some s43
        ) jFuel s36 0
      ) jFuel s6 0
    ) jFuel st 0
set_option maxHeartbeats 4000000 in
set_option maxRecDepth 100000 in
theorem w_X6_findForms_2 {ad : Nat → Nat} {cI cZ : ClassId} {p : Program} {l : Launch} {e : Env} {s : State} {m : MethodId} {args : Array Value} {below : List Frame} {meth : Method} {c : Code} {D : va_G} {A : Nat → Prop} {o : jS} (E : jE p s m args meth c cX6_findForms 3 RX6 wsX6_findForms D (jT cI cZ) A) (hr : meth.sig.returnType = none) {K : jS → Int32 → Option jS} (hK : ∀ (st : jS) (v1 : Int32), K st v1 = some o → J p l e (rm_X6_findForms) s m args below meth c 3 D A (wM ad cI cZ) (jZV D (wM ad cI cZ) A below args s o) 0 0 st 21 [(0, .ref (ad 0)), (1, .int v1)] []) :
    ∀ (n : Nat) (st : jS) (v1 : Int32), f_X6_findForms_2 K n st v1 = some o → J p l e (rm_X6_findForms) s m args below meth c 3 D A (wM ad cI cZ) (jZV D (wM ad cI cZ) A below args s o) 0 0 st 2 [(0, .ref (ad 0)), (1, .int v1)] [] := by
  intro n
  induction n with
  | zero => intro st v1 h; cases h
  | succ n ih =>
    intro st v1 h
    rw [f_X6_findForms_2] at h
    refine j_iload_n E 1 rfl rfl dX6_findForms_2 ?_
    refine j_bipush E (kb_10) dX6_findForms_3 ?_
    refine j_icmp_ge E (tgt := 21) (by decide) dX6_findForms_5 (fun c1 => ?_) (fun c1 => ?_)
    · have h := jit h c1
      refine j_sub [0, 1] (lv' := [(0, .ref (ad 0)), (1, .int v1)]) rfl ?_
      exact hK _ _ h
    · have h := jif h c1
      refine j_aload_n E 0 rfl rfl dX6_findForms_8 ?_
      refine j_get E 0 (wM_g0 ad cI cZ _) rfl 26 rfl in_X6_findForms_X6 (by decide) (List.mem_of_getElem? (i := 1) rfl) (fun _ h9 => h9) dX6_findForms_9 ?_
      refine j_iload_n E 1 rfl rfl dX6_findForms_12 ?_
      refine j_iconst E (kc_0) dX6_findForms_13 ?_
      obtain ⟨b2, h⟩ := job_else h
      obtain ⟨s3, es3, h⟩ := jle h
      refine j_zast E 17 1 (wM_g17 ad cI cZ _) rfl (wM_s17 ad cI cZ _ _) b2 dX6_findForms_14 ?_
      refine j_st es3 ?_
      obtain ⟨x4, ex4, h⟩ := jle h
      refine j_iinc E 1 rfl kc_1 ex4 (by decide) (lv' := [(1, .int x4), (0, .ref (ad 0))]) rfl dX6_findForms_15 ?_
      refine j_goto E (tgt := 2) (by decide) dX6_findForms_18 ?_
      refine j_sub [1, 0] (lv' := [(0, .ref (ad 0)), (1, .int x4)]) rfl ?_
      exact ih _ _ h
set_option maxHeartbeats 4000000 in
set_option maxRecDepth 100000 in
theorem w_X6_findForms_31 {ad : Nat → Nat} {cI cZ : ClassId} {p : Program} {l : Launch} {e : Env} {s : State} {m : MethodId} {args : Array Value} {below : List Frame} {meth : Method} {c : Code} {D : va_G} {A : Nat → Prop} {o : jS} (E : jE p s m args meth c cX6_findForms 3 RX6 wsX6_findForms D (jT cI cZ) A) (hr : meth.sig.returnType = none) {K : jS → Int32 → Int32 → Option jS} (hK : ∀ (st : jS) (v1 : Int32) (v2 : Int32), K st v1 v2 = some o → J p l e (rm_X6_findForms) s m args below meth c 3 D A (wM ad cI cZ) (jZV D (wM ad cI cZ) A below args s o) 0 0 st 56 [(0, .ref (ad 0)), (1, .int v1), (2, .int v2)] []) :
    ∀ (n : Nat) (st : jS) (v1 : Int32) (v2 : Int32), f_X6_findForms_31 K n st v1 v2 = some o → J p l e (rm_X6_findForms) s m args below meth c 3 D A (wM ad cI cZ) (jZV D (wM ad cI cZ) A below args s o) 0 0 st 31 [(0, .ref (ad 0)), (1, .int v1), (2, .int v2)] [] := by
  intro n
  induction n with
  | zero => intro st v1 v2 h; cases h
  | succ n ih =>
    intro st v1 v2 h
    rw [f_X6_findForms_31] at h
    refine j_iload_n E 2 rfl rfl dX6_findForms_31 ?_
    refine j_aload_n E 0 rfl rfl dX6_findForms_32 ?_
    refine j_get E 0 (wM_g0 ad cI cZ _) rfl 1 rfl in_X6_findForms_X6 (by decide) (List.mem_of_getElem? (i := 2) rfl) (fun _ h9 => h9) dX6_findForms_33 ?_
    refine j_icmp_ge E (tgt := 56) (by decide) dX6_findForms_36 (fun c8 => ?_) (fun c8 => ?_)
    · have h := jit h c8
      refine j_sub [0, 1, 2] (lv' := [(0, .ref (ad 0)), (1, .int v1), (2, .int v2)]) rfl ?_
      exact hK _ _ _ h
    · have h := jif h c8
      refine j_aload_n E 0 rfl rfl dX6_findForms_39 ?_
      refine j_get E 0 (wM_g0 ad cI cZ _) rfl 27 rfl in_X6_findForms_X6 (by decide) (List.mem_of_getElem? (i := 3) rfl) (fun _ h9 => h9) dX6_findForms_40 ?_
      refine j_iload_n E 2 rfl rfl dX6_findForms_43 ?_
      refine j_aload_n E 0 rfl rfl dX6_findForms_44 ?_
      refine j_iload_n E 2 rfl rfl dX6_findForms_45 ?_
      obtain ⟨r9, er9, h⟩ := jbd h
      refine j_callVi E (As := [.int v2]) (c_X6_can er9) (cwV 1 E.1.2.2.2.2 gX6_findForms_X6_can rfl rfl rfl (by decide +kernel) ⟨Nat.le_of_ble_eq_true rfl, Nat.le_of_ble_eq_true rfl⟩) (wM_g0 ad cI cZ _) rfl rfl rfl (Nat.le_of_ble_eq_true rfl) ⟨Nat.zero_le _, Nat.zero_le _⟩ dX6_findForms_46 ?_
      obtain ⟨b10, h⟩ := job_else h
      obtain ⟨s11, es11, h⟩ := jle h
      refine j_zast E 18 1 (wM_g18 ad cI cZ _) rfl (wM_s18 ad cI cZ _ _) b10 dX6_findForms_49 ?_
      refine j_st es11 ?_
      obtain ⟨x12, ex12, h⟩ := jle h
      refine j_iinc E 2 rfl kc_1 ex12 (by decide) (lv' := [(2, .int x12), (0, .ref (ad 0)), (1, .int v1)]) rfl dX6_findForms_50 ?_
      refine j_goto E (tgt := 31) (by decide) dX6_findForms_53 ?_
      refine j_sub [1, 2, 0] (lv' := [(0, .ref (ad 0)), (1, .int v1), (2, .int x12)]) rfl ?_
      exact ih _ _ _ h
set_option maxHeartbeats 4000000 in
set_option maxRecDepth 100000 in
theorem w_X6_findForms_58 {ad : Nat → Nat} {cI cZ : ClassId} {p : Program} {l : Launch} {e : Env} {s : State} {m : MethodId} {args : Array Value} {below : List Frame} {meth : Method} {c : Code} {D : va_G} {A : Nat → Prop} {o : jS} (E : jE p s m args meth c cX6_findForms 3 RX6 wsX6_findForms D (jT cI cZ) A) (hr : meth.sig.returnType = none) {K : jS → Int32 → Int32 → Option jS} (hK : ∀ (st : jS) (v1 : Int32) (v2 : Int32), K st v1 v2 = some o → J p l e (rm_X6_findForms) s m args below meth c 3 D A (wM ad cI cZ) (jZV D (wM ad cI cZ) A below args s o) 0 0 st 105 [(0, .ref (ad 0)), (1, .int v1), (2, .int v2)] []) :
    ∀ (n : Nat) (st : jS) (v1 : Int32) (v2 : Int32), f_X6_findForms_58 K n st v1 v2 = some o → J p l e (rm_X6_findForms) s m args below meth c 3 D A (wM ad cI cZ) (jZV D (wM ad cI cZ) A below args s o) 0 0 st 58 [(0, .ref (ad 0)), (1, .int v1), (2, .int v2)] [] := by
  intro n
  induction n with
  | zero => intro st v1 v2 h; cases h
  | succ n ih =>
    intro st v1 v2 h
    rw [f_X6_findForms_58] at h
    refine j_iload_n E 2 rfl rfl dX6_findForms_58 ?_
    refine j_bipush E (kb_10) dX6_findForms_59 ?_
    refine j_icmp_ge E (tgt := 105) (by decide) dX6_findForms_61 (fun c16 => ?_) (fun c16 => ?_)
    · have h := jit h c16
      refine j_sub [0, 1, 2] (lv' := [(0, .ref (ad 0)), (1, .int v1), (2, .int v2)]) rfl ?_
      exact hK _ _ _ h
    · have h := jif h c16
      refine j_aload_n E 0 rfl rfl dX6_findForms_64 ?_
      refine j_get E 0 (wM_g0 ad cI cZ _) rfl 26 rfl in_X6_findForms_X6 (by decide) (List.mem_of_getElem? (i := 1) rfl) (fun _ h9 => h9) dX6_findForms_65 ?_
      refine j_iload_n E 2 rfl rfl dX6_findForms_68 ?_
      refine j_aload_n E 0 rfl rfl dX6_findForms_69 ?_
      refine j_get E 0 (wM_g0 ad cI cZ _) rfl 5 rfl in_X6_findForms_X6 (by decide) (List.mem_of_getElem? (i := 4) rfl) (fun _ h9 => h9) dX6_findForms_70 ?_
      refine j_iload_n E 2 rfl rfl dX6_findForms_73 ?_
      obtain ⟨b17, h⟩ := job_else h
      refine j_iald E 4 0 (wM_g4 ad cI cZ _) rfl b17 dX6_findForms_74 ?_
      refine j_iconst E (kc_m1) dX6_findForms_75 ?_
      refine j_icmp_eq E (tgt := 97) (by decide) dX6_findForms_76 (fun c18 => ?_) (fun c18 => ?_)
      · have h := jit h c18
        refine j_iconst E (kc_0) dX6_findForms_97 ?_
        obtain ⟨b19, h⟩ := job_else h
        obtain ⟨s20, es20, h⟩ := jle h
        refine j_zast E 17 1 (wM_g17 ad cI cZ _) rfl (wM_s17 ad cI cZ _ _) b19 dX6_findForms_98 ?_
        refine j_st es20 ?_
        obtain ⟨x21, ex21, h⟩ := jle h
        refine j_iinc E 2 rfl kc_1 ex21 (by decide) (lv' := [(2, .int x21), (0, .ref (ad 0)), (1, .int v1)]) rfl dX6_findForms_99 ?_
        refine j_goto E (tgt := 58) (by decide) dX6_findForms_102 ?_
        refine j_sub [1, 2, 0] (lv' := [(0, .ref (ad 0)), (1, .int v1), (2, .int x21)]) rfl ?_
        exact ih _ _ _ h
      · have h := jif h c18
        refine j_aload_n E 0 rfl rfl dX6_findForms_79 ?_
        refine j_get E 0 (wM_g0 ad cI cZ _) rfl 27 rfl in_X6_findForms_X6 (by decide) (List.mem_of_getElem? (i := 3) rfl) (fun _ h9 => h9) dX6_findForms_80 ?_
        refine j_aload_n E 0 rfl rfl dX6_findForms_83 ?_
        refine j_get E 0 (wM_g0 ad cI cZ _) rfl 5 rfl in_X6_findForms_X6 (by decide) (List.mem_of_getElem? (i := 4) rfl) (fun _ h9 => h9) dX6_findForms_84 ?_
        refine j_iload_n E 2 rfl rfl dX6_findForms_87 ?_
        obtain ⟨b22, h⟩ := job_else h
        refine j_iald E 4 0 (wM_g4 ad cI cZ _) rfl b22 dX6_findForms_88 ?_
        obtain ⟨b23, h⟩ := job_else h
        refine j_zald E 18 1 (wM_g18 ad cI cZ _) rfl b23 dX6_findForms_89 ?_
        refine j_if_eq E (tgt := 97) (by decide) dX6_findForms_90 (fun c24 => ?_) (fun c24 => ?_)
        · have h := jit h c24
          refine j_iconst E (kc_0) dX6_findForms_97 ?_
          obtain ⟨b25, h⟩ := job_else h
          obtain ⟨s26, es26, h⟩ := jle h
          refine j_zast E 17 1 (wM_g17 ad cI cZ _) rfl (wM_s17 ad cI cZ _ _) b25 dX6_findForms_98 ?_
          refine j_st es26 ?_
          obtain ⟨x27, ex27, h⟩ := jle h
          refine j_iinc E 2 rfl kc_1 ex27 (by decide) (lv' := [(2, .int x27), (0, .ref (ad 0)), (1, .int v1)]) rfl dX6_findForms_99 ?_
          refine j_goto E (tgt := 58) (by decide) dX6_findForms_102 ?_
          refine j_sub [1, 2, 0] (lv' := [(0, .ref (ad 0)), (1, .int v1), (2, .int x27)]) rfl ?_
          exact ih _ _ _ h
        · have h := jif h c24
          refine j_iconst E (kc_1) dX6_findForms_93 ?_
          refine j_goto E (tgt := 98) (by decide) dX6_findForms_94 ?_
          obtain ⟨b28, h⟩ := job_else h
          obtain ⟨s29, es29, h⟩ := jle h
          refine j_zast E 17 1 (wM_g17 ad cI cZ _) rfl (wM_s17 ad cI cZ _ _) b28 dX6_findForms_98 ?_
          refine j_st es29 ?_
          obtain ⟨x30, ex30, h⟩ := jle h
          refine j_iinc E 2 rfl kc_1 ex30 (by decide) (lv' := [(2, .int x30), (0, .ref (ad 0)), (1, .int v1)]) rfl dX6_findForms_99 ?_
          refine j_goto E (tgt := 58) (by decide) dX6_findForms_102 ?_
          refine j_sub [1, 2, 0] (lv' := [(0, .ref (ad 0)), (1, .int v1), (2, .int x30)]) rfl ?_
          exact ih _ _ _ h
set_option maxHeartbeats 4000000 in
set_option maxRecDepth 100000 in
theorem w_X6_findForms_23 {ad : Nat → Nat} {cI cZ : ClassId} {p : Program} {l : Launch} {e : Env} {s : State} {m : MethodId} {args : Array Value} {below : List Frame} {meth : Method} {c : Code} {D : va_G} {A : Nat → Prop} {o : jS} (E : jE p s m args meth c cX6_findForms 3 RX6 wsX6_findForms D (jT cI cZ) A) (hr : meth.sig.returnType = none) {K : jS → Int32 → Option jS} (hK : ∀ (st : jS) (v1 : Int32), K st v1 = some o → J p l e (rm_X6_findForms) s m args below meth c 3 D A (wM ad cI cZ) (jZV D (wM ad cI cZ) A below args s o) 0 0 st 111 [(0, .ref (ad 0)), (1, .int v1)] []) :
    ∀ (n : Nat) (st : jS) (v1 : Int32), f_X6_findForms_23 K n st v1 = some o → J p l e (rm_X6_findForms) s m args below meth c 3 D A (wM ad cI cZ) (jZV D (wM ad cI cZ) A below args s o) 0 0 st 23 [(0, .ref (ad 0)), (1, .int v1)] [] := by
  intro n
  induction n with
  | zero => intro st v1 h; cases h
  | succ n ih =>
    intro st v1 h
    rw [f_X6_findForms_23] at h
    refine j_iload_n E 1 rfl rfl dX6_findForms_23 ?_
    refine j_bipush E (kb_10) dX6_findForms_24 ?_
    refine j_icmp_gt E (tgt := 111) (by decide) dX6_findForms_26 (fun c7 => ?_) (fun c7 => ?_)
    · have h := jit h c7
      refine j_sub [0, 1] (lv' := [(0, .ref (ad 0)), (1, .int v1)]) rfl ?_
      exact hK _ _ h
    · have h := jif h c7
      refine j_iconst E (kc_0) dX6_findForms_29 ?_
      refine j_istore_n E rfl (by decide) (lv' := [(2, .int 0), (0, .ref (ad 0)), (1, .int v1)]) rfl dX6_findForms_30 ?_
      refine j_sub [1, 2, 0] (lv' := [(0, .ref (ad 0)), (1, .int v1), (2, .int 0)]) rfl ?_
      refine w_X6_findForms_31 E hr (fun s15 y13 y14 h => ?_) _ _ _ _ h
      refine j_iconst E (kc_0) dX6_findForms_56 ?_
      refine j_istore_n E rfl (by decide) (lv' := [(2, .int 0), (0, .ref (ad 0)), (1, .int y13)]) rfl dX6_findForms_57 ?_
      refine j_sub [1, 2, 0] (lv' := [(0, .ref (ad 0)), (1, .int y13), (2, .int 0)]) rfl ?_
      refine w_X6_findForms_58 E hr (fun s33 y31 y32 h => ?_) _ _ _ _ h
      obtain ⟨x34, ex34, h⟩ := jle h
      refine j_iinc E 1 rfl kc_1 ex34 (by decide) (lv' := [(1, .int x34), (0, .ref (ad 0)), (2, .int y32)]) rfl dX6_findForms_105 ?_
      refine j_goto E (tgt := 23) (by decide) dX6_findForms_108 ?_
      refine j_sub [1, 0] (lv' := [(0, .ref (ad 0)), (1, .int x34)]) rfl ?_
      exact ih _ _ h
set_option maxHeartbeats 4000000 in
set_option maxRecDepth 100000 in
theorem w_X6_findForms_113 {ad : Nat → Nat} {cI cZ : ClassId} {p : Program} {l : Launch} {e : Env} {s : State} {m : MethodId} {args : Array Value} {below : List Frame} {meth : Method} {c : Code} {D : va_G} {A : Nat → Prop} {o : jS} (E : jE p s m args meth c cX6_findForms 3 RX6 wsX6_findForms D (jT cI cZ) A) (hr : meth.sig.returnType = none) {K : jS → Int32 → Option jS} (hK : ∀ (st : jS) (v1 : Int32), K st v1 = some o → J p l e (rm_X6_findForms) s m args below meth c 3 D A (wM ad cI cZ) (jZV D (wM ad cI cZ) A below args s o) 0 0 st 138 [(0, .ref (ad 0)), (1, .int v1)] []) :
    ∀ (n : Nat) (st : jS) (v1 : Int32), f_X6_findForms_113 K n st v1 = some o → J p l e (rm_X6_findForms) s m args below meth c 3 D A (wM ad cI cZ) (jZV D (wM ad cI cZ) A below args s o) 0 0 st 113 [(0, .ref (ad 0)), (1, .int v1)] [] := by
  intro n
  induction n with
  | zero => intro st v1 h; cases h
  | succ n ih =>
    intro st v1 h
    rw [f_X6_findForms_113] at h
    refine j_iload_n E 1 rfl rfl dX6_findForms_113 ?_
    refine j_aload_n E 0 rfl rfl dX6_findForms_114 ?_
    refine j_get E 0 (wM_g0 ad cI cZ _) rfl 1 rfl in_X6_findForms_X6 (by decide) (List.mem_of_getElem? (i := 2) rfl) (fun _ h9 => h9) dX6_findForms_115 ?_
    refine j_icmp_ge E (tgt := 138) (by decide) dX6_findForms_118 (fun c37 => ?_) (fun c37 => ?_)
    · have h := jit h c37
      refine j_sub [0, 1] (lv' := [(0, .ref (ad 0)), (1, .int v1)]) rfl ?_
      exact hK _ _ h
    · have h := jif h c37
      refine j_aload_n E 0 rfl rfl dX6_findForms_121 ?_
      refine j_get E 0 (wM_g0 ad cI cZ _) rfl 28 rfl in_X6_findForms_X6 (by decide) (List.mem_of_getElem? (i := 5) rfl) (fun _ h9 => h9) dX6_findForms_122 ?_
      refine j_iload_n E 1 rfl rfl dX6_findForms_125 ?_
      refine j_aload_n E 0 rfl rfl dX6_findForms_126 ?_
      refine j_iload_n E 1 rfl rfl dX6_findForms_127 ?_
      obtain ⟨r38, er38, h⟩ := jbd h
      refine j_callVi E (As := [.int v1]) (c_X6_beginsWith er38) (cwV 1 E.1.2.2.2.2 gX6_findForms_X6_beginsWith rfl rfl rfl (by decide +kernel) ⟨Nat.le_of_ble_eq_true rfl, Nat.le_of_ble_eq_true rfl⟩) (wM_g0 ad cI cZ _) rfl rfl rfl (Nat.le_of_ble_eq_true rfl) ⟨Nat.zero_le _, Nat.zero_le _⟩ dX6_findForms_128 ?_
      obtain ⟨b39, h⟩ := job_else h
      obtain ⟨s40, es40, h⟩ := jle h
      refine j_iast E 19 0 (wM_g19 ad cI cZ _) rfl (wM_s19 ad cI cZ _ _) b39 dX6_findForms_131 ?_
      refine j_st es40 ?_
      obtain ⟨x41, ex41, h⟩ := jle h
      refine j_iinc E 1 rfl kc_1 ex41 (by decide) (lv' := [(1, .int x41), (0, .ref (ad 0))]) rfl dX6_findForms_132 ?_
      refine j_goto E (tgt := 113) (by decide) dX6_findForms_135 ?_
      refine j_sub [1, 0] (lv' := [(0, .ref (ad 0)), (1, .int x41)]) rfl ?_
      exact ih _ _ h
set_option maxHeartbeats 4000000 in
set_option maxRecDepth 100000 in
theorem c_X6_findForms {l : Launch} {D : va_G} {ad : Nat → Nat} {cI cZ : ClassId} {st : jS}  {o : jS} (h : f_X6_findForms st = some o) : CtV l D (jT cI cZ) (wM ad cI cZ) yX6_findForms wsX6_findForms (rm_X6_findForms) [.ref (ad 0)] st o := by
  refine ctV_of (o := o) (cc := cX6_findForms) (nL := 3) (own := RX6) (by decide) rfl rfl (Nat.le_of_ble_eq_true rfl) (lv0 := [(0, .ref (ad 0))]) rfl ?_
  intro p e s m args below meth c A E hr
  rw [f_X6_findForms] at h
  refine j_iconst E (kc_0) dX6_findForms_0 ?_
  refine j_istore_n E rfl (by decide) (lv' := [(1, .int 0), (0, .ref (ad 0))]) rfl dX6_findForms_1 ?_
  refine j_sub [1, 0] (lv' := [(0, .ref (ad 0)), (1, .int 0)]) rfl ?_
  refine w_X6_findForms_2 E hr (fun s6 y5 h => ?_) _ _ _ h
  refine j_iconst E (kc_0) dX6_findForms_21 ?_
  refine j_istore_n E rfl (by decide) (lv' := [(1, .int 0), (0, .ref (ad 0))]) rfl dX6_findForms_22 ?_
  refine j_sub [1, 0] (lv' := [(0, .ref (ad 0)), (1, .int 0)]) rfl ?_
  refine w_X6_findForms_23 E hr (fun s36 y35 h => ?_) _ _ _ h
  refine j_iconst E (kc_0) dX6_findForms_111 ?_
  refine j_istore_n E rfl (by decide) (lv' := [(1, .int 0), (0, .ref (ad 0))]) rfl dX6_findForms_112 ?_
  refine j_sub [1, 0] (lv' := [(0, .ref (ad 0)), (1, .int 0)]) rfl ?_
  refine w_X6_findForms_113 E hr (fun s43 y42 h => ?_) _ _ _ h
  exact j_vret E hr (Option.some.inj h) dX6_findForms_138
abbrev rm_X6_canBeEmpty : Room := { frames := 2, cells := 0, slots := 0, locals := 43 }
theorem in_X6_canBeEmpty_X6 : ∀ w ∈ u_ws RX6 TX6 29, w ∈ wsX6_canBeEmpty := fun w h => (List.mem_cons_of_mem _ (List.mem_append_right _ h))
def f_X6_canBeEmpty (st : jS) (a1 : Int32) : Option (Int32 × jS) :=
  (f_X6_isExpression st a1).bind fun r1 =>
  if r1.1 = 0 then
    jl (jis r1.2 0 1) fun s3 =>
    if (s3.2 0) = 0 then
      (f_X6_findForms s3).bind fun r5 =>
      bif job a1 80 then none else
      bif jnb (jag r5 18 a1) then none else
      some ((jag r5 18 a1), r5)
    else
    some (0, s3)
  else
  jl (jis r1.2 0 0) fun s8 =>
  if (s8.2 0) = 0 then
    (f_X6_findForms s8).bind fun r10 =>
    bif job a1 80 then none else
    bif jnb (jag r10 18 a1) then none else
    some ((jag r10 18 a1), r10)
  else
  some (0, s8)
set_option maxHeartbeats 4000000 in
set_option maxRecDepth 100000 in
theorem c_X6_canBeEmpty {l : Launch} {D : va_G} {ad : Nat → Nat} {cI cZ : ClassId} {st : jS} {a1 : Int32} {o : (Int32 × jS)} (h : f_X6_canBeEmpty st a1 = some o) : CtI l D (jT cI cZ) (wM ad cI cZ) yX6_canBeEmpty wsX6_canBeEmpty (rm_X6_canBeEmpty) [.ref (ad 0), .int a1] st o.1 o.2 := by
  refine ctI_of (o := o) (cc := cX6_canBeEmpty) (nL := 2) (own := RX6) (by decide) rfl rfl (Nat.le_of_ble_eq_true rfl) (lv0 := [(0, .ref (ad 0)), (1, .int a1)]) rfl ?_
  intro p e s m args below meth c A E hr
  rw [f_X6_canBeEmpty] at h
  refine j_aload_n E 0 rfl rfl dX6_canBeEmpty_0 ?_
  refine j_aload_n E 0 rfl rfl dX6_canBeEmpty_1 ?_
  refine j_iload_n E 1 rfl rfl dX6_canBeEmpty_2 ?_
  obtain ⟨r1, er1, h⟩ := jbd h
  refine j_callVi E (As := [.int a1]) (c_X6_isExpression er1) (cwV 1 E.1.2.2.2.2 gX6_canBeEmpty_X6_isExpression rfl rfl rfl (by decide +kernel) ⟨Nat.le_of_ble_eq_true rfl, Nat.le_of_ble_eq_true rfl⟩) (wM_g0 ad cI cZ _) rfl rfl rfl (Nat.le_of_ble_eq_true rfl) ⟨Nat.zero_le _, Nat.zero_le _⟩ dX6_canBeEmpty_3 ?_
  refine j_if_eq E (tgt := 13) (by decide) dX6_canBeEmpty_6 (fun c2 => ?_) (fun c2 => ?_)
  · have h := jit h c2
    refine j_iconst E (kc_1) dX6_canBeEmpty_13 ?_
    obtain ⟨s3, es3, h⟩ := jle h
    refine j_put E 0 (wM_g0 ad cI cZ _) rfl 0 (ty := .int) (wM_p0_0 ad cI cZ _ _) tyX6_ok nmX6 in_X6_canBeEmpty_X6 (by decide) (List.mem_of_getElem? (i := 1) rfl) (fun _ h9 => h9) rfl (tyX6_ok 0 (by decide)) rfl rfl (Nat.le_of_ble_eq_true rfl) dX6_canBeEmpty_14 ?_
    refine j_st es3 ?_
    refine j_aload_n E 0 rfl rfl dX6_canBeEmpty_17 ?_
    refine j_get E 0 (wM_g0 ad cI cZ _) rfl 0 rfl in_X6_canBeEmpty_X6 (by decide) (List.mem_of_getElem? (i := 1) rfl) (fun _ h9 => h9) dX6_canBeEmpty_18 ?_
    refine j_if_eq E (tgt := 26) (by decide) dX6_canBeEmpty_21 (fun c4 => ?_) (fun c4 => ?_)
    · have h := jit h c4
      refine j_aload_n E 0 rfl rfl dX6_canBeEmpty_26 ?_
      obtain ⟨r5, er5, h⟩ := jbd h
      refine j_callVv E (As := []) (c_X6_findForms er5) (cwV 0 E.1.2.2.2.2 gX6_canBeEmpty_X6_findForms rfl rfl rfl (by decide +kernel) ⟨Nat.le_of_ble_eq_true rfl, Nat.le_of_ble_eq_true rfl⟩) (wM_g0 ad cI cZ _) rfl rfl rfl (Nat.le_of_ble_eq_true rfl) ⟨Nat.zero_le _, Nat.zero_le _⟩ dX6_canBeEmpty_27 ?_
      refine j_aload_n E 0 rfl rfl dX6_canBeEmpty_30 ?_
      refine j_get E 0 (wM_g0 ad cI cZ _) rfl 27 rfl in_X6_canBeEmpty_X6 (by decide) (List.mem_of_getElem? (i := 2) rfl) (fun _ h9 => h9) dX6_canBeEmpty_31 ?_
      refine j_iload_n E 1 rfl rfl dX6_canBeEmpty_34 ?_
      obtain ⟨b6, h⟩ := job_else h
      refine j_zald E 18 1 (wM_g18 ad cI cZ _) rfl b6 dX6_canBeEmpty_35 ?_
      obtain ⟨b7, h⟩ := jnb_else h
      exact j_iret E hr b7 (Option.some.inj h) dX6_canBeEmpty_36
    · have h := jif h c4
      refine j_iconst E (kc_0) dX6_canBeEmpty_24 ?_
      exact j_iret E hr rfl (Option.some.inj h) dX6_canBeEmpty_25
  · have h := jif h c2
    refine j_iconst E (kc_0) dX6_canBeEmpty_9 ?_
    refine j_goto E (tgt := 14) (by decide) dX6_canBeEmpty_10 ?_
    obtain ⟨s8, es8, h⟩ := jle h
    refine j_put E 0 (wM_g0 ad cI cZ _) rfl 0 (ty := .int) (wM_p0_0 ad cI cZ _ _) tyX6_ok nmX6 in_X6_canBeEmpty_X6 (by decide) (List.mem_of_getElem? (i := 1) rfl) (fun _ h9 => h9) rfl (tyX6_ok 0 (by decide)) rfl rfl (Nat.le_of_ble_eq_true rfl) dX6_canBeEmpty_14 ?_
    refine j_st es8 ?_
    refine j_aload_n E 0 rfl rfl dX6_canBeEmpty_17 ?_
    refine j_get E 0 (wM_g0 ad cI cZ _) rfl 0 rfl in_X6_canBeEmpty_X6 (by decide) (List.mem_of_getElem? (i := 1) rfl) (fun _ h9 => h9) dX6_canBeEmpty_18 ?_
    refine j_if_eq E (tgt := 26) (by decide) dX6_canBeEmpty_21 (fun c9 => ?_) (fun c9 => ?_)
    · have h := jit h c9
      refine j_aload_n E 0 rfl rfl dX6_canBeEmpty_26 ?_
      obtain ⟨r10, er10, h⟩ := jbd h
      refine j_callVv E (As := []) (c_X6_findForms er10) (cwV 0 E.1.2.2.2.2 gX6_canBeEmpty_X6_findForms rfl rfl rfl (by decide +kernel) ⟨Nat.le_of_ble_eq_true rfl, Nat.le_of_ble_eq_true rfl⟩) (wM_g0 ad cI cZ _) rfl rfl rfl (Nat.le_of_ble_eq_true rfl) ⟨Nat.zero_le _, Nat.zero_le _⟩ dX6_canBeEmpty_27 ?_
      refine j_aload_n E 0 rfl rfl dX6_canBeEmpty_30 ?_
      refine j_get E 0 (wM_g0 ad cI cZ _) rfl 27 rfl in_X6_canBeEmpty_X6 (by decide) (List.mem_of_getElem? (i := 2) rfl) (fun _ h9 => h9) dX6_canBeEmpty_31 ?_
      refine j_iload_n E 1 rfl rfl dX6_canBeEmpty_34 ?_
      obtain ⟨b11, h⟩ := job_else h
      refine j_zald E 18 1 (wM_g18 ad cI cZ _) rfl b11 dX6_canBeEmpty_35 ?_
      obtain ⟨b12, h⟩ := jnb_else h
      exact j_iret E hr b12 (Option.some.inj h) dX6_canBeEmpty_36
    · have h := jif h c9
      refine j_iconst E (kc_0) dX6_canBeEmpty_24 ?_
      exact j_iret E hr rfl (Option.some.inj h) dX6_canBeEmpty_25
abbrev rm_X6_isLeftRecursive : Room := { frames := 2, cells := 0, slots := 0, locals := 43 }
theorem in_X6_isLeftRecursive_X6 : ∀ w ∈ u_ws RX6 TX6 29, w ∈ wsX6_isLeftRecursive := fun w h => (List.mem_cons_of_mem _ (List.mem_append_right _ h))
def f_X6_isLeftRecursive_62 (K : jS → Int32 → Int32 → Int32 → Int32 → Option (Int32 × jS)) : Nat → jS → Int32 → Int32 → Int32 → Int32 → Option (Int32 × jS)
  | 0, _, _, _, _, _ => none
  | n + 1, st, v1, v2, v3, v4 =>
    if v4 ≥ 10 then
      K st v1 v2 v3 v4
    else
    if ((v2 >>> (v4 &&& 31)) &&& 1) = 1 then
      bif job v4 10 then none else
      if (jag st 4 v4) = (-1) then
        jl (v4 + 1) fun x17 =>
        f_X6_isLeftRecursive_62 K n st v1 v2 v3 x17
      else
      bif job v4 10 then none else
      bif job (jag st 4 v4) 80 then none else
      jl (v2 ||| (jag st 19 (jag st 4 v4))) fun x20 =>
      jl (v4 + 1) fun x21 =>
      f_X6_isLeftRecursive_62 K n st v1 x20 v3 x21
    else
    jl (v4 + 1) fun x14 =>
    f_X6_isLeftRecursive_62 K n st v1 v2 v3 x14
def f_X6_isLeftRecursive_53 (K : jS → Int32 → Int32 → Int32 → Option (Int32 × jS)) : Nat → jS → Int32 → Int32 → Int32 → Option (Int32 × jS)
  | 0, _, _, _, _ => none
  | n + 1, st, v1, v2, v3 =>
    if v3 ≥ 10 then
      K st v1 v2 v3
    else
    f_X6_isLeftRecursive_62 (fun s26 y22 y23 y24 y25 =>
      jl (y24 + 1) fun x27 =>
      f_X6_isLeftRecursive_53 K n s26 y22 y23 x27
      ) jFuel st v1 v2 v3 0
def f_X6_isLeftRecursive (st : jS) (a1 : Int32) : Option (Int32 × jS) :=
  (f_X6_isRule a1).bind fun r1 =>
  if r1 = 0 then
    jl (jis st 0 1) fun s3 =>
    if (s3.2 0) = 0 then
      bif job a1 10 then none else
      if (jag s3 4 a1) = (-1) then
        some (0, s3)
      else
      (f_X6_findForms s3).bind fun r7 =>
      bif job a1 10 then none else
      bif job (jag r7 4 a1) 80 then none else
      jl (jag r7 19 (jag r7 4 a1)) fun x10 =>
      f_X6_isLeftRecursive_53 (fun s31 y28 y29 y30 =>
        if ((y29 >>> (y28 &&& 31)) &&& 1) = 1 then
          some (1, s31)
        else
        some (0, s31)
        ) jFuel r7 a1 x10 0
    else
    some (0, s3)
  else
  jl (jis st 0 0) fun s33 =>
  if (s33.2 0) = 0 then
    bif job a1 10 then none else
    if (jag s33 4 a1) = (-1) then
      some (0, s33)
    else
    (f_X6_findForms s33).bind fun r37 =>
    bif job a1 10 then none else
    bif job (jag r37 4 a1) 80 then none else
    jl (jag r37 19 (jag r37 4 a1)) fun x40 =>
    f_X6_isLeftRecursive_53 (fun s44 y41 y42 y43 =>
      if ((y42 >>> (y41 &&& 31)) &&& 1) = 1 then
        some (1, s44)
      else
      some (0, s44)
      ) jFuel r37 a1 x40 0
  else
  some (0, s33)
set_option maxHeartbeats 4000000 in
set_option maxRecDepth 100000 in
theorem w_X6_isLeftRecursive_62 {ad : Nat → Nat} {cI cZ : ClassId} {p : Program} {l : Launch} {e : Env} {s : State} {m : MethodId} {args : Array Value} {below : List Frame} {meth : Method} {c : Code} {D : va_G} {A : Nat → Prop} {o : (Int32 × jS)} (E : jE p s m args meth c cX6_isLeftRecursive 5 RX6 wsX6_isLeftRecursive D (jT cI cZ) A) (hr : meth.sig.returnType = (some .boolean)) {K : jS → Int32 → Int32 → Int32 → Int32 → Option (Int32 × jS)} (hK : ∀ (st : jS) (v1 : Int32) (v2 : Int32) (v3 : Int32) (v4 : Int32), K st v1 v2 v3 v4 = some o → J p l e (rm_X6_isLeftRecursive) s m args below meth c 5 D A (wM ad cI cZ) (jZI D (wM ad cI cZ) A below args s o) 0 0 st 111 [(0, .ref (ad 0)), (1, .int v1), (2, .int v2), (3, .int v3), (4, .int v4)] []) :
    ∀ (n : Nat) (st : jS) (v1 : Int32) (v2 : Int32) (v3 : Int32) (v4 : Int32), f_X6_isLeftRecursive_62 K n st v1 v2 v3 v4 = some o → J p l e (rm_X6_isLeftRecursive) s m args below meth c 5 D A (wM ad cI cZ) (jZI D (wM ad cI cZ) A below args s o) 0 0 st 62 [(0, .ref (ad 0)), (1, .int v1), (2, .int v2), (3, .int v3), (4, .int v4)] [] := by
  intro n
  induction n with
  | zero => intro st v1 v2 v3 v4 h; cases h
  | succ n ih =>
    intro st v1 v2 v3 v4 h
    rw [f_X6_isLeftRecursive_62] at h
    refine j_iload E 4 rfl dX6_isLeftRecursive_62 ?_
    refine j_bipush E (kb_10) dX6_isLeftRecursive_64 ?_
    refine j_icmp_ge E (tgt := 111) (by decide) dX6_isLeftRecursive_66 (fun c12 => ?_) (fun c12 => ?_)
    · have h := jit h c12
      refine j_sub [0, 1, 2, 3, 4] (lv' := [(0, .ref (ad 0)), (1, .int v1), (2, .int v2), (3, .int v3), (4, .int v4)]) rfl ?_
      exact hK _ _ _ _ _ h
    · have h := jif h c12
      refine j_iload_n E 2 rfl rfl dX6_isLeftRecursive_69 ?_
      refine j_iload E 4 rfl dX6_isLeftRecursive_70 ?_
      refine j_ishr E dX6_isLeftRecursive_72 ?_
      refine j_iconst E (kc_1) dX6_isLeftRecursive_73 ?_
      refine j_iand E dX6_isLeftRecursive_74 ?_
      refine j_iconst E (kc_1) dX6_isLeftRecursive_75 ?_
      refine j_icmp_ne E (tgt := 105) (by decide) dX6_isLeftRecursive_76 (fun c13 => ?_) (fun c13 => ?_)
      · have h := jif h c13
        obtain ⟨x14, ex14, h⟩ := jle h
        refine j_iinc E 4 rfl kc_1 ex14 (by decide) (lv' := [(4, .int x14), (0, .ref (ad 0)), (1, .int v1), (2, .int v2), (3, .int v3)]) rfl dX6_isLeftRecursive_105 ?_
        refine j_goto E (tgt := 62) (by decide) dX6_isLeftRecursive_108 ?_
        refine j_sub [1, 2, 3, 4, 0] (lv' := [(0, .ref (ad 0)), (1, .int v1), (2, .int v2), (3, .int v3), (4, .int x14)]) rfl ?_
        exact ih _ _ _ _ _ h
      · have h := jit h c13
        refine j_aload_n E 0 rfl rfl dX6_isLeftRecursive_79 ?_
        refine j_get E 0 (wM_g0 ad cI cZ _) rfl 5 rfl in_X6_isLeftRecursive_X6 (by decide) (List.mem_of_getElem? (i := 2) rfl) (fun _ h9 => h9) dX6_isLeftRecursive_80 ?_
        refine j_iload E 4 rfl dX6_isLeftRecursive_83 ?_
        obtain ⟨b15, h⟩ := job_else h
        refine j_iald E 4 0 (wM_g4 ad cI cZ _) rfl b15 dX6_isLeftRecursive_85 ?_
        refine j_iconst E (kc_m1) dX6_isLeftRecursive_86 ?_
        refine j_icmp_eq E (tgt := 105) (by decide) dX6_isLeftRecursive_87 (fun c16 => ?_) (fun c16 => ?_)
        · have h := jit h c16
          obtain ⟨x17, ex17, h⟩ := jle h
          refine j_iinc E 4 rfl kc_1 ex17 (by decide) (lv' := [(4, .int x17), (0, .ref (ad 0)), (1, .int v1), (2, .int v2), (3, .int v3)]) rfl dX6_isLeftRecursive_105 ?_
          refine j_goto E (tgt := 62) (by decide) dX6_isLeftRecursive_108 ?_
          refine j_sub [1, 2, 3, 4, 0] (lv' := [(0, .ref (ad 0)), (1, .int v1), (2, .int v2), (3, .int v3), (4, .int x17)]) rfl ?_
          exact ih _ _ _ _ _ h
        · have h := jif h c16
          refine j_iload_n E 2 rfl rfl dX6_isLeftRecursive_90 ?_
          refine j_aload_n E 0 rfl rfl dX6_isLeftRecursive_91 ?_
          refine j_get E 0 (wM_g0 ad cI cZ _) rfl 28 rfl in_X6_isLeftRecursive_X6 (by decide) (List.mem_of_getElem? (i := 3) rfl) (fun _ h9 => h9) dX6_isLeftRecursive_92 ?_
          refine j_aload_n E 0 rfl rfl dX6_isLeftRecursive_95 ?_
          refine j_get E 0 (wM_g0 ad cI cZ _) rfl 5 rfl in_X6_isLeftRecursive_X6 (by decide) (List.mem_of_getElem? (i := 2) rfl) (fun _ h9 => h9) dX6_isLeftRecursive_96 ?_
          refine j_iload E 4 rfl dX6_isLeftRecursive_99 ?_
          obtain ⟨b18, h⟩ := job_else h
          refine j_iald E 4 0 (wM_g4 ad cI cZ _) rfl b18 dX6_isLeftRecursive_101 ?_
          obtain ⟨b19, h⟩ := job_else h
          refine j_iald E 19 0 (wM_g19 ad cI cZ _) rfl b19 dX6_isLeftRecursive_102 ?_
          refine j_ior E dX6_isLeftRecursive_103 ?_
          obtain ⟨x20, ex20, h⟩ := jle h
          refine j_topi ex20 ?_
          refine j_istore_n E rfl (by decide) (lv' := [(2, .int x20), (0, .ref (ad 0)), (1, .int v1), (3, .int v3), (4, .int v4)]) rfl dX6_isLeftRecursive_104 ?_
          obtain ⟨x21, ex21, h⟩ := jle h
          refine j_iinc E 4 rfl kc_1 ex21 (by decide) (lv' := [(4, .int x21), (2, .int x20), (0, .ref (ad 0)), (1, .int v1), (3, .int v3)]) rfl dX6_isLeftRecursive_105 ?_
          refine j_goto E (tgt := 62) (by decide) dX6_isLeftRecursive_108 ?_
          refine j_sub [2, 3, 1, 4, 0] (lv' := [(0, .ref (ad 0)), (1, .int v1), (2, .int x20), (3, .int v3), (4, .int x21)]) rfl ?_
          exact ih _ _ _ _ _ h
set_option maxHeartbeats 4000000 in
set_option maxRecDepth 100000 in
theorem w_X6_isLeftRecursive_53 {ad : Nat → Nat} {cI cZ : ClassId} {p : Program} {l : Launch} {e : Env} {s : State} {m : MethodId} {args : Array Value} {below : List Frame} {meth : Method} {c : Code} {D : va_G} {A : Nat → Prop} {o : (Int32 × jS)} (E : jE p s m args meth c cX6_isLeftRecursive 5 RX6 wsX6_isLeftRecursive D (jT cI cZ) A) (hr : meth.sig.returnType = (some .boolean)) {K : jS → Int32 → Int32 → Int32 → Option (Int32 × jS)} (hK : ∀ (st : jS) (v1 : Int32) (v2 : Int32) (v3 : Int32), K st v1 v2 v3 = some o → J p l e (rm_X6_isLeftRecursive) s m args below meth c 5 D A (wM ad cI cZ) (jZI D (wM ad cI cZ) A below args s o) 0 0 st 117 [(0, .ref (ad 0)), (1, .int v1), (2, .int v2), (3, .int v3)] []) :
    ∀ (n : Nat) (st : jS) (v1 : Int32) (v2 : Int32) (v3 : Int32), f_X6_isLeftRecursive_53 K n st v1 v2 v3 = some o → J p l e (rm_X6_isLeftRecursive) s m args below meth c 5 D A (wM ad cI cZ) (jZI D (wM ad cI cZ) A below args s o) 0 0 st 53 [(0, .ref (ad 0)), (1, .int v1), (2, .int v2), (3, .int v3)] [] := by
  intro n
  induction n with
  | zero => intro st v1 v2 v3 h; cases h
  | succ n ih =>
    intro st v1 v2 v3 h
    rw [f_X6_isLeftRecursive_53] at h
    refine j_iload_n E 3 rfl rfl dX6_isLeftRecursive_53 ?_
    refine j_bipush E (kb_10) dX6_isLeftRecursive_54 ?_
    refine j_icmp_ge E (tgt := 117) (by decide) dX6_isLeftRecursive_56 (fun c11 => ?_) (fun c11 => ?_)
    · have h := jit h c11
      refine j_sub [0, 1, 2, 3] (lv' := [(0, .ref (ad 0)), (1, .int v1), (2, .int v2), (3, .int v3)]) rfl ?_
      exact hK _ _ _ _ h
    · have h := jif h c11
      refine j_iconst E (kc_0) dX6_isLeftRecursive_59 ?_
      refine j_istore E (by decide) (lv' := [(4, .int 0), (0, .ref (ad 0)), (1, .int v1), (2, .int v2), (3, .int v3)]) rfl dX6_isLeftRecursive_60 ?_
      refine j_sub [1, 2, 3, 4, 0] (lv' := [(0, .ref (ad 0)), (1, .int v1), (2, .int v2), (3, .int v3), (4, .int 0)]) rfl ?_
      refine w_X6_isLeftRecursive_62 E hr (fun s26 y22 y23 y24 y25 h => ?_) _ _ _ _ _ _ h
      obtain ⟨x27, ex27, h⟩ := jle h
      refine j_iinc E 3 rfl kc_1 ex27 (by decide) (lv' := [(3, .int x27), (0, .ref (ad 0)), (1, .int y22), (2, .int y23), (4, .int y25)]) rfl dX6_isLeftRecursive_111 ?_
      refine j_goto E (tgt := 53) (by decide) dX6_isLeftRecursive_114 ?_
      refine j_sub [1, 2, 3, 0] (lv' := [(0, .ref (ad 0)), (1, .int y22), (2, .int y23), (3, .int x27)]) rfl ?_
      exact ih _ _ _ _ h
set_option maxHeartbeats 4000000 in
set_option maxRecDepth 100000 in
theorem c_X6_isLeftRecursive {l : Launch} {D : va_G} {ad : Nat → Nat} {cI cZ : ClassId} {st : jS} {a1 : Int32} {o : (Int32 × jS)} (h : f_X6_isLeftRecursive st a1 = some o) : CtI l D (jT cI cZ) (wM ad cI cZ) yX6_isLeftRecursive wsX6_isLeftRecursive (rm_X6_isLeftRecursive) [.ref (ad 0), .int a1] st o.1 o.2 := by
  refine ctI_of (o := o) (cc := cX6_isLeftRecursive) (nL := 5) (own := RX6) (by decide) rfl rfl (Nat.le_of_ble_eq_true rfl) (lv0 := [(0, .ref (ad 0)), (1, .int a1)]) rfl ?_
  intro p e s m args below meth c A E hr
  rw [f_X6_isLeftRecursive] at h
  refine j_aload_n E 0 rfl rfl dX6_isLeftRecursive_0 ?_
  refine j_iload_n E 1 rfl rfl dX6_isLeftRecursive_1 ?_
  obtain ⟨r1, er1, h⟩ := jbd h
  refine j_callSi E (As := [.int a1]) (c_X6_isRule er1) (va_cwS 1 E.1.2.2.2.2 gX6_isLeftRecursive_X6_isRule rfl rfl rfl (by decide +kernel) ⟨Nat.le_of_ble_eq_true rfl, Nat.le_of_ble_eq_true rfl⟩) rfl rfl (Nat.le_of_ble_eq_true rfl) ⟨Nat.zero_le _, Nat.zero_le _⟩ dX6_isLeftRecursive_2 ?_
  refine j_if_eq E (tgt := 12) (by decide) dX6_isLeftRecursive_5 (fun c2 => ?_) (fun c2 => ?_)
  · have h := jit h c2
    refine j_iconst E (kc_1) dX6_isLeftRecursive_12 ?_
    obtain ⟨s3, es3, h⟩ := jle h
    refine j_put E 0 (wM_g0 ad cI cZ _) rfl 0 (ty := .int) (wM_p0_0 ad cI cZ _ _) tyX6_ok nmX6 in_X6_isLeftRecursive_X6 (by decide) (List.mem_of_getElem? (i := 1) rfl) (fun _ h9 => h9) rfl (tyX6_ok 0 (by decide)) rfl rfl (Nat.le_of_ble_eq_true rfl) dX6_isLeftRecursive_13 ?_
    refine j_st es3 ?_
    refine j_aload_n E 0 rfl rfl dX6_isLeftRecursive_16 ?_
    refine j_get E 0 (wM_g0 ad cI cZ _) rfl 0 rfl in_X6_isLeftRecursive_X6 (by decide) (List.mem_of_getElem? (i := 1) rfl) (fun _ h9 => h9) dX6_isLeftRecursive_17 ?_
    refine j_if_ne E (tgt := 33) (by decide) dX6_isLeftRecursive_20 (fun c4 => ?_) (fun c4 => ?_)
    · have h := jif h c4
      refine j_iconst E (kc_0) dX6_isLeftRecursive_33 ?_
      exact j_iret E hr rfl (Option.some.inj h) dX6_isLeftRecursive_34
    · have h := jit h c4
      refine j_aload_n E 0 rfl rfl dX6_isLeftRecursive_23 ?_
      refine j_get E 0 (wM_g0 ad cI cZ _) rfl 5 rfl in_X6_isLeftRecursive_X6 (by decide) (List.mem_of_getElem? (i := 2) rfl) (fun _ h9 => h9) dX6_isLeftRecursive_24 ?_
      refine j_iload_n E 1 rfl rfl dX6_isLeftRecursive_27 ?_
      obtain ⟨b5, h⟩ := job_else h
      refine j_iald E 4 0 (wM_g4 ad cI cZ _) rfl b5 dX6_isLeftRecursive_28 ?_
      refine j_iconst E (kc_m1) dX6_isLeftRecursive_29 ?_
      refine j_icmp_ne E (tgt := 35) (by decide) dX6_isLeftRecursive_30 (fun c6 => ?_) (fun c6 => ?_)
      · have h := jif h c6
        refine j_aload_n E 0 rfl rfl dX6_isLeftRecursive_35 ?_
        obtain ⟨r7, er7, h⟩ := jbd h
        refine j_callVv E (As := []) (c_X6_findForms er7) (cwV 0 E.1.2.2.2.2 gX6_isLeftRecursive_X6_findForms rfl rfl rfl (by decide +kernel) ⟨Nat.le_of_ble_eq_true rfl, Nat.le_of_ble_eq_true rfl⟩) (wM_g0 ad cI cZ _) rfl rfl rfl (Nat.le_of_ble_eq_true rfl) ⟨Nat.zero_le _, Nat.zero_le _⟩ dX6_isLeftRecursive_36 ?_
        refine j_aload_n E 0 rfl rfl dX6_isLeftRecursive_39 ?_
        refine j_get E 0 (wM_g0 ad cI cZ _) rfl 28 rfl in_X6_isLeftRecursive_X6 (by decide) (List.mem_of_getElem? (i := 3) rfl) (fun _ h9 => h9) dX6_isLeftRecursive_40 ?_
        refine j_aload_n E 0 rfl rfl dX6_isLeftRecursive_43 ?_
        refine j_get E 0 (wM_g0 ad cI cZ _) rfl 5 rfl in_X6_isLeftRecursive_X6 (by decide) (List.mem_of_getElem? (i := 2) rfl) (fun _ h9 => h9) dX6_isLeftRecursive_44 ?_
        refine j_iload_n E 1 rfl rfl dX6_isLeftRecursive_47 ?_
        obtain ⟨b8, h⟩ := job_else h
        refine j_iald E 4 0 (wM_g4 ad cI cZ _) rfl b8 dX6_isLeftRecursive_48 ?_
        obtain ⟨b9, h⟩ := job_else h
        refine j_iald E 19 0 (wM_g19 ad cI cZ _) rfl b9 dX6_isLeftRecursive_49 ?_
        obtain ⟨x10, ex10, h⟩ := jle h
        refine j_topi ex10 ?_
        refine j_istore_n E rfl (by decide) (lv' := [(2, .int x10), (0, .ref (ad 0)), (1, .int a1)]) rfl dX6_isLeftRecursive_50 ?_
        refine j_iconst E (kc_0) dX6_isLeftRecursive_51 ?_
        refine j_istore_n E rfl (by decide) (lv' := [(3, .int 0), (2, .int x10), (0, .ref (ad 0)), (1, .int a1)]) rfl dX6_isLeftRecursive_52 ?_
        refine j_sub [2, 3, 1, 0] (lv' := [(0, .ref (ad 0)), (1, .int a1), (2, .int x10), (3, .int 0)]) rfl ?_
        refine w_X6_isLeftRecursive_53 E hr (fun s31 y28 y29 y30 h => ?_) _ _ _ _ _ h
        refine j_iload_n E 2 rfl rfl dX6_isLeftRecursive_117 ?_
        refine j_iload_n E 1 rfl rfl dX6_isLeftRecursive_118 ?_
        refine j_ishr E dX6_isLeftRecursive_119 ?_
        refine j_iconst E (kc_1) dX6_isLeftRecursive_120 ?_
        refine j_iand E dX6_isLeftRecursive_121 ?_
        refine j_iconst E (kc_1) dX6_isLeftRecursive_122 ?_
        refine j_icmp_ne E (tgt := 130) (by decide) dX6_isLeftRecursive_123 (fun c32 => ?_) (fun c32 => ?_)
        · have h := jif h c32
          refine j_iconst E (kc_0) dX6_isLeftRecursive_130 ?_
          exact j_iret E hr rfl (Option.some.inj h) dX6_isLeftRecursive_131
        · have h := jit h c32
          refine j_iconst E (kc_1) dX6_isLeftRecursive_126 ?_
          refine j_goto E (tgt := 131) (by decide) dX6_isLeftRecursive_127 ?_
          exact j_iret E hr rfl (Option.some.inj h) dX6_isLeftRecursive_131
      · have h := jit h c6
        refine j_iconst E (kc_0) dX6_isLeftRecursive_33 ?_
        exact j_iret E hr rfl (Option.some.inj h) dX6_isLeftRecursive_34
  · have h := jif h c2
    refine j_iconst E (kc_0) dX6_isLeftRecursive_8 ?_
    refine j_goto E (tgt := 13) (by decide) dX6_isLeftRecursive_9 ?_
    obtain ⟨s33, es33, h⟩ := jle h
    refine j_put E 0 (wM_g0 ad cI cZ _) rfl 0 (ty := .int) (wM_p0_0 ad cI cZ _ _) tyX6_ok nmX6 in_X6_isLeftRecursive_X6 (by decide) (List.mem_of_getElem? (i := 1) rfl) (fun _ h9 => h9) rfl (tyX6_ok 0 (by decide)) rfl rfl (Nat.le_of_ble_eq_true rfl) dX6_isLeftRecursive_13 ?_
    refine j_st es33 ?_
    refine j_aload_n E 0 rfl rfl dX6_isLeftRecursive_16 ?_
    refine j_get E 0 (wM_g0 ad cI cZ _) rfl 0 rfl in_X6_isLeftRecursive_X6 (by decide) (List.mem_of_getElem? (i := 1) rfl) (fun _ h9 => h9) dX6_isLeftRecursive_17 ?_
    refine j_if_ne E (tgt := 33) (by decide) dX6_isLeftRecursive_20 (fun c34 => ?_) (fun c34 => ?_)
    · have h := jif h c34
      refine j_iconst E (kc_0) dX6_isLeftRecursive_33 ?_
      exact j_iret E hr rfl (Option.some.inj h) dX6_isLeftRecursive_34
    · have h := jit h c34
      refine j_aload_n E 0 rfl rfl dX6_isLeftRecursive_23 ?_
      refine j_get E 0 (wM_g0 ad cI cZ _) rfl 5 rfl in_X6_isLeftRecursive_X6 (by decide) (List.mem_of_getElem? (i := 2) rfl) (fun _ h9 => h9) dX6_isLeftRecursive_24 ?_
      refine j_iload_n E 1 rfl rfl dX6_isLeftRecursive_27 ?_
      obtain ⟨b35, h⟩ := job_else h
      refine j_iald E 4 0 (wM_g4 ad cI cZ _) rfl b35 dX6_isLeftRecursive_28 ?_
      refine j_iconst E (kc_m1) dX6_isLeftRecursive_29 ?_
      refine j_icmp_ne E (tgt := 35) (by decide) dX6_isLeftRecursive_30 (fun c36 => ?_) (fun c36 => ?_)
      · have h := jif h c36
        refine j_aload_n E 0 rfl rfl dX6_isLeftRecursive_35 ?_
        obtain ⟨r37, er37, h⟩ := jbd h
        refine j_callVv E (As := []) (c_X6_findForms er37) (cwV 0 E.1.2.2.2.2 gX6_isLeftRecursive_X6_findForms rfl rfl rfl (by decide +kernel) ⟨Nat.le_of_ble_eq_true rfl, Nat.le_of_ble_eq_true rfl⟩) (wM_g0 ad cI cZ _) rfl rfl rfl (Nat.le_of_ble_eq_true rfl) ⟨Nat.zero_le _, Nat.zero_le _⟩ dX6_isLeftRecursive_36 ?_
        refine j_aload_n E 0 rfl rfl dX6_isLeftRecursive_39 ?_
        refine j_get E 0 (wM_g0 ad cI cZ _) rfl 28 rfl in_X6_isLeftRecursive_X6 (by decide) (List.mem_of_getElem? (i := 3) rfl) (fun _ h9 => h9) dX6_isLeftRecursive_40 ?_
        refine j_aload_n E 0 rfl rfl dX6_isLeftRecursive_43 ?_
        refine j_get E 0 (wM_g0 ad cI cZ _) rfl 5 rfl in_X6_isLeftRecursive_X6 (by decide) (List.mem_of_getElem? (i := 2) rfl) (fun _ h9 => h9) dX6_isLeftRecursive_44 ?_
        refine j_iload_n E 1 rfl rfl dX6_isLeftRecursive_47 ?_
        obtain ⟨b38, h⟩ := job_else h
        refine j_iald E 4 0 (wM_g4 ad cI cZ _) rfl b38 dX6_isLeftRecursive_48 ?_
        obtain ⟨b39, h⟩ := job_else h
        refine j_iald E 19 0 (wM_g19 ad cI cZ _) rfl b39 dX6_isLeftRecursive_49 ?_
        obtain ⟨x40, ex40, h⟩ := jle h
        refine j_topi ex40 ?_
        refine j_istore_n E rfl (by decide) (lv' := [(2, .int x40), (0, .ref (ad 0)), (1, .int a1)]) rfl dX6_isLeftRecursive_50 ?_
        refine j_iconst E (kc_0) dX6_isLeftRecursive_51 ?_
        refine j_istore_n E rfl (by decide) (lv' := [(3, .int 0), (2, .int x40), (0, .ref (ad 0)), (1, .int a1)]) rfl dX6_isLeftRecursive_52 ?_
        refine j_sub [2, 3, 1, 0] (lv' := [(0, .ref (ad 0)), (1, .int a1), (2, .int x40), (3, .int 0)]) rfl ?_
        refine w_X6_isLeftRecursive_53 E hr (fun s44 y41 y42 y43 h => ?_) _ _ _ _ _ h
        refine j_iload_n E 2 rfl rfl dX6_isLeftRecursive_117 ?_
        refine j_iload_n E 1 rfl rfl dX6_isLeftRecursive_118 ?_
        refine j_ishr E dX6_isLeftRecursive_119 ?_
        refine j_iconst E (kc_1) dX6_isLeftRecursive_120 ?_
        refine j_iand E dX6_isLeftRecursive_121 ?_
        refine j_iconst E (kc_1) dX6_isLeftRecursive_122 ?_
        refine j_icmp_ne E (tgt := 130) (by decide) dX6_isLeftRecursive_123 (fun c45 => ?_) (fun c45 => ?_)
        · have h := jif h c45
          refine j_iconst E (kc_0) dX6_isLeftRecursive_130 ?_
          exact j_iret E hr rfl (Option.some.inj h) dX6_isLeftRecursive_131
        · have h := jit h c45
          refine j_iconst E (kc_1) dX6_isLeftRecursive_126 ?_
          refine j_goto E (tgt := 131) (by decide) dX6_isLeftRecursive_127 ?_
          exact j_iret E hr rfl (Option.some.inj h) dX6_isLeftRecursive_131
      · have h := jit h c36
        refine j_iconst E (kc_0) dX6_isLeftRecursive_33 ?_
        exact j_iret E hr rfl (Option.some.inj h) dX6_isLeftRecursive_34
abbrev rm_X6_result : Room := { frames := 1, cells := 0, slots := 0, locals := 21 }
theorem in_X6_result_X6 : ∀ w ∈ u_ws RX6 TX6 29, w ∈ wsX6_result := fun w h => (List.mem_cons_of_mem _ (List.mem_append_right _ h))
def f_X6_result (st : jS) (a1 : Int32) (a2 : Int32) : Option (Int32 × jS) :=
  jl (jis st 0 0) fun s1 =>
  (f_X6_isRule a1).bind fun r2 =>
  if r2 = 0 then
    (f_X6_fail s1 1).bind fun r4 =>
    some (r4.1, r4.2)
  else
  (f_X6_isPlace s1 a2).bind fun r5 =>
  if r5.1 = 0 then
    (f_X6_fail r5.2 1).bind fun r10 =>
    some (r10.1, r10.2)
  else
  bif job ((41 * a1) + a2) 410 then none else
  if (jag r5.2 6 ((41 * a1) + a2)) = 0 then
    some ((-3), r5.2)
  else
  bif job ((41 * a1) + a2) 410 then none else
  some ((jag r5.2 7 ((41 * a1) + a2)), r5.2)
set_option maxHeartbeats 4000000 in
set_option maxRecDepth 100000 in
theorem c_X6_result {l : Launch} {D : va_G} {ad : Nat → Nat} {cI cZ : ClassId} {st : jS} {a1 : Int32} {a2 : Int32} {o : (Int32 × jS)} (h : f_X6_result st a1 a2 = some o) : CtI l D (jT cI cZ) (wM ad cI cZ) yX6_result wsX6_result (rm_X6_result) [.ref (ad 0), .int a1, .int a2] st o.1 o.2 := by
  refine ctI_of (o := o) (cc := cX6_result) (nL := 3) (own := RX6) (by decide) rfl rfl (Nat.le_of_ble_eq_true rfl) (lv0 := [(0, .ref (ad 0)), (1, .int a1), (2, .int a2)]) rfl ?_
  intro p e s m args below meth c A E hr
  rw [f_X6_result] at h
  refine j_aload_n E 0 rfl rfl dX6_result_0 ?_
  refine j_iconst E (kc_0) dX6_result_1 ?_
  obtain ⟨s1, es1, h⟩ := jle h
  refine j_put E 0 (wM_g0 ad cI cZ _) rfl 0 (ty := .int) (wM_p0_0 ad cI cZ _ _) tyX6_ok nmX6 in_X6_result_X6 (by decide) (List.mem_of_getElem? (i := 1) rfl) (fun _ h9 => h9) rfl (tyX6_ok 0 (by decide)) rfl rfl (Nat.le_of_ble_eq_true rfl) dX6_result_2 ?_
  refine j_st es1 ?_
  refine j_iload_n E 1 rfl rfl dX6_result_5 ?_
  obtain ⟨r2, er2, h⟩ := jbd h
  refine j_callSi E (As := [.int a1]) (c_X6_isRule er2) (va_cwS 1 E.1.2.2.2.2 gX6_result_X6_isRule rfl rfl rfl (by decide +kernel) ⟨Nat.le_of_ble_eq_true rfl, Nat.le_of_ble_eq_true rfl⟩) rfl rfl (Nat.le_of_ble_eq_true rfl) ⟨Nat.zero_le _, Nat.zero_le _⟩ dX6_result_6 ?_
  refine j_if_eq E (tgt := 20) (by decide) dX6_result_9 (fun c3 => ?_) (fun c3 => ?_)
  · have h := jit h c3
    refine j_aload_n E 0 rfl rfl dX6_result_20 ?_
    refine j_iconst E (kc_1) dX6_result_21 ?_
    obtain ⟨r4, er4, h⟩ := jbd h
    refine j_callVi E (As := [.int 1]) (c_X6_fail er4) (cwV 1 E.1.2.2.2.2 gX6_result_X6_fail rfl rfl rfl (by decide +kernel) ⟨Nat.le_of_ble_eq_true rfl, Nat.le_of_ble_eq_true rfl⟩) (wM_g0 ad cI cZ _) rfl rfl rfl (Nat.le_of_ble_eq_true rfl) ⟨Nat.zero_le _, Nat.zero_le _⟩ dX6_result_22 ?_
    exact j_iret E hr rfl (Option.some.inj h) dX6_result_25
  · have h := jif h c3
    refine j_aload_n E 0 rfl rfl dX6_result_12 ?_
    refine j_iload_n E 2 rfl rfl dX6_result_13 ?_
    obtain ⟨r5, er5, h⟩ := jbd h
    refine j_callVi E (As := [.int a2]) (c_X6_isPlace er5) (cwV 1 E.1.2.2.2.2 gX6_result_X6_isPlace rfl rfl rfl (by decide +kernel) ⟨Nat.le_of_ble_eq_true rfl, Nat.le_of_ble_eq_true rfl⟩) (wM_g0 ad cI cZ _) rfl rfl rfl (Nat.le_of_ble_eq_true rfl) ⟨Nat.zero_le _, Nat.zero_le _⟩ dX6_result_14 ?_
    refine j_if_ne E (tgt := 26) (by decide) dX6_result_17 (fun c6 => ?_) (fun c6 => ?_)
    · have h := jif h c6
      refine j_aload_n E 0 rfl rfl dX6_result_26 ?_
      refine j_get E 0 (wM_g0 ad cI cZ _) rfl 8 rfl in_X6_result_X6 (by decide) (List.mem_of_getElem? (i := 2) rfl) (fun _ h9 => h9) dX6_result_27 ?_
      refine j_bipush E (kb_41) dX6_result_30 ?_
      refine j_iload_n E 1 rfl rfl dX6_result_32 ?_
      refine j_imul E dX6_result_33 ?_
      refine j_iload_n E 2 rfl rfl dX6_result_34 ?_
      refine j_iadd E dX6_result_35 ?_
      obtain ⟨b7, h⟩ := job_else h
      refine j_zald E 6 1 (wM_g6 ad cI cZ _) rfl b7 dX6_result_36 ?_
      refine j_if_eq E (tgt := 54) (by decide) dX6_result_37 (fun c8 => ?_) (fun c8 => ?_)
      · have h := jit h c8
        refine j_bipush E (kb_m3) dX6_result_54 ?_
        exact j_iret E hr rfl (Option.some.inj h) dX6_result_56
      · have h := jif h c8
        refine j_aload_n E 0 rfl rfl dX6_result_40 ?_
        refine j_get E 0 (wM_g0 ad cI cZ _) rfl 9 rfl in_X6_result_X6 (by decide) (List.mem_of_getElem? (i := 3) rfl) (fun _ h9 => h9) dX6_result_41 ?_
        refine j_bipush E (kb_41) dX6_result_44 ?_
        refine j_iload_n E 1 rfl rfl dX6_result_46 ?_
        refine j_imul E dX6_result_47 ?_
        refine j_iload_n E 2 rfl rfl dX6_result_48 ?_
        refine j_iadd E dX6_result_49 ?_
        obtain ⟨b9, h⟩ := job_else h
        refine j_iald E 7 0 (wM_g7 ad cI cZ _) rfl b9 dX6_result_50 ?_
        refine j_goto E (tgt := 56) (by decide) dX6_result_51 ?_
        exact j_iret E hr rfl (Option.some.inj h) dX6_result_56
    · have h := jit h c6
      refine j_aload_n E 0 rfl rfl dX6_result_20 ?_
      refine j_iconst E (kc_1) dX6_result_21 ?_
      obtain ⟨r10, er10, h⟩ := jbd h
      refine j_callVi E (As := [.int 1]) (c_X6_fail er10) (cwV 1 E.1.2.2.2.2 gX6_result_X6_fail rfl rfl rfl (by decide +kernel) ⟨Nat.le_of_ble_eq_true rfl, Nat.le_of_ble_eq_true rfl⟩) (wM_g0 ad cI cZ _) rfl rfl rfl (Nat.le_of_ble_eq_true rfl) ⟨Nat.zero_le _, Nat.zero_le _⟩ dX6_result_22 ?_
      exact j_iret E hr rfl (Option.some.inj h) dX6_result_25
abbrev rm_X6_reach : Room := { frames := 1, cells := 0, slots := 0, locals := 21 }
theorem in_X6_reach_X6 : ∀ w ∈ u_ws RX6 TX6 29, w ∈ wsX6_reach := fun w h => (List.mem_cons_of_mem _ (List.mem_append_right _ h))
def f_X6_reach (st : jS) (a1 : Int32) (a2 : Int32) : Option (Int32 × jS) :=
  jl (jis st 0 0) fun s1 =>
  (f_X6_isRule a1).bind fun r2 =>
  if r2 = 0 then
    (f_X6_fail s1 1).bind fun r4 =>
    some (r4.1, r4.2)
  else
  (f_X6_isPlace s1 a2).bind fun r5 =>
  if r5.1 = 0 then
    (f_X6_fail r5.2 1).bind fun r10 =>
    some (r10.1, r10.2)
  else
  bif job ((41 * a1) + a2) 410 then none else
  if (jag r5.2 6 ((41 * a1) + a2)) = 0 then
    some ((-1), r5.2)
  else
  bif job ((41 * a1) + a2) 410 then none else
  some ((jag r5.2 8 ((41 * a1) + a2)), r5.2)
set_option maxHeartbeats 4000000 in
set_option maxRecDepth 100000 in
theorem c_X6_reach {l : Launch} {D : va_G} {ad : Nat → Nat} {cI cZ : ClassId} {st : jS} {a1 : Int32} {a2 : Int32} {o : (Int32 × jS)} (h : f_X6_reach st a1 a2 = some o) : CtI l D (jT cI cZ) (wM ad cI cZ) yX6_reach wsX6_reach (rm_X6_reach) [.ref (ad 0), .int a1, .int a2] st o.1 o.2 := by
  refine ctI_of (o := o) (cc := cX6_reach) (nL := 3) (own := RX6) (by decide) rfl rfl (Nat.le_of_ble_eq_true rfl) (lv0 := [(0, .ref (ad 0)), (1, .int a1), (2, .int a2)]) rfl ?_
  intro p e s m args below meth c A E hr
  rw [f_X6_reach] at h
  refine j_aload_n E 0 rfl rfl dX6_reach_0 ?_
  refine j_iconst E (kc_0) dX6_reach_1 ?_
  obtain ⟨s1, es1, h⟩ := jle h
  refine j_put E 0 (wM_g0 ad cI cZ _) rfl 0 (ty := .int) (wM_p0_0 ad cI cZ _ _) tyX6_ok nmX6 in_X6_reach_X6 (by decide) (List.mem_of_getElem? (i := 1) rfl) (fun _ h9 => h9) rfl (tyX6_ok 0 (by decide)) rfl rfl (Nat.le_of_ble_eq_true rfl) dX6_reach_2 ?_
  refine j_st es1 ?_
  refine j_iload_n E 1 rfl rfl dX6_reach_5 ?_
  obtain ⟨r2, er2, h⟩ := jbd h
  refine j_callSi E (As := [.int a1]) (c_X6_isRule er2) (va_cwS 1 E.1.2.2.2.2 gX6_reach_X6_isRule rfl rfl rfl (by decide +kernel) ⟨Nat.le_of_ble_eq_true rfl, Nat.le_of_ble_eq_true rfl⟩) rfl rfl (Nat.le_of_ble_eq_true rfl) ⟨Nat.zero_le _, Nat.zero_le _⟩ dX6_reach_6 ?_
  refine j_if_eq E (tgt := 20) (by decide) dX6_reach_9 (fun c3 => ?_) (fun c3 => ?_)
  · have h := jit h c3
    refine j_aload_n E 0 rfl rfl dX6_reach_20 ?_
    refine j_iconst E (kc_1) dX6_reach_21 ?_
    obtain ⟨r4, er4, h⟩ := jbd h
    refine j_callVi E (As := [.int 1]) (c_X6_fail er4) (cwV 1 E.1.2.2.2.2 gX6_reach_X6_fail rfl rfl rfl (by decide +kernel) ⟨Nat.le_of_ble_eq_true rfl, Nat.le_of_ble_eq_true rfl⟩) (wM_g0 ad cI cZ _) rfl rfl rfl (Nat.le_of_ble_eq_true rfl) ⟨Nat.zero_le _, Nat.zero_le _⟩ dX6_reach_22 ?_
    exact j_iret E hr rfl (Option.some.inj h) dX6_reach_25
  · have h := jif h c3
    refine j_aload_n E 0 rfl rfl dX6_reach_12 ?_
    refine j_iload_n E 2 rfl rfl dX6_reach_13 ?_
    obtain ⟨r5, er5, h⟩ := jbd h
    refine j_callVi E (As := [.int a2]) (c_X6_isPlace er5) (cwV 1 E.1.2.2.2.2 gX6_reach_X6_isPlace rfl rfl rfl (by decide +kernel) ⟨Nat.le_of_ble_eq_true rfl, Nat.le_of_ble_eq_true rfl⟩) (wM_g0 ad cI cZ _) rfl rfl rfl (Nat.le_of_ble_eq_true rfl) ⟨Nat.zero_le _, Nat.zero_le _⟩ dX6_reach_14 ?_
    refine j_if_ne E (tgt := 26) (by decide) dX6_reach_17 (fun c6 => ?_) (fun c6 => ?_)
    · have h := jif h c6
      refine j_aload_n E 0 rfl rfl dX6_reach_26 ?_
      refine j_get E 0 (wM_g0 ad cI cZ _) rfl 8 rfl in_X6_reach_X6 (by decide) (List.mem_of_getElem? (i := 2) rfl) (fun _ h9 => h9) dX6_reach_27 ?_
      refine j_bipush E (kb_41) dX6_reach_30 ?_
      refine j_iload_n E 1 rfl rfl dX6_reach_32 ?_
      refine j_imul E dX6_reach_33 ?_
      refine j_iload_n E 2 rfl rfl dX6_reach_34 ?_
      refine j_iadd E dX6_reach_35 ?_
      obtain ⟨b7, h⟩ := job_else h
      refine j_zald E 6 1 (wM_g6 ad cI cZ _) rfl b7 dX6_reach_36 ?_
      refine j_if_eq E (tgt := 54) (by decide) dX6_reach_37 (fun c8 => ?_) (fun c8 => ?_)
      · have h := jit h c8
        refine j_iconst E (kc_m1) dX6_reach_54 ?_
        exact j_iret E hr rfl (Option.some.inj h) dX6_reach_55
      · have h := jif h c8
        refine j_aload_n E 0 rfl rfl dX6_reach_40 ?_
        refine j_get E 0 (wM_g0 ad cI cZ _) rfl 10 rfl in_X6_reach_X6 (by decide) (List.mem_of_getElem? (i := 3) rfl) (fun _ h9 => h9) dX6_reach_41 ?_
        refine j_bipush E (kb_41) dX6_reach_44 ?_
        refine j_iload_n E 1 rfl rfl dX6_reach_46 ?_
        refine j_imul E dX6_reach_47 ?_
        refine j_iload_n E 2 rfl rfl dX6_reach_48 ?_
        refine j_iadd E dX6_reach_49 ?_
        obtain ⟨b9, h⟩ := job_else h
        refine j_iald E 8 0 (wM_g8 ad cI cZ _) rfl b9 dX6_reach_50 ?_
        refine j_goto E (tgt := 55) (by decide) dX6_reach_51 ?_
        exact j_iret E hr rfl (Option.some.inj h) dX6_reach_55
    · have h := jit h c6
      refine j_aload_n E 0 rfl rfl dX6_reach_20 ?_
      refine j_iconst E (kc_1) dX6_reach_21 ?_
      obtain ⟨r10, er10, h⟩ := jbd h
      refine j_callVi E (As := [.int 1]) (c_X6_fail er10) (cwV 1 E.1.2.2.2.2 gX6_reach_X6_fail rfl rfl rfl (by decide +kernel) ⟨Nat.le_of_ble_eq_true rfl, Nat.le_of_ble_eq_true rfl⟩) (wM_g0 ad cI cZ _) rfl rfl rfl (Nat.le_of_ble_eq_true rfl) ⟨Nat.zero_le _, Nat.zero_le _⟩ dX6_reach_22 ?_
      exact j_iret E hr rfl (Option.some.inj h) dX6_reach_25
abbrev rm_X6_digest : Room := { frames := 0, cells := 0, slots := 0, locals := 0 }
theorem in_X6_digest_X6 : ∀ w ∈ u_ws RX6 TX6 29, w ∈ wsX6_digest := fun w h => (List.mem_cons_of_mem _ (List.mem_append_right _ h))
def f_X6_digest_17 (K : jS → Int64 → Int32 → Option (Int64 × jS)) : Nat → jS → Int64 → Int32 → Option (Int64 × jS)
  | 0, _, _, _ => none
  | n + 1, st, v1, v3 =>
    if v3 ≥ 10 then
      K st v1 v3
    else
    bif job v3 10 then none else
    jl ((v1 * (31 : Int64)) + ((jag st 4 v3)).toInt64) fun x5 =>
    jl (v3 + 1) fun x6 =>
    f_X6_digest_17 K n st x5 x6
def f_X6_digest_57 (K : jS → Int64 → Int32 → Option (Int64 × jS)) : Nat → jS → Int64 → Int32 → Option (Int64 × jS)
  | 0, _, _, _ => none
  | n + 1, st, v1, v3 =>
    if v3 ≥ (st.2 2) then
      K st v1 v3
    else
    bif job v3 40 then none else
    jl ((v1 * (31 : Int64)) + ((jag st 5 v3)).toInt64) fun x13 =>
    jl (v3 + 1) fun x14 =>
    f_X6_digest_57 K n st x13 x14
def f_X6_digest_98 (K : jS → Int64 → Int32 → Int32 → Option (Int64 × jS)) : Nat → jS → Int64 → Int32 → Int32 → Option (Int64 × jS)
  | 0, _, _, _, _ => none
  | n + 1, st, v1, v3, v4 =>
    if v4 ≥ 10 then
      K st v1 v3 v4
    else
    jl ((41 * v4) + v3) fun x20 =>
    bif job x20 410 then none else
    if (jag st 6 x20) = 0 then
      jl (v4 + 1) fun x23 =>
      f_X6_digest_98 K n st v1 v3 x23
    else
    bif job x20 410 then none else
    bif job x20 410 then none else
    jl ((((((((v1 * (31 : Int64)) + (v3).toInt64) * (31 : Int64)) + (v4).toInt64) * (31 : Int64)) + ((jag st 7 x20)).toInt64) * (31 : Int64)) + ((jag st 8 x20)).toInt64) fun x26 =>
    jl (v4 + 1) fun x27 =>
    f_X6_digest_98 K n st x26 v3 x27
def f_X6_digest_87 (K : jS → Int64 → Int32 → Option (Int64 × jS)) : Nat → jS → Int64 → Int32 → Option (Int64 × jS)
  | 0, _, _, _ => none
  | n + 1, st, v1, v3 =>
    if v3 > (st.2 2) then
      K st v1 v3
    else
    f_X6_digest_98 (fun s31 y28 y29 y30 =>
      jl (y29 + 1) fun x32 =>
      f_X6_digest_87 K n s31 y28 x32
      ) jFuel st v1 v3 0
def f_X6_digest (st : jS)  : Option (Int64 × jS) :=
  jl (jis st 0 0) fun s1 =>
  jl ((3317 : Int64) + ((s1.2 1)).toInt64) fun x2 =>
  f_X6_digest_17 (fun s9 y7 y8 =>
    jl ((y7 * (31 : Int64)) + ((s9.2 2)).toInt64) fun x10 =>
    f_X6_digest_57 (fun s17 y15 y16 =>
      f_X6_digest_87 (fun s35 y33 y34 =>
        some (((((((y33 * (31 : Int64)) + ((s35.2 6)).toInt64) * (31 : Int64)) + ((s35.2 7)).toInt64) * (31 : Int64)) + ((s35.2 8)).toInt64), s35)
        ) jFuel s17 y15 0
      ) jFuel s9 x10 0
    ) jFuel s1 x2 0
set_option maxHeartbeats 4000000 in
set_option maxRecDepth 100000 in
theorem w_X6_digest_17 {ad : Nat → Nat} {cI cZ : ClassId} {p : Program} {l : Launch} {e : Env} {s : State} {m : MethodId} {args : Array Value} {below : List Frame} {meth : Method} {c : Code} {D : va_G} {A : Nat → Prop} {o : (Int64 × jS)} (E : jE p s m args meth c cX6_digest 6 RX6 wsX6_digest D (jT cI cZ) A) (hr : meth.sig.returnType = (some .long)) {K : jS → Int64 → Int32 → Option (Int64 × jS)} (hK : ∀ (st : jS) (v1 : Int64) (v3 : Int32), K st v1 v3 = some o → J p l e (rm_X6_digest) s m args below meth c 6 D A (wM ad cI cZ) (jZL D (wM ad cI cZ) A below args s o) 0 0 st 43 [(0, .ref (ad 0)), (1, .long v1), (3, .int v3)] []) :
    ∀ (n : Nat) (st : jS) (v1 : Int64) (v3 : Int32), f_X6_digest_17 K n st v1 v3 = some o → J p l e (rm_X6_digest) s m args below meth c 6 D A (wM ad cI cZ) (jZL D (wM ad cI cZ) A below args s o) 0 0 st 17 [(0, .ref (ad 0)), (1, .long v1), (3, .int v3)] [] := by
  intro n
  induction n with
  | zero => intro st v1 v3 h; cases h
  | succ n ih =>
    intro st v1 v3 h
    rw [f_X6_digest_17] at h
    refine j_iload_n E 2 rfl rfl dX6_digest_17 ?_
    refine j_bipush E (kb_10) dX6_digest_18 ?_
    refine j_icmp_ge E (tgt := 43) (by decide) dX6_digest_20 (fun c3 => ?_) (fun c3 => ?_)
    · have h := jit h c3
      refine j_sub [0, 1, 2] (lv' := [(0, .ref (ad 0)), (1, .long v1), (3, .int v3)]) rfl ?_
      exact hK _ _ _ h
    · have h := jif h c3
      refine j_lload_n E 1 rfl rfl dX6_digest_23 ?_
      refine j_ldc2 E (List.mem_of_getElem? (i := 4) rfl) dX6_digest_24 ?_
      refine j_lmul E dX6_digest_27 ?_
      refine j_aload_n E 0 rfl rfl dX6_digest_28 ?_
      refine j_get E 0 (wM_g0 ad cI cZ _) rfl 5 rfl in_X6_digest_X6 (by decide) (List.mem_of_getElem? (i := 5) rfl) (fun _ h9 => h9) dX6_digest_29 ?_
      refine j_iload_n E 2 rfl rfl dX6_digest_32 ?_
      obtain ⟨b4, h⟩ := job_else h
      refine j_iald E 4 0 (wM_g4 ad cI cZ _) rfl b4 dX6_digest_33 ?_
      refine j_i2l E dX6_digest_34 ?_
      refine j_ladd E dX6_digest_35 ?_
      obtain ⟨x5, ex5, h⟩ := jle h
      refine j_topl ex5 ?_
      refine j_lstore_n E rfl (by decide) (lv' := [(1, .long x5), (0, .ref (ad 0)), (3, .int v3)]) rfl dX6_digest_36 ?_
      obtain ⟨x6, ex6, h⟩ := jle h
      refine j_iinc E 2 rfl kc_1 ex6 (by decide) (lv' := [(3, .int x6), (1, .long x5), (0, .ref (ad 0))]) rfl dX6_digest_37 ?_
      refine j_goto E (tgt := 17) (by decide) dX6_digest_40 ?_
      refine j_sub [2, 1, 0] (lv' := [(0, .ref (ad 0)), (1, .long x5), (3, .int x6)]) rfl ?_
      exact ih _ _ _ h
set_option maxHeartbeats 4000000 in
set_option maxRecDepth 100000 in
theorem w_X6_digest_57 {ad : Nat → Nat} {cI cZ : ClassId} {p : Program} {l : Launch} {e : Env} {s : State} {m : MethodId} {args : Array Value} {below : List Frame} {meth : Method} {c : Code} {D : va_G} {A : Nat → Prop} {o : (Int64 × jS)} (E : jE p s m args meth c cX6_digest 6 RX6 wsX6_digest D (jT cI cZ) A) (hr : meth.sig.returnType = (some .long)) {K : jS → Int64 → Int32 → Option (Int64 × jS)} (hK : ∀ (st : jS) (v1 : Int64) (v3 : Int32), K st v1 v3 = some o → J p l e (rm_X6_digest) s m args below meth c 6 D A (wM ad cI cZ) (jZL D (wM ad cI cZ) A below args s o) 0 0 st 85 [(0, .ref (ad 0)), (1, .long v1), (3, .int v3)] []) :
    ∀ (n : Nat) (st : jS) (v1 : Int64) (v3 : Int32), f_X6_digest_57 K n st v1 v3 = some o → J p l e (rm_X6_digest) s m args below meth c 6 D A (wM ad cI cZ) (jZL D (wM ad cI cZ) A below args s o) 0 0 st 57 [(0, .ref (ad 0)), (1, .long v1), (3, .int v3)] [] := by
  intro n
  induction n with
  | zero => intro st v1 v3 h; cases h
  | succ n ih =>
    intro st v1 v3 h
    rw [f_X6_digest_57] at h
    refine j_iload_n E 2 rfl rfl dX6_digest_57 ?_
    refine j_aload_n E 0 rfl rfl dX6_digest_58 ?_
    refine j_get E 0 (wM_g0 ad cI cZ _) rfl 6 rfl in_X6_digest_X6 (by decide) (List.mem_of_getElem? (i := 6) rfl) (fun _ h9 => h9) dX6_digest_59 ?_
    refine j_icmp_ge E (tgt := 85) (by decide) dX6_digest_62 (fun c11 => ?_) (fun c11 => ?_)
    · have h := jit h c11
      refine j_sub [0, 1, 2] (lv' := [(0, .ref (ad 0)), (1, .long v1), (3, .int v3)]) rfl ?_
      exact hK _ _ _ h
    · have h := jif h c11
      refine j_lload_n E 1 rfl rfl dX6_digest_65 ?_
      refine j_ldc2 E (List.mem_of_getElem? (i := 4) rfl) dX6_digest_66 ?_
      refine j_lmul E dX6_digest_69 ?_
      refine j_aload_n E 0 rfl rfl dX6_digest_70 ?_
      refine j_get E 0 (wM_g0 ad cI cZ _) rfl 7 rfl in_X6_digest_X6 (by decide) (List.mem_of_getElem? (i := 7) rfl) (fun _ h9 => h9) dX6_digest_71 ?_
      refine j_iload_n E 2 rfl rfl dX6_digest_74 ?_
      obtain ⟨b12, h⟩ := job_else h
      refine j_iald E 5 0 (wM_g5 ad cI cZ _) rfl b12 dX6_digest_75 ?_
      refine j_i2l E dX6_digest_76 ?_
      refine j_ladd E dX6_digest_77 ?_
      obtain ⟨x13, ex13, h⟩ := jle h
      refine j_topl ex13 ?_
      refine j_lstore_n E rfl (by decide) (lv' := [(1, .long x13), (0, .ref (ad 0)), (3, .int v3)]) rfl dX6_digest_78 ?_
      obtain ⟨x14, ex14, h⟩ := jle h
      refine j_iinc E 2 rfl kc_1 ex14 (by decide) (lv' := [(3, .int x14), (1, .long x13), (0, .ref (ad 0))]) rfl dX6_digest_79 ?_
      refine j_goto E (tgt := 57) (by decide) dX6_digest_82 ?_
      refine j_sub [2, 1, 0] (lv' := [(0, .ref (ad 0)), (1, .long x13), (3, .int x14)]) rfl ?_
      exact ih _ _ _ h
set_option maxHeartbeats 4000000 in
set_option maxRecDepth 100000 in
theorem w_X6_digest_98 {ad : Nat → Nat} {cI cZ : ClassId} {p : Program} {l : Launch} {e : Env} {s : State} {m : MethodId} {args : Array Value} {below : List Frame} {meth : Method} {c : Code} {D : va_G} {A : Nat → Prop} {o : (Int64 × jS)} (E : jE p s m args meth c cX6_digest 6 RX6 wsX6_digest D (jT cI cZ) A) (hr : meth.sig.returnType = (some .long)) {K : jS → Int64 → Int32 → Int32 → Option (Int64 × jS)} (hK : ∀ (st : jS) (v1 : Int64) (v3 : Int32) (v4 : Int32), K st v1 v3 v4 = some o → J p l e (rm_X6_digest) s m args below meth c 6 D A (wM ad cI cZ) (jZL D (wM ad cI cZ) A below args s o) 0 0 st 173 [(0, .ref (ad 0)), (1, .long v1), (3, .int v3), (4, .int v4)] []) :
    ∀ (n : Nat) (st : jS) (v1 : Int64) (v3 : Int32) (v4 : Int32), f_X6_digest_98 K n st v1 v3 v4 = some o → J p l e (rm_X6_digest) s m args below meth c 6 D A (wM ad cI cZ) (jZL D (wM ad cI cZ) A below args s o) 0 0 st 98 [(0, .ref (ad 0)), (1, .long v1), (3, .int v3), (4, .int v4)] [] := by
  intro n
  induction n with
  | zero => intro st v1 v3 v4 h; cases h
  | succ n ih =>
    intro st v1 v3 v4 h
    rw [f_X6_digest_98] at h
    refine j_iload E 3 rfl dX6_digest_98 ?_
    refine j_bipush E (kb_10) dX6_digest_100 ?_
    refine j_icmp_ge E (tgt := 173) (by decide) dX6_digest_102 (fun c19 => ?_) (fun c19 => ?_)
    · have h := jit h c19
      refine j_sub [0, 1, 2, 3] (lv' := [(0, .ref (ad 0)), (1, .long v1), (3, .int v3), (4, .int v4)]) rfl ?_
      exact hK _ _ _ _ h
    · have h := jif h c19
      refine j_bipush E (kb_41) dX6_digest_105 ?_
      refine j_iload E 3 rfl dX6_digest_107 ?_
      refine j_imul E dX6_digest_109 ?_
      refine j_iload_n E 2 rfl rfl dX6_digest_110 ?_
      refine j_iadd E dX6_digest_111 ?_
      obtain ⟨x20, ex20, h⟩ := jle h
      refine j_topi ex20 ?_
      refine j_istore E (by decide) (lv' := [(5, .int x20), (0, .ref (ad 0)), (1, .long v1), (3, .int v3), (4, .int v4)]) rfl dX6_digest_112 ?_
      refine j_aload_n E 1 rfl rfl dX6_digest_114 ?_
      refine j_get E 0 (wM_g0 ad cI cZ _) rfl 8 rfl in_X6_digest_X6 (by decide) (List.mem_of_getElem? (i := 8) rfl) (fun _ h9 => h9) dX6_digest_115 ?_
      refine j_iload E 0 rfl dX6_digest_118 ?_
      obtain ⟨b21, h⟩ := job_else h
      refine j_zald E 6 1 (wM_g6 ad cI cZ _) rfl b21 dX6_digest_120 ?_
      refine j_if_eq E (tgt := 167) (by decide) dX6_digest_121 (fun c22 => ?_) (fun c22 => ?_)
      · have h := jit h c22
        obtain ⟨x23, ex23, h⟩ := jle h
        refine j_iinc E 4 rfl kc_1 ex23 (by decide) (lv' := [(4, .int x23), (5, .int x20), (0, .ref (ad 0)), (1, .long v1), (3, .int v3)]) rfl dX6_digest_167 ?_
        refine j_goto E (tgt := 98) (by decide) dX6_digest_170 ?_
        refine j_sub [2, 3, 4, 0] (lv' := [(0, .ref (ad 0)), (1, .long v1), (3, .int v3), (4, .int x23)]) rfl ?_
        exact ih _ _ _ _ h
      · have h := jif h c22
        refine j_lload_n E 2 rfl rfl dX6_digest_124 ?_
        refine j_ldc2 E (List.mem_of_getElem? (i := 4) rfl) dX6_digest_125 ?_
        refine j_lmul E dX6_digest_128 ?_
        refine j_iload_n E 3 rfl rfl dX6_digest_129 ?_
        refine j_i2l E dX6_digest_130 ?_
        refine j_ladd E dX6_digest_131 ?_
        refine j_ldc2 E (List.mem_of_getElem? (i := 4) rfl) dX6_digest_132 ?_
        refine j_lmul E dX6_digest_135 ?_
        refine j_iload E 4 rfl dX6_digest_136 ?_
        refine j_i2l E dX6_digest_138 ?_
        refine j_ladd E dX6_digest_139 ?_
        refine j_ldc2 E (List.mem_of_getElem? (i := 4) rfl) dX6_digest_140 ?_
        refine j_lmul E dX6_digest_143 ?_
        refine j_aload_n E 1 rfl rfl dX6_digest_144 ?_
        refine j_get E 0 (wM_g0 ad cI cZ _) rfl 9 rfl in_X6_digest_X6 (by decide) (List.mem_of_getElem? (i := 9) rfl) (fun _ h9 => h9) dX6_digest_145 ?_
        refine j_iload E 0 rfl dX6_digest_148 ?_
        obtain ⟨b24, h⟩ := job_else h
        refine j_iald E 7 0 (wM_g7 ad cI cZ _) rfl b24 dX6_digest_150 ?_
        refine j_i2l E dX6_digest_151 ?_
        refine j_ladd E dX6_digest_152 ?_
        refine j_ldc2 E (List.mem_of_getElem? (i := 4) rfl) dX6_digest_153 ?_
        refine j_lmul E dX6_digest_156 ?_
        refine j_aload_n E 1 rfl rfl dX6_digest_157 ?_
        refine j_get E 0 (wM_g0 ad cI cZ _) rfl 10 rfl in_X6_digest_X6 (by decide) (List.mem_of_getElem? (i := 10) rfl) (fun _ h9 => h9) dX6_digest_158 ?_
        refine j_iload E 0 rfl dX6_digest_161 ?_
        obtain ⟨b25, h⟩ := job_else h
        refine j_iald E 8 0 (wM_g8 ad cI cZ _) rfl b25 dX6_digest_163 ?_
        refine j_i2l E dX6_digest_164 ?_
        refine j_ladd E dX6_digest_165 ?_
        obtain ⟨x26, ex26, h⟩ := jle h
        refine j_topl ex26 ?_
        refine j_lstore_n E rfl (by decide) (lv' := [(1, .long x26), (5, .int x20), (0, .ref (ad 0)), (3, .int v3), (4, .int v4)]) rfl dX6_digest_166 ?_
        obtain ⟨x27, ex27, h⟩ := jle h
        refine j_iinc E 4 rfl kc_1 ex27 (by decide) (lv' := [(4, .int x27), (1, .long x26), (5, .int x20), (0, .ref (ad 0)), (3, .int v3)]) rfl dX6_digest_167 ?_
        refine j_goto E (tgt := 98) (by decide) dX6_digest_170 ?_
        refine j_sub [3, 1, 4, 0] (lv' := [(0, .ref (ad 0)), (1, .long x26), (3, .int v3), (4, .int x27)]) rfl ?_
        exact ih _ _ _ _ h
set_option maxHeartbeats 4000000 in
set_option maxRecDepth 100000 in
theorem w_X6_digest_87 {ad : Nat → Nat} {cI cZ : ClassId} {p : Program} {l : Launch} {e : Env} {s : State} {m : MethodId} {args : Array Value} {below : List Frame} {meth : Method} {c : Code} {D : va_G} {A : Nat → Prop} {o : (Int64 × jS)} (E : jE p s m args meth c cX6_digest 6 RX6 wsX6_digest D (jT cI cZ) A) (hr : meth.sig.returnType = (some .long)) {K : jS → Int64 → Int32 → Option (Int64 × jS)} (hK : ∀ (st : jS) (v1 : Int64) (v3 : Int32), K st v1 v3 = some o → J p l e (rm_X6_digest) s m args below meth c 6 D A (wM ad cI cZ) (jZL D (wM ad cI cZ) A below args s o) 0 0 st 179 [(0, .ref (ad 0)), (1, .long v1), (3, .int v3)] []) :
    ∀ (n : Nat) (st : jS) (v1 : Int64) (v3 : Int32), f_X6_digest_87 K n st v1 v3 = some o → J p l e (rm_X6_digest) s m args below meth c 6 D A (wM ad cI cZ) (jZL D (wM ad cI cZ) A below args s o) 0 0 st 87 [(0, .ref (ad 0)), (1, .long v1), (3, .int v3)] [] := by
  intro n
  induction n with
  | zero => intro st v1 v3 h; cases h
  | succ n ih =>
    intro st v1 v3 h
    rw [f_X6_digest_87] at h
    refine j_iload_n E 2 rfl rfl dX6_digest_87 ?_
    refine j_aload_n E 0 rfl rfl dX6_digest_88 ?_
    refine j_get E 0 (wM_g0 ad cI cZ _) rfl 6 rfl in_X6_digest_X6 (by decide) (List.mem_of_getElem? (i := 6) rfl) (fun _ h9 => h9) dX6_digest_89 ?_
    refine j_icmp_gt E (tgt := 179) (by decide) dX6_digest_92 (fun c18 => ?_) (fun c18 => ?_)
    · have h := jit h c18
      refine j_sub [0, 1, 2] (lv' := [(0, .ref (ad 0)), (1, .long v1), (3, .int v3)]) rfl ?_
      exact hK _ _ _ h
    · have h := jif h c18
      refine j_iconst E (kc_0) dX6_digest_95 ?_
      refine j_istore E (by decide) (lv' := [(4, .int 0), (0, .ref (ad 0)), (1, .long v1), (3, .int v3)]) rfl dX6_digest_96 ?_
      refine j_sub [1, 2, 3, 0] (lv' := [(0, .ref (ad 0)), (1, .long v1), (3, .int v3), (4, .int 0)]) rfl ?_
      refine w_X6_digest_98 E hr (fun s31 y28 y29 y30 h => ?_) _ _ _ _ _ h
      obtain ⟨x32, ex32, h⟩ := jle h
      refine j_iinc E 2 rfl kc_1 ex32 (by decide) (lv' := [(3, .int x32), (0, .ref (ad 0)), (1, .long y28), (4, .int y30)]) rfl dX6_digest_173 ?_
      refine j_goto E (tgt := 87) (by decide) dX6_digest_176 ?_
      refine j_sub [1, 2, 0] (lv' := [(0, .ref (ad 0)), (1, .long y28), (3, .int x32)]) rfl ?_
      exact ih _ _ _ h
set_option maxHeartbeats 4000000 in
set_option maxRecDepth 100000 in
theorem c_X6_digest {l : Launch} {D : va_G} {ad : Nat → Nat} {cI cZ : ClassId} {st : jS}  {o : (Int64 × jS)} (h : f_X6_digest st = some o) : CtL l D (jT cI cZ) (wM ad cI cZ) yX6_digest wsX6_digest (rm_X6_digest) [.ref (ad 0)] st o.1 o.2 := by
  refine ctL_of (o := o) (cc := cX6_digest) (nL := 6) (own := RX6) (by decide) rfl rfl (Nat.le_of_ble_eq_true rfl) (lv0 := [(0, .ref (ad 0))]) rfl ?_
  intro p e s m args below meth c A E hr
  rw [f_X6_digest] at h
  refine j_aload_n E 0 rfl rfl dX6_digest_0 ?_
  refine j_iconst E (kc_0) dX6_digest_1 ?_
  obtain ⟨s1, es1, h⟩ := jle h
  refine j_put E 0 (wM_g0 ad cI cZ _) rfl 0 (ty := .int) (wM_p0_0 ad cI cZ _ _) tyX6_ok nmX6 in_X6_digest_X6 (by decide) (List.mem_of_getElem? (i := 1) rfl) (fun _ h9 => h9) rfl (tyX6_ok 0 (by decide)) rfl rfl (Nat.le_of_ble_eq_true rfl) dX6_digest_2 ?_
  refine j_st es1 ?_
  refine j_ldc2 E (List.mem_of_getElem? (i := 2) rfl) dX6_digest_5 ?_
  refine j_aload_n E 0 rfl rfl dX6_digest_8 ?_
  refine j_get E 0 (wM_g0 ad cI cZ _) rfl 1 rfl in_X6_digest_X6 (by decide) (List.mem_of_getElem? (i := 3) rfl) (fun _ h9 => h9) dX6_digest_9 ?_
  refine j_i2l E dX6_digest_12 ?_
  refine j_ladd E dX6_digest_13 ?_
  obtain ⟨x2, ex2, h⟩ := jle h
  refine j_topl ex2 ?_
  refine j_lstore_n E rfl (by decide) (lv' := [(1, .long x2), (0, .ref (ad 0))]) rfl dX6_digest_14 ?_
  refine j_iconst E (kc_0) dX6_digest_15 ?_
  refine j_istore_n E rfl (by decide) (lv' := [(3, .int 0), (1, .long x2), (0, .ref (ad 0))]) rfl dX6_digest_16 ?_
  refine j_sub [2, 1, 0] (lv' := [(0, .ref (ad 0)), (1, .long x2), (3, .int 0)]) rfl ?_
  refine w_X6_digest_17 E hr (fun s9 y7 y8 h => ?_) _ _ _ _ h
  refine j_lload_n E 1 rfl rfl dX6_digest_43 ?_
  refine j_ldc2 E (List.mem_of_getElem? (i := 4) rfl) dX6_digest_44 ?_
  refine j_lmul E dX6_digest_47 ?_
  refine j_aload_n E 0 rfl rfl dX6_digest_48 ?_
  refine j_get E 0 (wM_g0 ad cI cZ _) rfl 6 rfl in_X6_digest_X6 (by decide) (List.mem_of_getElem? (i := 6) rfl) (fun _ h9 => h9) dX6_digest_49 ?_
  refine j_i2l E dX6_digest_52 ?_
  refine j_ladd E dX6_digest_53 ?_
  obtain ⟨x10, ex10, h⟩ := jle h
  refine j_topl ex10 ?_
  refine j_lstore_n E rfl (by decide) (lv' := [(1, .long x10), (0, .ref (ad 0)), (3, .int y8)]) rfl dX6_digest_54 ?_
  refine j_iconst E (kc_0) dX6_digest_55 ?_
  refine j_istore_n E rfl (by decide) (lv' := [(3, .int 0), (1, .long x10), (0, .ref (ad 0))]) rfl dX6_digest_56 ?_
  refine j_sub [2, 1, 0] (lv' := [(0, .ref (ad 0)), (1, .long x10), (3, .int 0)]) rfl ?_
  refine w_X6_digest_57 E hr (fun s17 y15 y16 h => ?_) _ _ _ _ h
  refine j_iconst E (kc_0) dX6_digest_85 ?_
  refine j_istore_n E rfl (by decide) (lv' := [(3, .int 0), (0, .ref (ad 0)), (1, .long y15)]) rfl dX6_digest_86 ?_
  refine j_sub [1, 2, 0] (lv' := [(0, .ref (ad 0)), (1, .long y15), (3, .int 0)]) rfl ?_
  refine w_X6_digest_87 E hr (fun s35 y33 y34 h => ?_) _ _ _ _ h
  refine j_lload_n E 1 rfl rfl dX6_digest_179 ?_
  refine j_ldc2 E (List.mem_of_getElem? (i := 4) rfl) dX6_digest_180 ?_
  refine j_lmul E dX6_digest_183 ?_
  refine j_aload_n E 0 rfl rfl dX6_digest_184 ?_
  refine j_get E 0 (wM_g0 ad cI cZ _) rfl 22 rfl in_X6_digest_X6 (by decide) (List.mem_of_getElem? (i := 11) rfl) (fun _ h9 => h9) dX6_digest_185 ?_
  refine j_i2l E dX6_digest_188 ?_
  refine j_ladd E dX6_digest_189 ?_
  refine j_ldc2 E (List.mem_of_getElem? (i := 4) rfl) dX6_digest_190 ?_
  refine j_lmul E dX6_digest_193 ?_
  refine j_aload_n E 0 rfl rfl dX6_digest_194 ?_
  refine j_get E 0 (wM_g0 ad cI cZ _) rfl 23 rfl in_X6_digest_X6 (by decide) (List.mem_of_getElem? (i := 12) rfl) (fun _ h9 => h9) dX6_digest_195 ?_
  refine j_i2l E dX6_digest_198 ?_
  refine j_ladd E dX6_digest_199 ?_
  refine j_ldc2 E (List.mem_of_getElem? (i := 4) rfl) dX6_digest_200 ?_
  refine j_lmul E dX6_digest_203 ?_
  refine j_aload_n E 0 rfl rfl dX6_digest_204 ?_
  refine j_get E 0 (wM_g0 ad cI cZ _) rfl 24 rfl in_X6_digest_X6 (by decide) (List.mem_of_getElem? (i := 13) rfl) (fun _ h9 => h9) dX6_digest_205 ?_
  refine j_i2l E dX6_digest_208 ?_
  refine j_ladd E dX6_digest_209 ?_
  exact j_lret E hr (Option.some.inj h) dX6_digest_210
