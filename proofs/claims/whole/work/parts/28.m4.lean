abbrev rm_X6_lookB (d : Nat) : Room := rmML (d + 1)
theorem in_X6_look_X6 : ∀ w ∈ u_ws RX6 TX6 29, w ∈ wsX6_look := fun w h => (List.mem_cons_of_mem _ (List.mem_append_right _ h))
theorem rk_X6_look_X6_look (d : Nat) : (rmML d).frames + 1 ≤ (rm_X6_lookB d).frames ∧ 8 + (7 + 11) + (rmML d).locals ≤ (rm_X6_lookB d).locals := ⟨by simp only [rm_X6_lookB, rmML, rmMF, rmMG]; omega, by simp only [rm_X6_lookB, rmML, rmMF, rmMG]; omega⟩
theorem rk_X6_look_X6_lookAgain (d : Nat) : (rm_X6_lookAgain d).frames + 1 ≤ (rm_X6_lookB d).frames ∧ 8 + (6 + 11) + (rm_X6_lookAgain d).locals ≤ (rm_X6_lookB d).locals := ⟨by simp only [rm_X6_lookB, rm_X6_lookAgain, rmML, rmMF, rmMG]; omega, by simp only [rm_X6_lookB, rm_X6_lookAgain, rmML, rmMF, rmMG]; omega⟩
theorem rk_X6_look_X6_lookRule (d : Nat) : (rm_X6_lookRule d).frames + 1 ≤ (rm_X6_lookB d).frames ∧ 8 + (7 + 11) + (rm_X6_lookRule d).locals ≤ (rm_X6_lookB d).locals := ⟨by simp only [rm_X6_lookB, rm_X6_lookRule, rmML, rmMF, rmMG]; omega, by simp only [rm_X6_lookB, rm_X6_lookRule, rmML, rmMF, rmMG]; omega⟩
def f_X6_lookB (lk : jS → Int32 → Int32 → Int32 → Option (Int32 × jS)) (st : jS) (a1 : Int32) (a2 : Int32) (a3 : Int32) : Option (Int32 × jS) :=
  if (st.2 4) = 0 then
    if (st.2 6) = 5000 then
      jl (jis st 4 1) fun s5 =>
      (f_X6_miss s5 0).bind fun r6 =>
      some (r6.1, r6.2)
    else
    if a3 ≤ 100 then
      jl (jis st 6 ((st.2 6) + 1)) fun s8 =>
      bif job a1 80 then none else
      jl (jag s8 2 a1) fun x10 =>
      bif job a1 80 then none else
      jl (jag s8 1 a1) fun x12 =>
      if x12 = 0 then
        (f_X6_succeed s8 a2).bind fun r14 =>
        some (r14.1, r14.2)
      else
      if x12 = 1 then
        jl (jis s8 5 1) fun s16 =>
        some (a2, s16)
      else
      if x12 = 2 then
        bif job a1 80 then none else
        (f_X6_lookAt s8 x10 (jag s8 3 a1) a2).bind fun r19 =>
        some (r19.1, r19.2)
      else
      if x12 = 3 then
        (f_X6_lookRule lk s8 x10 a2 a3).bind fun r21 =>
        jl (jis r21.2 5 0) fun s22 =>
        some (r21.1, s22)
      else
      if x12 = 4 then
        (lk s8 x10 a2 (a3 + 1)).bind fun r24 =>
        jl (r24.2.2 5) fun x25 =>
        if r24.1 = (-1) then
          (f_X6_miss r24.2 x25).bind fun r34 =>
          some (r34.1, r34.2)
        else
        bif job a1 80 then none else
        (lk r24.2 (jag r24.2 3 a1) r24.1 (a3 + 1)).bind fun r28 =>
        if (r28.2.2 5) = 0 then
          if x25 = 0 then
            jl (jis r28.2 5 0) fun s32 =>
            some (r28.1, s32)
          else
          jl (jis r28.2 5 1) fun s33 =>
          some (r28.1, s33)
        else
        jl (jis r28.2 5 1) fun s30 =>
        some (r28.1, s30)
      else
      if x12 = 5 then
        (lk s8 x10 a2 (a3 + 1)).bind fun r36 =>
        if r36.1 = (-1) then
          if (r36.2.2 5) = 0 then
            bif job a1 80 then none else
            (lk r36.2 (jag r36.2 3 a1) a2 (a3 + 1)).bind fun r42 =>
            jl (jis r42.2 5 0) fun s43 =>
            some (r42.1, s43)
          else
          jl (jis r36.2 5 0) fun s40 =>
          some (r36.1, s40)
        else
        jl (jis r36.2 5 0) fun s38 =>
        some (r36.1, s38)
      else
      if x12 = 6 then
        (f_X6_lookAgain lk s8 x10 a2 a3).bind fun r45 =>
        some (r45.1, r45.2)
      else
      if x12 = 7 then
        (lk s8 x10 a2 (a3 + 1)).bind fun r47 =>
        if r47.1 = (-1) then
          if (r47.2.2 5) = 0 then
            jl (jis r47.2 5 0) fun s52 =>
            some (a2, s52)
          else
          jl (jis r47.2 5 0) fun s51 =>
          some (r47.1, s51)
        else
        jl (jis r47.2 5 0) fun s49 =>
        some (r47.1, s49)
      else
      (lk s8 x10 a2 (a3 + 1)).bind fun r53 =>
      if r53.1 = (-1) then
        bif job a1 80 then none else
        if (jag r53.2 1 a1) = 8 then
          (f_X6_miss r53.2 0).bind fun r60 =>
          some (r60.1, r60.2)
        else
        (f_X6_succeed r53.2 a2).bind fun r58 =>
        some (r58.1, r58.2)
      else
      bif job a1 80 then none else
      if (jag r53.2 1 a1) = 8 then
        (f_X6_succeed r53.2 a2).bind fun r66 =>
        some (r66.1, r66.2)
      else
      (f_X6_miss r53.2 0).bind fun r64 =>
      some (r64.1, r64.2)
    else
    jl (jis st 4 1) fun s67 =>
    (f_X6_miss s67 0).bind fun r68 =>
    some (r68.1, r68.2)
  else
  jl (jis st 4 1) fun s2 =>
  (f_X6_miss s2 0).bind fun r3 =>
  some (r3.1, r3.2)
set_option maxHeartbeats 4000000 in
set_option maxRecDepth 100000 in
theorem c_X6_lookB {l : Launch} {D : va_G} {ad : Nat → Nat} {cI cZ : ClassId} {st : jS} {a1 : Int32} {a2 : Int32} {a3 : Int32} {o : (Int32 × jS)} {d : Nat} {lk : jS → Int32 → Int32 → Int32 → Option (Int32 × jS)} (hlk : ∀ (st : jS) (a b c : Int32) (r : Int32 × jS), lk st a b c = some r → CtI l D (jT cI cZ) (wM ad cI cZ) yX6_look wsX6_look (rmML d) [.ref (ad 0), .int a, .int b, .int c] st r.1 r.2) (h : f_X6_lookB lk st a1 a2 a3 = some o) : CtI l D (jT cI cZ) (wM ad cI cZ) yX6_look wsX6_look (rm_X6_lookB d) [.ref (ad 0), .int a1, .int a2, .int a3] st o.1 o.2 := by
  refine ctI_of (o := o) (cc := cX6_look) (nL := 7) (own := RX6) (by decide) rfl rfl (Nat.le_of_ble_eq_true rfl) (lv0 := [(0, .ref (ad 0)), (1, .int a1), (2, .int a2), (3, .int a3)]) rfl ?_
  intro p e s m args below meth c A E hr
  rw [f_X6_lookB] at h
  refine j_aload_n E 0 rfl rfl dX6_look_0 ?_
  refine j_get E 0 (wM_g0 ad cI cZ _) rfl 20 rfl in_X6_look_X6 (by decide) (List.mem_of_getElem? (i := 1) rfl) (fun _ h9 => h9) dX6_look_1 ?_
  refine j_if_ne E (tgt := 23) (by decide) dX6_look_4 (fun c1 => ?_) (fun c1 => ?_)
  · have h := jif h c1
    refine j_aload_n E 0 rfl rfl dX6_look_23 ?_
    refine j_iconst E (kc_1) dX6_look_24 ?_
    obtain ⟨s2, es2, h⟩ := jle h
    refine j_put E 0 (wM_g0 ad cI cZ _) rfl 20 (ty := .boolean) (wM_p0_20 ad cI cZ _ _) tyX6_ok nmX6 in_X6_look_X6 (by decide) (List.mem_of_getElem? (i := 1) rfl) (fun _ h9 => h9) rfl (tyX6_ok 20 (by decide)) rfl rfl (Nat.le_of_ble_eq_true rfl) dX6_look_25 ?_
    refine j_st es2 ?_
    refine j_aload_n E 0 rfl rfl dX6_look_28 ?_
    refine j_iconst E (kc_0) dX6_look_29 ?_
    obtain ⟨r3, er3, h⟩ := jbd h
    refine j_callVi E (As := [.int 0]) (c_X6_miss er3) (cwV 1 E.1.2.2.2.2 gX6_look_X6_miss rfl rfl rfl (by decide +kernel) ⟨rk1_rmML (d + 1) _ (Nat.le_of_ble_eq_true rfl), rk2_rmML (d + 1) _ (Nat.le_of_ble_eq_true rfl)⟩) (wM_g0 ad cI cZ _) rfl rfl rfl (Nat.le_of_ble_eq_true rfl) ⟨Nat.zero_le _, Nat.zero_le _⟩ dX6_look_30 ?_
    exact j_iret E hr rfl (Option.some.inj h) dX6_look_33
  · have h := jit h c1
    refine j_aload_n E 0 rfl rfl dX6_look_7 ?_
    refine j_get E 0 (wM_g0 ad cI cZ _) rfl 22 rfl in_X6_look_X6 (by decide) (List.mem_of_getElem? (i := 2) rfl) (fun _ h9 => h9) dX6_look_8 ?_
    refine j_sipush E (ks_5000) dX6_look_11 ?_
    refine j_icmp_eq E (tgt := 23) (by decide) dX6_look_14 (fun c4 => ?_) (fun c4 => ?_)
    · have h := jit h c4
      refine j_aload_n E 0 rfl rfl dX6_look_23 ?_
      refine j_iconst E (kc_1) dX6_look_24 ?_
      obtain ⟨s5, es5, h⟩ := jle h
      refine j_put E 0 (wM_g0 ad cI cZ _) rfl 20 (ty := .boolean) (wM_p0_20 ad cI cZ _ _) tyX6_ok nmX6 in_X6_look_X6 (by decide) (List.mem_of_getElem? (i := 1) rfl) (fun _ h9 => h9) rfl (tyX6_ok 20 (by decide)) rfl rfl (Nat.le_of_ble_eq_true rfl) dX6_look_25 ?_
      refine j_st es5 ?_
      refine j_aload_n E 0 rfl rfl dX6_look_28 ?_
      refine j_iconst E (kc_0) dX6_look_29 ?_
      obtain ⟨r6, er6, h⟩ := jbd h
      refine j_callVi E (As := [.int 0]) (c_X6_miss er6) (cwV 1 E.1.2.2.2.2 gX6_look_X6_miss rfl rfl rfl (by decide +kernel) ⟨rk1_rmML (d + 1) _ (Nat.le_of_ble_eq_true rfl), rk2_rmML (d + 1) _ (Nat.le_of_ble_eq_true rfl)⟩) (wM_g0 ad cI cZ _) rfl rfl rfl (Nat.le_of_ble_eq_true rfl) ⟨Nat.zero_le _, Nat.zero_le _⟩ dX6_look_30 ?_
      exact j_iret E hr rfl (Option.some.inj h) dX6_look_33
    · have h := jif h c4
      refine j_iload_n E 3 rfl rfl dX6_look_17 ?_
      refine j_bipush E (kb_100) dX6_look_18 ?_
      refine j_icmp_le E (tgt := 34) (by decide) dX6_look_20 (fun c7 => ?_) (fun c7 => ?_)
      · have h := jit h c7
        refine j_aload_n E 0 rfl rfl dX6_look_34 ?_
        refine j_dup E rfl dX6_look_35 ?_
        refine j_get E 0 (wM_g0 ad cI cZ _) rfl 22 rfl in_X6_look_X6 (by decide) (List.mem_of_getElem? (i := 2) rfl) (fun _ h9 => h9) dX6_look_36 ?_
        refine j_iconst E (kc_1) dX6_look_39 ?_
        refine j_iadd E dX6_look_40 ?_
        obtain ⟨s8, es8, h⟩ := jle h
        refine j_put E 0 (wM_g0 ad cI cZ _) rfl 22 (ty := .int) (wM_p0_22 ad cI cZ _ _) tyX6_ok nmX6 in_X6_look_X6 (by decide) (List.mem_of_getElem? (i := 2) rfl) (fun _ h9 => h9) rfl (tyX6_ok 22 (by decide)) rfl rfl (Nat.le_of_ble_eq_true rfl) dX6_look_41 ?_
        refine j_st es8 ?_
        refine j_aload_n E 0 rfl rfl dX6_look_44 ?_
        refine j_get E 0 (wM_g0 ad cI cZ _) rfl 3 rfl in_X6_look_X6 (by decide) (List.mem_of_getElem? (i := 3) rfl) (fun _ h9 => h9) dX6_look_45 ?_
        refine j_iload_n E 1 rfl rfl dX6_look_48 ?_
        obtain ⟨b9, h⟩ := job_else h
        refine j_iald E 2 0 (wM_g2 ad cI cZ _) rfl b9 dX6_look_49 ?_
        obtain ⟨x10, ex10, h⟩ := jle h
        refine j_topi ex10 ?_
        refine j_istore E (by decide) (lv' := [(4, .int x10), (0, .ref (ad 0)), (1, .int a1), (2, .int a2), (3, .int a3)]) rfl dX6_look_50 ?_
        refine j_aload_n E 1 rfl rfl dX6_look_52 ?_
        refine j_get E 0 (wM_g0 ad cI cZ _) rfl 2 rfl in_X6_look_X6 (by decide) (List.mem_of_getElem? (i := 4) rfl) (fun _ h9 => h9) dX6_look_53 ?_
        refine j_iload_n E 2 rfl rfl dX6_look_56 ?_
        obtain ⟨b11, h⟩ := job_else h
        refine j_iald E 1 0 (wM_g1 ad cI cZ _) rfl b11 dX6_look_57 ?_
        obtain ⟨x12, ex12, h⟩ := jle h
        refine j_topi ex12 ?_
        by_cases c13 : x12 = 0
        · have h := jit h c13
          refine j_tableIn E dX6_look_58 (by rw [c13]; decide) (by rw [c13]; decide) (by rw [c13]; rfl) (tgt := 104) (by decide) ?_
          refine j_aload_n E 1 rfl rfl dX6_look_104 ?_
          refine j_iload_n E 3 rfl rfl dX6_look_105 ?_
          obtain ⟨r14, er14, h⟩ := jbd h
          refine j_callVi E (As := [.int a2]) (c_X6_succeed er14) (cwV 1 E.1.2.2.2.2 gX6_look_X6_succeed rfl rfl rfl (by decide +kernel) ⟨rk1_rmML (d + 1) _ (Nat.le_of_ble_eq_true rfl), rk2_rmML (d + 1) _ (Nat.le_of_ble_eq_true rfl)⟩) (wM_g0 ad cI cZ _) rfl rfl rfl (Nat.le_of_ble_eq_true rfl) ⟨Nat.zero_le _, Nat.zero_le _⟩ dX6_look_106 ?_
          exact j_iret E hr rfl (Option.some.inj h) dX6_look_109
        have h := jif h c13
        by_cases c15 : x12 = 1
        · have h := jit h c15
          refine j_tableIn E dX6_look_58 (by rw [c15]; decide) (by rw [c15]; decide) (by rw [c15]; rfl) (tgt := 110) (by decide) ?_
          refine j_aload_n E 1 rfl rfl dX6_look_110 ?_
          refine j_iconst E (kc_1) dX6_look_111 ?_
          obtain ⟨s16, es16, h⟩ := jle h
          refine j_put E 0 (wM_g0 ad cI cZ _) rfl 21 (ty := .boolean) (wM_p0_21 ad cI cZ _ _) tyX6_ok nmX6 in_X6_look_X6 (by decide) (List.mem_of_getElem? (i := 5) rfl) (fun _ h9 => h9) rfl (tyX6_ok 21 (by decide)) rfl rfl (Nat.le_of_ble_eq_true rfl) dX6_look_112 ?_
          refine j_st es16 ?_
          refine j_iload_n E 3 rfl rfl dX6_look_115 ?_
          exact j_iret E hr rfl (Option.some.inj h) dX6_look_116
        have h := jif h c15
        by_cases c17 : x12 = 2
        · have h := jit h c17
          refine j_tableIn E dX6_look_58 (by rw [c17]; decide) (by rw [c17]; decide) (by rw [c17]; rfl) (tgt := 117) (by decide) ?_
          refine j_aload_n E 1 rfl rfl dX6_look_117 ?_
          refine j_iload E 0 rfl dX6_look_118 ?_
          refine j_aload_n E 1 rfl rfl dX6_look_120 ?_
          refine j_get E 0 (wM_g0 ad cI cZ _) rfl 4 rfl in_X6_look_X6 (by decide) (List.mem_of_getElem? (i := 6) rfl) (fun _ h9 => h9) dX6_look_121 ?_
          refine j_iload_n E 2 rfl rfl dX6_look_124 ?_
          obtain ⟨b18, h⟩ := job_else h
          refine j_iald E 3 0 (wM_g3 ad cI cZ _) rfl b18 dX6_look_125 ?_
          refine j_iload_n E 3 rfl rfl dX6_look_126 ?_
          obtain ⟨r19, er19, h⟩ := jbd h
          refine j_callVi E (As := [.int x10, .int (jag s8 3 a1), .int a2]) (c_X6_lookAt er19) (cwV 3 E.1.2.2.2.2 gX6_look_X6_lookAt rfl rfl rfl (by decide +kernel) ⟨rk1_rmML (d + 1) _ (Nat.le_of_ble_eq_true rfl), rk2_rmML (d + 1) _ (Nat.le_of_ble_eq_true rfl)⟩) (wM_g0 ad cI cZ _) rfl rfl rfl (Nat.le_of_ble_eq_true rfl) ⟨Nat.zero_le _, Nat.zero_le _⟩ dX6_look_127 ?_
          exact j_iret E hr rfl (Option.some.inj h) dX6_look_130
        have h := jif h c17
        by_cases c20 : x12 = 3
        · have h := jit h c20
          refine j_tableIn E dX6_look_58 (by rw [c20]; decide) (by rw [c20]; decide) (by rw [c20]; rfl) (tgt := 131) (by decide) ?_
          refine j_aload_n E 1 rfl rfl dX6_look_131 ?_
          refine j_iload E 0 rfl dX6_look_132 ?_
          refine j_iload_n E 3 rfl rfl dX6_look_134 ?_
          refine j_iload_n E 4 rfl rfl dX6_look_135 ?_
          obtain ⟨r21, er21, h⟩ := jbd h
          refine j_callVi E (As := [.int x10, .int a2, .int a3]) (c_X6_lookRule hlk er21) (cwV 3 E.1.2.2.2.2 gX6_look_X6_lookRule rfl rfl rfl (by decide +kernel) (rk_X6_look_X6_lookRule d)) (wM_g0 ad cI cZ _) rfl rfl rfl (Nat.le_of_ble_eq_true rfl) ⟨Nat.zero_le _, Nat.zero_le _⟩ dX6_look_136 ?_
          refine j_istore E (by decide) (lv' := [(5, .int r21.1), (4, .int x10), (0, .ref (ad 0)), (1, .int a1), (2, .int a2), (3, .int a3)]) rfl dX6_look_139 ?_
          refine j_aload_n E 2 rfl rfl dX6_look_141 ?_
          refine j_iconst E (kc_0) dX6_look_142 ?_
          obtain ⟨s22, es22, h⟩ := jle h
          refine j_put E 0 (wM_g0 ad cI cZ _) rfl 21 (ty := .boolean) (wM_p0_21 ad cI cZ _ _) tyX6_ok nmX6 in_X6_look_X6 (by decide) (List.mem_of_getElem? (i := 5) rfl) (fun _ h9 => h9) rfl (tyX6_ok 21 (by decide)) rfl rfl (Nat.le_of_ble_eq_true rfl) dX6_look_143 ?_
          refine j_st es22 ?_
          refine j_iload E 0 rfl dX6_look_146 ?_
          exact j_iret E hr rfl (Option.some.inj h) dX6_look_148
        have h := jif h c20
        by_cases c23 : x12 = 4
        · have h := jit h c23
          refine j_tableIn E dX6_look_58 (by rw [c23]; decide) (by rw [c23]; decide) (by rw [c23]; rfl) (tgt := 149) (by decide) ?_
          refine j_aload_n E 1 rfl rfl dX6_look_149 ?_
          refine j_iload E 0 rfl dX6_look_150 ?_
          refine j_iload_n E 3 rfl rfl dX6_look_152 ?_
          refine j_iload_n E 4 rfl rfl dX6_look_153 ?_
          refine j_iconst E (kc_1) dX6_look_154 ?_
          refine j_iadd E dX6_look_155 ?_
          obtain ⟨r24, er24, h⟩ := jbd h
          refine j_callVi E (As := [.int x10, .int a2, .int (a3 + 1)]) (hlk _ _ _ _ _ er24) (cwV 3 E.1.2.2.2.2 gX6_look_X6_look rfl rfl rfl (by decide +kernel) (rk_X6_look_X6_look d)) (wM_g0 ad cI cZ _) rfl rfl rfl (Nat.le_of_ble_eq_true rfl) ⟨Nat.zero_le _, Nat.zero_le _⟩ dX6_look_156 ?_
          refine j_istore E (by decide) (lv' := [(5, .int r24.1), (4, .int x10), (0, .ref (ad 0)), (1, .int a1), (2, .int a2), (3, .int a3)]) rfl dX6_look_159 ?_
          refine j_aload_n E 2 rfl rfl dX6_look_161 ?_
          refine j_get E 0 (wM_g0 ad cI cZ _) rfl 21 rfl in_X6_look_X6 (by decide) (List.mem_of_getElem? (i := 5) rfl) (fun _ h9 => h9) dX6_look_162 ?_
          obtain ⟨x25, ex25, h⟩ := jle h
          refine j_topi ex25 ?_
          refine j_istore E (by decide) (lv' := [(6, .int x25), (5, .int r24.1), (4, .int x10), (0, .ref (ad 0)), (1, .int a1), (2, .int a2), (3, .int a3)]) rfl dX6_look_165 ?_
          refine j_iload E 1 rfl dX6_look_167 ?_
          refine j_iconst E (kc_m1) dX6_look_169 ?_
          refine j_icmp_ne E (tgt := 180) (by decide) dX6_look_170 (fun c26 => ?_) (fun c26 => ?_)
          · have h := jif h c26
            refine j_aload_n E 3 rfl rfl dX6_look_180 ?_
            refine j_aload_n E 3 rfl rfl dX6_look_181 ?_
            refine j_get E 0 (wM_g0 ad cI cZ _) rfl 4 rfl in_X6_look_X6 (by decide) (List.mem_of_getElem? (i := 6) rfl) (fun _ h9 => h9) dX6_look_182 ?_
            refine j_iload_n E 4 rfl rfl dX6_look_185 ?_
            obtain ⟨b27, h⟩ := job_else h
            refine j_iald E 3 0 (wM_g3 ad cI cZ _) rfl b27 dX6_look_186 ?_
            refine j_iload E 1 rfl dX6_look_187 ?_
            refine j_iload_n E 6 rfl rfl dX6_look_189 ?_
            refine j_iconst E (kc_1) dX6_look_190 ?_
            refine j_iadd E dX6_look_191 ?_
            obtain ⟨r28, er28, h⟩ := jbd h
            refine j_callVi E (As := [.int (jag r24.2 3 a1), .int r24.1, .int (a3 + 1)]) (hlk _ _ _ _ _ er28) (cwV 3 E.1.2.2.2.2 gX6_look_X6_look rfl rfl rfl (by decide +kernel) (rk_X6_look_X6_look d)) (wM_g0 ad cI cZ _) rfl rfl rfl (Nat.le_of_ble_eq_true rfl) ⟨Nat.zero_le _, Nat.zero_le _⟩ dX6_look_192 ?_
            refine j_istore E (by decide) (lv' := [(5, .int r28.1), (6, .int x25), (4, .int x10), (0, .ref (ad 0)), (1, .int a1), (2, .int a2), (3, .int a3)]) rfl dX6_look_195 ?_
            refine j_aload_n E 3 rfl rfl dX6_look_197 ?_
            refine j_aload_n E 3 rfl rfl dX6_look_198 ?_
            refine j_get E 0 (wM_g0 ad cI cZ _) rfl 21 rfl in_X6_look_X6 (by decide) (List.mem_of_getElem? (i := 5) rfl) (fun _ h9 => h9) dX6_look_199 ?_
            refine j_if_ne E (tgt := 210) (by decide) dX6_look_202 (fun c29 => ?_) (fun c29 => ?_)
            · have h := jif h c29
              refine j_iconst E (kc_1) dX6_look_210 ?_
              refine j_goto E (tgt := 215) (by decide) dX6_look_211 ?_
              obtain ⟨s30, es30, h⟩ := jle h
              refine j_put E 0 (wM_g0 ad cI cZ _) rfl 21 (ty := .boolean) (wM_p0_21 ad cI cZ _ _) tyX6_ok nmX6 in_X6_look_X6 (by decide) (List.mem_of_getElem? (i := 5) rfl) (fun _ h9 => h9) rfl (tyX6_ok 21 (by decide)) rfl rfl (Nat.le_of_ble_eq_true rfl) dX6_look_215 ?_
              refine j_st es30 ?_
              refine j_iload E 0 rfl dX6_look_218 ?_
              exact j_iret E hr rfl (Option.some.inj h) dX6_look_220
            · have h := jit h c29
              refine j_iload E 1 rfl dX6_look_205 ?_
              refine j_if_eq E (tgt := 214) (by decide) dX6_look_207 (fun c31 => ?_) (fun c31 => ?_)
              · have h := jit h c31
                refine j_iconst E (kc_0) dX6_look_214 ?_
                obtain ⟨s32, es32, h⟩ := jle h
                refine j_put E 0 (wM_g0 ad cI cZ _) rfl 21 (ty := .boolean) (wM_p0_21 ad cI cZ _ _) tyX6_ok nmX6 in_X6_look_X6 (by decide) (List.mem_of_getElem? (i := 5) rfl) (fun _ h9 => h9) rfl (tyX6_ok 21 (by decide)) rfl rfl (Nat.le_of_ble_eq_true rfl) dX6_look_215 ?_
                refine j_st es32 ?_
                refine j_iload E 0 rfl dX6_look_218 ?_
                exact j_iret E hr rfl (Option.some.inj h) dX6_look_220
              · have h := jif h c31
                refine j_iconst E (kc_1) dX6_look_210 ?_
                refine j_goto E (tgt := 215) (by decide) dX6_look_211 ?_
                obtain ⟨s33, es33, h⟩ := jle h
                refine j_put E 0 (wM_g0 ad cI cZ _) rfl 21 (ty := .boolean) (wM_p0_21 ad cI cZ _ _) tyX6_ok nmX6 in_X6_look_X6 (by decide) (List.mem_of_getElem? (i := 5) rfl) (fun _ h9 => h9) rfl (tyX6_ok 21 (by decide)) rfl rfl (Nat.le_of_ble_eq_true rfl) dX6_look_215 ?_
                refine j_st es33 ?_
                refine j_iload E 0 rfl dX6_look_218 ?_
                exact j_iret E hr rfl (Option.some.inj h) dX6_look_220
          · have h := jit h c26
            refine j_aload_n E 3 rfl rfl dX6_look_173 ?_
            refine j_iload E 0 rfl dX6_look_174 ?_
            obtain ⟨r34, er34, h⟩ := jbd h
            refine j_callVi E (As := [.int x25]) (c_X6_miss er34) (cwV 1 E.1.2.2.2.2 gX6_look_X6_miss rfl rfl rfl (by decide +kernel) ⟨rk1_rmML (d + 1) _ (Nat.le_of_ble_eq_true rfl), rk2_rmML (d + 1) _ (Nat.le_of_ble_eq_true rfl)⟩) (wM_g0 ad cI cZ _) rfl rfl rfl (Nat.le_of_ble_eq_true rfl) ⟨Nat.zero_le _, Nat.zero_le _⟩ dX6_look_176 ?_
            exact j_iret E hr rfl (Option.some.inj h) dX6_look_179
        have h := jif h c23
        by_cases c35 : x12 = 5
        · have h := jit h c35
          refine j_tableIn E dX6_look_58 (by rw [c35]; decide) (by rw [c35]; decide) (by rw [c35]; rfl) (tgt := 221) (by decide) ?_
          refine j_aload_n E 1 rfl rfl dX6_look_221 ?_
          refine j_iload E 0 rfl dX6_look_222 ?_
          refine j_iload_n E 3 rfl rfl dX6_look_224 ?_
          refine j_iload_n E 4 rfl rfl dX6_look_225 ?_
          refine j_iconst E (kc_1) dX6_look_226 ?_
          refine j_iadd E dX6_look_227 ?_
          obtain ⟨r36, er36, h⟩ := jbd h
          refine j_callVi E (As := [.int x10, .int a2, .int (a3 + 1)]) (hlk _ _ _ _ _ er36) (cwV 3 E.1.2.2.2.2 gX6_look_X6_look rfl rfl rfl (by decide +kernel) (rk_X6_look_X6_look d)) (wM_g0 ad cI cZ _) rfl rfl rfl (Nat.le_of_ble_eq_true rfl) ⟨Nat.zero_le _, Nat.zero_le _⟩ dX6_look_228 ?_
          refine j_istore E (by decide) (lv' := [(5, .int r36.1), (4, .int x10), (0, .ref (ad 0)), (1, .int a1), (2, .int a2), (3, .int a3)]) rfl dX6_look_231 ?_
          refine j_iload E 0 rfl dX6_look_233 ?_
          refine j_iconst E (kc_m1) dX6_look_235 ?_
          refine j_icmp_ne E (tgt := 262) (by decide) dX6_look_236 (fun c37 => ?_) (fun c37 => ?_)
          · have h := jif h c37
            refine j_aload_n E 2 rfl rfl dX6_look_262 ?_
            refine j_iconst E (kc_0) dX6_look_263 ?_
            obtain ⟨s38, es38, h⟩ := jle h
            refine j_put E 0 (wM_g0 ad cI cZ _) rfl 21 (ty := .boolean) (wM_p0_21 ad cI cZ _ _) tyX6_ok nmX6 in_X6_look_X6 (by decide) (List.mem_of_getElem? (i := 5) rfl) (fun _ h9 => h9) rfl (tyX6_ok 21 (by decide)) rfl rfl (Nat.le_of_ble_eq_true rfl) dX6_look_264 ?_
            refine j_st es38 ?_
            refine j_iload E 0 rfl dX6_look_267 ?_
            exact j_iret E hr rfl (Option.some.inj h) dX6_look_269
          · have h := jit h c37
            refine j_aload_n E 2 rfl rfl dX6_look_239 ?_
            refine j_get E 0 (wM_g0 ad cI cZ _) rfl 21 rfl in_X6_look_X6 (by decide) (List.mem_of_getElem? (i := 5) rfl) (fun _ h9 => h9) dX6_look_240 ?_
            refine j_if_ne E (tgt := 262) (by decide) dX6_look_243 (fun c39 => ?_) (fun c39 => ?_)
            · have h := jif h c39
              refine j_aload_n E 2 rfl rfl dX6_look_262 ?_
              refine j_iconst E (kc_0) dX6_look_263 ?_
              obtain ⟨s40, es40, h⟩ := jle h
              refine j_put E 0 (wM_g0 ad cI cZ _) rfl 21 (ty := .boolean) (wM_p0_21 ad cI cZ _ _) tyX6_ok nmX6 in_X6_look_X6 (by decide) (List.mem_of_getElem? (i := 5) rfl) (fun _ h9 => h9) rfl (tyX6_ok 21 (by decide)) rfl rfl (Nat.le_of_ble_eq_true rfl) dX6_look_264 ?_
              refine j_st es40 ?_
              refine j_iload E 0 rfl dX6_look_267 ?_
              exact j_iret E hr rfl (Option.some.inj h) dX6_look_269
            · have h := jit h c39
              refine j_aload_n E 2 rfl rfl dX6_look_246 ?_
              refine j_aload_n E 2 rfl rfl dX6_look_247 ?_
              refine j_get E 0 (wM_g0 ad cI cZ _) rfl 4 rfl in_X6_look_X6 (by decide) (List.mem_of_getElem? (i := 6) rfl) (fun _ h9 => h9) dX6_look_248 ?_
              refine j_iload_n E 3 rfl rfl dX6_look_251 ?_
              obtain ⟨b41, h⟩ := job_else h
              refine j_iald E 3 0 (wM_g3 ad cI cZ _) rfl b41 dX6_look_252 ?_
              refine j_iload_n E 4 rfl rfl dX6_look_253 ?_
              refine j_iload_n E 5 rfl rfl dX6_look_254 ?_
              refine j_iconst E (kc_1) dX6_look_255 ?_
              refine j_iadd E dX6_look_256 ?_
              obtain ⟨r42, er42, h⟩ := jbd h
              refine j_callVi E (As := [.int (jag r36.2 3 a1), .int a2, .int (a3 + 1)]) (hlk _ _ _ _ _ er42) (cwV 3 E.1.2.2.2.2 gX6_look_X6_look rfl rfl rfl (by decide +kernel) (rk_X6_look_X6_look d)) (wM_g0 ad cI cZ _) rfl rfl rfl (Nat.le_of_ble_eq_true rfl) ⟨Nat.zero_le _, Nat.zero_le _⟩ dX6_look_257 ?_
              refine j_istore E (by decide) (lv' := [(5, .int r42.1), (4, .int x10), (0, .ref (ad 0)), (1, .int a1), (2, .int a2), (3, .int a3)]) rfl dX6_look_260 ?_
              refine j_aload_n E 2 rfl rfl dX6_look_262 ?_
              refine j_iconst E (kc_0) dX6_look_263 ?_
              obtain ⟨s43, es43, h⟩ := jle h
              refine j_put E 0 (wM_g0 ad cI cZ _) rfl 21 (ty := .boolean) (wM_p0_21 ad cI cZ _ _) tyX6_ok nmX6 in_X6_look_X6 (by decide) (List.mem_of_getElem? (i := 5) rfl) (fun _ h9 => h9) rfl (tyX6_ok 21 (by decide)) rfl rfl (Nat.le_of_ble_eq_true rfl) dX6_look_264 ?_
              refine j_st es43 ?_
              refine j_iload E 0 rfl dX6_look_267 ?_
              exact j_iret E hr rfl (Option.some.inj h) dX6_look_269
        have h := jif h c35
        by_cases c44 : x12 = 6
        · have h := jit h c44
          refine j_tableIn E dX6_look_58 (by rw [c44]; decide) (by rw [c44]; decide) (by rw [c44]; rfl) (tgt := 270) (by decide) ?_
          refine j_aload_n E 1 rfl rfl dX6_look_270 ?_
          refine j_iload E 0 rfl dX6_look_271 ?_
          refine j_iload_n E 3 rfl rfl dX6_look_273 ?_
          refine j_iload_n E 4 rfl rfl dX6_look_274 ?_
          obtain ⟨r45, er45, h⟩ := jbd h
          refine j_callVi E (As := [.int x10, .int a2, .int a3]) (c_X6_lookAgain hlk er45) (cwV 3 E.1.2.2.2.2 gX6_look_X6_lookAgain rfl rfl rfl (by decide +kernel) (rk_X6_look_X6_lookAgain d)) (wM_g0 ad cI cZ _) rfl rfl rfl (Nat.le_of_ble_eq_true rfl) ⟨Nat.zero_le _, Nat.zero_le _⟩ dX6_look_275 ?_
          exact j_iret E hr rfl (Option.some.inj h) dX6_look_278
        have h := jif h c44
        by_cases c46 : x12 = 7
        · have h := jit h c46
          refine j_tableIn E dX6_look_58 (by rw [c46]; decide) (by rw [c46]; decide) (by rw [c46]; rfl) (tgt := 279) (by decide) ?_
          refine j_aload_n E 1 rfl rfl dX6_look_279 ?_
          refine j_iload E 0 rfl dX6_look_280 ?_
          refine j_iload_n E 3 rfl rfl dX6_look_282 ?_
          refine j_iload_n E 4 rfl rfl dX6_look_283 ?_
          refine j_iconst E (kc_1) dX6_look_284 ?_
          refine j_iadd E dX6_look_285 ?_
          obtain ⟨r47, er47, h⟩ := jbd h
          refine j_callVi E (As := [.int x10, .int a2, .int (a3 + 1)]) (hlk _ _ _ _ _ er47) (cwV 3 E.1.2.2.2.2 gX6_look_X6_look rfl rfl rfl (by decide +kernel) (rk_X6_look_X6_look d)) (wM_g0 ad cI cZ _) rfl rfl rfl (Nat.le_of_ble_eq_true rfl) ⟨Nat.zero_le _, Nat.zero_le _⟩ dX6_look_286 ?_
          refine j_istore E (by decide) (lv' := [(5, .int r47.1), (4, .int x10), (0, .ref (ad 0)), (1, .int a1), (2, .int a2), (3, .int a3)]) rfl dX6_look_289 ?_
          refine j_iload E 0 rfl dX6_look_291 ?_
          refine j_iconst E (kc_m1) dX6_look_293 ?_
          refine j_icmp_ne E (tgt := 307) (by decide) dX6_look_294 (fun c48 => ?_) (fun c48 => ?_)
          · have h := jif h c48
            refine j_aload_n E 2 rfl rfl dX6_look_307 ?_
            refine j_iconst E (kc_0) dX6_look_308 ?_
            obtain ⟨s49, es49, h⟩ := jle h
            refine j_put E 0 (wM_g0 ad cI cZ _) rfl 21 (ty := .boolean) (wM_p0_21 ad cI cZ _ _) tyX6_ok nmX6 in_X6_look_X6 (by decide) (List.mem_of_getElem? (i := 5) rfl) (fun _ h9 => h9) rfl (tyX6_ok 21 (by decide)) rfl rfl (Nat.le_of_ble_eq_true rfl) dX6_look_309 ?_
            refine j_st es49 ?_
            refine j_iload E 0 rfl dX6_look_312 ?_
            exact j_iret E hr rfl (Option.some.inj h) dX6_look_314
          · have h := jit h c48
            refine j_aload_n E 2 rfl rfl dX6_look_297 ?_
            refine j_get E 0 (wM_g0 ad cI cZ _) rfl 21 rfl in_X6_look_X6 (by decide) (List.mem_of_getElem? (i := 5) rfl) (fun _ h9 => h9) dX6_look_298 ?_
            refine j_if_ne E (tgt := 307) (by decide) dX6_look_301 (fun c50 => ?_) (fun c50 => ?_)
            · have h := jif h c50
              refine j_aload_n E 2 rfl rfl dX6_look_307 ?_
              refine j_iconst E (kc_0) dX6_look_308 ?_
              obtain ⟨s51, es51, h⟩ := jle h
              refine j_put E 0 (wM_g0 ad cI cZ _) rfl 21 (ty := .boolean) (wM_p0_21 ad cI cZ _ _) tyX6_ok nmX6 in_X6_look_X6 (by decide) (List.mem_of_getElem? (i := 5) rfl) (fun _ h9 => h9) rfl (tyX6_ok 21 (by decide)) rfl rfl (Nat.le_of_ble_eq_true rfl) dX6_look_309 ?_
              refine j_st es51 ?_
              refine j_iload E 0 rfl dX6_look_312 ?_
              exact j_iret E hr rfl (Option.some.inj h) dX6_look_314
            · have h := jit h c50
              refine j_iload_n E 4 rfl rfl dX6_look_304 ?_
              refine j_istore E (by decide) (lv' := [(5, .int a2), (4, .int x10), (0, .ref (ad 0)), (1, .int a1), (2, .int a2), (3, .int a3)]) rfl dX6_look_305 ?_
              refine j_aload_n E 2 rfl rfl dX6_look_307 ?_
              refine j_iconst E (kc_0) dX6_look_308 ?_
              obtain ⟨s52, es52, h⟩ := jle h
              refine j_put E 0 (wM_g0 ad cI cZ _) rfl 21 (ty := .boolean) (wM_p0_21 ad cI cZ _ _) tyX6_ok nmX6 in_X6_look_X6 (by decide) (List.mem_of_getElem? (i := 5) rfl) (fun _ h9 => h9) rfl (tyX6_ok 21 (by decide)) rfl rfl (Nat.le_of_ble_eq_true rfl) dX6_look_309 ?_
              refine j_st es52 ?_
              refine j_iload E 0 rfl dX6_look_312 ?_
              exact j_iret E hr rfl (Option.some.inj h) dX6_look_314
        have h := jif h c46
        refine j_tableOut E dX6_look_58 (jOut0_7 c13 c15 c17 c20 c23 c35 c44 c46) (tgt := 315) (by decide) ?_
        refine j_aload_n E 1 rfl rfl dX6_look_315 ?_
        refine j_iload E 0 rfl dX6_look_316 ?_
        refine j_iload_n E 3 rfl rfl dX6_look_318 ?_
        refine j_iload_n E 4 rfl rfl dX6_look_319 ?_
        refine j_iconst E (kc_1) dX6_look_320 ?_
        refine j_iadd E dX6_look_321 ?_
        obtain ⟨r53, er53, h⟩ := jbd h
        refine j_callVi E (As := [.int x10, .int a2, .int (a3 + 1)]) (hlk _ _ _ _ _ er53) (cwV 3 E.1.2.2.2.2 gX6_look_X6_look rfl rfl rfl (by decide +kernel) (rk_X6_look_X6_look d)) (wM_g0 ad cI cZ _) rfl rfl rfl (Nat.le_of_ble_eq_true rfl) ⟨Nat.zero_le _, Nat.zero_le _⟩ dX6_look_322 ?_
        refine j_istore E (by decide) (lv' := [(5, .int r53.1), (4, .int x10), (0, .ref (ad 0)), (1, .int a1), (2, .int a2), (3, .int a3)]) rfl dX6_look_325 ?_
        refine j_iload E 0 rfl dX6_look_327 ?_
        refine j_iconst E (kc_m1) dX6_look_329 ?_
        refine j_icmp_eq E (tgt := 337) (by decide) dX6_look_330 (fun c54 => ?_) (fun c54 => ?_)
        · have h := jit h c54
          refine j_iconst E (kc_0) dX6_look_337 ?_
          refine j_aload_n E 2 rfl rfl dX6_look_338 ?_
          refine j_get E 0 (wM_g0 ad cI cZ _) rfl 2 rfl in_X6_look_X6 (by decide) (List.mem_of_getElem? (i := 4) rfl) (fun _ h9 => h9) dX6_look_339 ?_
          refine j_iload_n E 3 rfl rfl dX6_look_342 ?_
          obtain ⟨b55, h⟩ := job_else h
          refine j_iald E 1 0 (wM_g1 ad cI cZ _) rfl b55 dX6_look_343 ?_
          refine j_bipush E (kb_8) dX6_look_344 ?_
          refine j_icmp_ne E (tgt := 353) (by decide) dX6_look_346 (fun c56 => ?_) (fun c56 => ?_)
          · have h := jif h c56
            refine j_iconst E (kc_0) dX6_look_353 ?_
            refine j_icmp_ne E (tgt := 365) (by decide) dX6_look_354 (fun c57 => absurd c57 (by decide)) (fun c57 => ?_)
            refine j_aload_n E 2 rfl rfl dX6_look_357 ?_
            refine j_iload_n E 4 rfl rfl dX6_look_358 ?_
            obtain ⟨r58, er58, h⟩ := jbd h
            refine j_callVi E (As := [.int a2]) (c_X6_succeed er58) (cwV 1 E.1.2.2.2.2 gX6_look_X6_succeed rfl rfl rfl (by decide +kernel) ⟨rk1_rmML (d + 1) _ (Nat.le_of_ble_eq_true rfl), rk2_rmML (d + 1) _ (Nat.le_of_ble_eq_true rfl)⟩) (wM_g0 ad cI cZ _) rfl rfl rfl (Nat.le_of_ble_eq_true rfl) ⟨Nat.zero_le _, Nat.zero_le _⟩ dX6_look_359 ?_
            refine j_goto E (tgt := 370) (by decide) dX6_look_362 ?_
            exact j_iret E hr rfl (Option.some.inj h) dX6_look_370
          · have h := jit h c56
            refine j_iconst E (kc_1) dX6_look_349 ?_
            refine j_goto E (tgt := 354) (by decide) dX6_look_350 ?_
            refine j_icmp_ne E (tgt := 365) (by decide) dX6_look_354 (fun c59 => ?_) (fun c59 => absurd c59 (by decide))
            refine j_aload_n E 2 rfl rfl dX6_look_365 ?_
            refine j_iconst E (kc_0) dX6_look_366 ?_
            obtain ⟨r60, er60, h⟩ := jbd h
            refine j_callVi E (As := [.int 0]) (c_X6_miss er60) (cwV 1 E.1.2.2.2.2 gX6_look_X6_miss rfl rfl rfl (by decide +kernel) ⟨rk1_rmML (d + 1) _ (Nat.le_of_ble_eq_true rfl), rk2_rmML (d + 1) _ (Nat.le_of_ble_eq_true rfl)⟩) (wM_g0 ad cI cZ _) rfl rfl rfl (Nat.le_of_ble_eq_true rfl) ⟨Nat.zero_le _, Nat.zero_le _⟩ dX6_look_367 ?_
            exact j_iret E hr rfl (Option.some.inj h) dX6_look_370
        · have h := jif h c54
          refine j_iconst E (kc_1) dX6_look_333 ?_
          refine j_goto E (tgt := 338) (by decide) dX6_look_334 ?_
          refine j_aload_n E 2 rfl rfl dX6_look_338 ?_
          refine j_get E 0 (wM_g0 ad cI cZ _) rfl 2 rfl in_X6_look_X6 (by decide) (List.mem_of_getElem? (i := 4) rfl) (fun _ h9 => h9) dX6_look_339 ?_
          refine j_iload_n E 3 rfl rfl dX6_look_342 ?_
          obtain ⟨b61, h⟩ := job_else h
          refine j_iald E 1 0 (wM_g1 ad cI cZ _) rfl b61 dX6_look_343 ?_
          refine j_bipush E (kb_8) dX6_look_344 ?_
          refine j_icmp_ne E (tgt := 353) (by decide) dX6_look_346 (fun c62 => ?_) (fun c62 => ?_)
          · have h := jif h c62
            refine j_iconst E (kc_0) dX6_look_353 ?_
            refine j_icmp_ne E (tgt := 365) (by decide) dX6_look_354 (fun c63 => ?_) (fun c63 => absurd c63 (by decide))
            refine j_aload_n E 2 rfl rfl dX6_look_365 ?_
            refine j_iconst E (kc_0) dX6_look_366 ?_
            obtain ⟨r64, er64, h⟩ := jbd h
            refine j_callVi E (As := [.int 0]) (c_X6_miss er64) (cwV 1 E.1.2.2.2.2 gX6_look_X6_miss rfl rfl rfl (by decide +kernel) ⟨rk1_rmML (d + 1) _ (Nat.le_of_ble_eq_true rfl), rk2_rmML (d + 1) _ (Nat.le_of_ble_eq_true rfl)⟩) (wM_g0 ad cI cZ _) rfl rfl rfl (Nat.le_of_ble_eq_true rfl) ⟨Nat.zero_le _, Nat.zero_le _⟩ dX6_look_367 ?_
            exact j_iret E hr rfl (Option.some.inj h) dX6_look_370
          · have h := jit h c62
            refine j_iconst E (kc_1) dX6_look_349 ?_
            refine j_goto E (tgt := 354) (by decide) dX6_look_350 ?_
            refine j_icmp_ne E (tgt := 365) (by decide) dX6_look_354 (fun c65 => absurd c65 (by decide)) (fun c65 => ?_)
            refine j_aload_n E 2 rfl rfl dX6_look_357 ?_
            refine j_iload_n E 4 rfl rfl dX6_look_358 ?_
            obtain ⟨r66, er66, h⟩ := jbd h
            refine j_callVi E (As := [.int a2]) (c_X6_succeed er66) (cwV 1 E.1.2.2.2.2 gX6_look_X6_succeed rfl rfl rfl (by decide +kernel) ⟨rk1_rmML (d + 1) _ (Nat.le_of_ble_eq_true rfl), rk2_rmML (d + 1) _ (Nat.le_of_ble_eq_true rfl)⟩) (wM_g0 ad cI cZ _) rfl rfl rfl (Nat.le_of_ble_eq_true rfl) ⟨Nat.zero_le _, Nat.zero_le _⟩ dX6_look_359 ?_
            refine j_goto E (tgt := 370) (by decide) dX6_look_362 ?_
            exact j_iret E hr rfl (Option.some.inj h) dX6_look_370
      · have h := jif h c7
        refine j_aload_n E 0 rfl rfl dX6_look_23 ?_
        refine j_iconst E (kc_1) dX6_look_24 ?_
        obtain ⟨s67, es67, h⟩ := jle h
        refine j_put E 0 (wM_g0 ad cI cZ _) rfl 20 (ty := .boolean) (wM_p0_20 ad cI cZ _ _) tyX6_ok nmX6 in_X6_look_X6 (by decide) (List.mem_of_getElem? (i := 1) rfl) (fun _ h9 => h9) rfl (tyX6_ok 20 (by decide)) rfl rfl (Nat.le_of_ble_eq_true rfl) dX6_look_25 ?_
        refine j_st es67 ?_
        refine j_aload_n E 0 rfl rfl dX6_look_28 ?_
        refine j_iconst E (kc_0) dX6_look_29 ?_
        obtain ⟨r68, er68, h⟩ := jbd h
        refine j_callVi E (As := [.int 0]) (c_X6_miss er68) (cwV 1 E.1.2.2.2.2 gX6_look_X6_miss rfl rfl rfl (by decide +kernel) ⟨rk1_rmML (d + 1) _ (Nat.le_of_ble_eq_true rfl), rk2_rmML (d + 1) _ (Nat.le_of_ble_eq_true rfl)⟩) (wM_g0 ad cI cZ _) rfl rfl rfl (Nat.le_of_ble_eq_true rfl) ⟨Nat.zero_le _, Nat.zero_le _⟩ dX6_look_30 ?_
        exact j_iret E hr rfl (Option.some.inj h) dX6_look_33
def f_X6_look : Nat → jS → Int32 → Int32 → Int32 → Option (Int32 × jS)
  | 0, _, _, _, _ => none
  | d + 1, st, a, b, c => f_X6_lookB (f_X6_look d) st a b c
theorem c_X6_look {l : Launch} {D : va_G} {ad : Nat → Nat} {cI cZ : ClassId} : ∀ (d : Nat) (st : jS) (a b c : Int32) (r : Int32 × jS), f_X6_look d st a b c = some r → CtI l D (jT cI cZ) (wM ad cI cZ) yX6_look wsX6_look (rmML d) [.ref (ad 0), .int a, .int b, .int c] st r.1 r.2 := by
  intro d
  induction d with
  | zero => intro st a b c r h; cases h
  | succ d ih =>
    intro st a b c r h
    rw [f_X6_look] at h
    exact c_X6_lookB ih h
abbrev rm_X6_parse (d : Nat) : Room := rmMG d
theorem in_X6_parse_X6 : ∀ w ∈ u_ws RX6 TX6 29, w ∈ wsX6_parse := fun w h => (List.mem_cons_of_mem _ (List.mem_append_right _ h))
theorem rk_X6_parse_X6_lookRule (d : Nat) : (rm_X6_lookRule d).frames + 1 ≤ (rm_X6_parse d).frames ∧ 8 + (7 + 11) + (rm_X6_lookRule d).locals ≤ (rm_X6_parse d).locals := ⟨by simp only [rm_X6_parse, rm_X6_lookRule, rmML, rmMF, rmMG]; omega, by simp only [rm_X6_parse, rm_X6_lookRule, rmML, rmMF, rmMG]; omega⟩
def f_X6_parse (lk : jS → Int32 → Int32 → Int32 → Option (Int32 × jS)) (st : jS) (a1 : Int32) (a2 : Int32) : Option (Int32 × jS) :=
  jl (jis st 0 0) fun s1 =>
  (f_X6_isRule a1).bind fun r2 =>
  if r2 = 0 then
    (f_X6_fail s1 1).bind fun r4 =>
    some (r4.1, r4.2)
  else
  (f_X6_isPlace s1 a2).bind fun r5 =>
  if r5.1 = 0 then
    (f_X6_fail r5.2 1).bind fun r16 =>
    some (r16.1, r16.2)
  else
  jl (jis r5.2 6 0) fun s7 =>
  jl (jis s7 7 0) fun s8 =>
  jl (jis s8 8 0) fun s9 =>
  jl (jis s9 9 (-1)) fun s10 =>
  jl (jis s10 4 0) fun s11 =>
  jl (jis s11 3 0) fun s12 =>
  (f_X6_lookRule lk s12 a1 a2 0).bind fun r13 =>
  if (r13.2.2 4) = 0 then
    some (r13.1, r13.2)
  else
  (f_X6_forgetAll r13.2).bind fun r15 =>
  some ((-2), r15.2)
set_option maxHeartbeats 4000000 in
set_option maxRecDepth 100000 in
theorem c_X6_parse {l : Launch} {D : va_G} {ad : Nat → Nat} {cI cZ : ClassId} {st : jS} {a1 : Int32} {a2 : Int32} {o : (Int32 × jS)} {d : Nat} {lk : jS → Int32 → Int32 → Int32 → Option (Int32 × jS)} (hlk : ∀ (st : jS) (a b c : Int32) (r : Int32 × jS), lk st a b c = some r → CtI l D (jT cI cZ) (wM ad cI cZ) yX6_look wsX6_look (rmML d) [.ref (ad 0), .int a, .int b, .int c] st r.1 r.2) (h : f_X6_parse lk st a1 a2 = some o) : CtI l D (jT cI cZ) (wM ad cI cZ) yX6_parse wsX6_parse (rm_X6_parse d) [.ref (ad 0), .int a1, .int a2] st o.1 o.2 := by
  refine ctI_of (o := o) (cc := cX6_parse) (nL := 4) (own := RX6) (by decide) rfl rfl (Nat.le_of_ble_eq_true rfl) (lv0 := [(0, .ref (ad 0)), (1, .int a1), (2, .int a2)]) rfl ?_
  intro p e s m args below meth c A E hr
  rw [f_X6_parse] at h
  refine j_aload_n E 0 rfl rfl dX6_parse_0 ?_
  refine j_iconst E (kc_0) dX6_parse_1 ?_
  obtain ⟨s1, es1, h⟩ := jle h
  refine j_put E 0 (wM_g0 ad cI cZ _) rfl 0 (ty := .int) (wM_p0_0 ad cI cZ _ _) tyX6_ok nmX6 in_X6_parse_X6 (by decide) (List.mem_of_getElem? (i := 1) rfl) (fun _ h9 => h9) rfl (tyX6_ok 0 (by decide)) rfl rfl (Nat.le_of_ble_eq_true rfl) dX6_parse_2 ?_
  refine j_st es1 ?_
  refine j_iload_n E 1 rfl rfl dX6_parse_5 ?_
  obtain ⟨r2, er2, h⟩ := jbd h
  refine j_callSi E (As := [.int a1]) (c_X6_isRule er2) (va_cwS 1 E.1.2.2.2.2 gX6_parse_X6_isRule rfl rfl rfl (by decide +kernel) ⟨rk1_rmMG d _ (Nat.le_of_ble_eq_true rfl), rk2_rmMG d _ (Nat.le_of_ble_eq_true rfl)⟩) rfl rfl (Nat.le_of_ble_eq_true rfl) ⟨Nat.zero_le _, Nat.zero_le _⟩ dX6_parse_6 ?_
  refine j_if_eq E (tgt := 20) (by decide) dX6_parse_9 (fun c3 => ?_) (fun c3 => ?_)
  · have h := jit h c3
    refine j_aload_n E 0 rfl rfl dX6_parse_20 ?_
    refine j_iconst E (kc_1) dX6_parse_21 ?_
    obtain ⟨r4, er4, h⟩ := jbd h
    refine j_callVi E (As := [.int 1]) (c_X6_fail er4) (cwV 1 E.1.2.2.2.2 gX6_parse_X6_fail rfl rfl rfl (by decide +kernel) ⟨rk1_rmMG d _ (Nat.le_of_ble_eq_true rfl), rk2_rmMG d _ (Nat.le_of_ble_eq_true rfl)⟩) (wM_g0 ad cI cZ _) rfl rfl rfl (Nat.le_of_ble_eq_true rfl) ⟨Nat.zero_le _, Nat.zero_le _⟩ dX6_parse_22 ?_
    exact j_iret E hr rfl (Option.some.inj h) dX6_parse_25
  · have h := jif h c3
    refine j_aload_n E 0 rfl rfl dX6_parse_12 ?_
    refine j_iload_n E 2 rfl rfl dX6_parse_13 ?_
    obtain ⟨r5, er5, h⟩ := jbd h
    refine j_callVi E (As := [.int a2]) (c_X6_isPlace er5) (cwV 1 E.1.2.2.2.2 gX6_parse_X6_isPlace rfl rfl rfl (by decide +kernel) ⟨rk1_rmMG d _ (Nat.le_of_ble_eq_true rfl), rk2_rmMG d _ (Nat.le_of_ble_eq_true rfl)⟩) (wM_g0 ad cI cZ _) rfl rfl rfl (Nat.le_of_ble_eq_true rfl) ⟨Nat.zero_le _, Nat.zero_le _⟩ dX6_parse_14 ?_
    refine j_if_ne E (tgt := 26) (by decide) dX6_parse_17 (fun c6 => ?_) (fun c6 => ?_)
    · have h := jif h c6
      refine j_aload_n E 0 rfl rfl dX6_parse_26 ?_
      refine j_iconst E (kc_0) dX6_parse_27 ?_
      obtain ⟨s7, es7, h⟩ := jle h
      refine j_put E 0 (wM_g0 ad cI cZ _) rfl 22 (ty := .int) (wM_p0_22 ad cI cZ _ _) tyX6_ok nmX6 in_X6_parse_X6 (by decide) (List.mem_of_getElem? (i := 2) rfl) (fun _ h9 => h9) rfl (tyX6_ok 22 (by decide)) rfl rfl (Nat.le_of_ble_eq_true rfl) dX6_parse_28 ?_
      refine j_st es7 ?_
      refine j_aload_n E 0 rfl rfl dX6_parse_31 ?_
      refine j_iconst E (kc_0) dX6_parse_32 ?_
      obtain ⟨s8, es8, h⟩ := jle h
      refine j_put E 0 (wM_g0 ad cI cZ _) rfl 23 (ty := .int) (wM_p0_23 ad cI cZ _ _) tyX6_ok nmX6 in_X6_parse_X6 (by decide) (List.mem_of_getElem? (i := 3) rfl) (fun _ h9 => h9) rfl (tyX6_ok 23 (by decide)) rfl rfl (Nat.le_of_ble_eq_true rfl) dX6_parse_33 ?_
      refine j_st es8 ?_
      refine j_aload_n E 0 rfl rfl dX6_parse_36 ?_
      refine j_iconst E (kc_0) dX6_parse_37 ?_
      obtain ⟨s9, es9, h⟩ := jle h
      refine j_put E 0 (wM_g0 ad cI cZ _) rfl 24 (ty := .int) (wM_p0_24 ad cI cZ _ _) tyX6_ok nmX6 in_X6_parse_X6 (by decide) (List.mem_of_getElem? (i := 4) rfl) (fun _ h9 => h9) rfl (tyX6_ok 24 (by decide)) rfl rfl (Nat.le_of_ble_eq_true rfl) dX6_parse_38 ?_
      refine j_st es9 ?_
      refine j_aload_n E 0 rfl rfl dX6_parse_41 ?_
      refine j_iconst E (kc_m1) dX6_parse_42 ?_
      obtain ⟨s10, es10, h⟩ := jle h
      refine j_put E 0 (wM_g0 ad cI cZ _) rfl 25 (ty := .int) (wM_p0_25 ad cI cZ _ _) tyX6_ok nmX6 in_X6_parse_X6 (by decide) (List.mem_of_getElem? (i := 5) rfl) (fun _ h9 => h9) rfl (tyX6_ok 25 (by decide)) rfl rfl (Nat.le_of_ble_eq_true rfl) dX6_parse_43 ?_
      refine j_st es10 ?_
      refine j_aload_n E 0 rfl rfl dX6_parse_46 ?_
      refine j_iconst E (kc_0) dX6_parse_47 ?_
      obtain ⟨s11, es11, h⟩ := jle h
      refine j_put E 0 (wM_g0 ad cI cZ _) rfl 20 (ty := .boolean) (wM_p0_20 ad cI cZ _ _) tyX6_ok nmX6 in_X6_parse_X6 (by decide) (List.mem_of_getElem? (i := 6) rfl) (fun _ h9 => h9) rfl (tyX6_ok 20 (by decide)) rfl rfl (Nat.le_of_ble_eq_true rfl) dX6_parse_48 ?_
      refine j_st es11 ?_
      refine j_aload_n E 0 rfl rfl dX6_parse_51 ?_
      refine j_iconst E (kc_0) dX6_parse_52 ?_
      obtain ⟨s12, es12, h⟩ := jle h
      refine j_put E 0 (wM_g0 ad cI cZ _) rfl 12 (ty := .int) (wM_p0_12 ad cI cZ _ _) tyX6_ok nmX6 in_X6_parse_X6 (by decide) (List.mem_of_getElem? (i := 7) rfl) (fun _ h9 => h9) rfl (tyX6_ok 12 (by decide)) rfl rfl (Nat.le_of_ble_eq_true rfl) dX6_parse_53 ?_
      refine j_st es12 ?_
      refine j_aload_n E 0 rfl rfl dX6_parse_56 ?_
      refine j_iload_n E 1 rfl rfl dX6_parse_57 ?_
      refine j_iload_n E 2 rfl rfl dX6_parse_58 ?_
      refine j_iconst E (kc_0) dX6_parse_59 ?_
      obtain ⟨r13, er13, h⟩ := jbd h
      refine j_callVi E (As := [.int a1, .int a2, .int 0]) (c_X6_lookRule hlk er13) (cwV 3 E.1.2.2.2.2 gX6_parse_X6_lookRule rfl rfl rfl (by decide +kernel) (rk_X6_parse_X6_lookRule d)) (wM_g0 ad cI cZ _) rfl rfl rfl (Nat.le_of_ble_eq_true rfl) ⟨Nat.zero_le _, Nat.zero_le _⟩ dX6_parse_60 ?_
      refine j_istore_n E rfl (by decide) (lv' := [(3, .int r13.1), (0, .ref (ad 0)), (1, .int a1), (2, .int a2)]) rfl dX6_parse_63 ?_
      refine j_aload_n E 1 rfl rfl dX6_parse_64 ?_
      refine j_get E 0 (wM_g0 ad cI cZ _) rfl 20 rfl in_X6_parse_X6 (by decide) (List.mem_of_getElem? (i := 6) rfl) (fun _ h9 => h9) dX6_parse_65 ?_
      refine j_if_ne E (tgt := 73) (by decide) dX6_parse_68 (fun c14 => ?_) (fun c14 => ?_)
      · have h := jif h c14
        refine j_aload_n E 1 rfl rfl dX6_parse_73 ?_
        obtain ⟨r15, er15, h⟩ := jbd h
        refine j_callVi E (As := []) (c_X6_forgetAll er15) (cwV 0 E.1.2.2.2.2 gX6_parse_X6_forgetAll rfl rfl rfl (by decide +kernel) ⟨rk1_rmMG d _ (Nat.le_of_ble_eq_true rfl), rk2_rmMG d _ (Nat.le_of_ble_eq_true rfl)⟩) (wM_g0 ad cI cZ _) rfl rfl rfl (Nat.le_of_ble_eq_true rfl) ⟨Nat.zero_le _, Nat.zero_le _⟩ dX6_parse_74 ?_
        refine j_pop E rfl dX6_parse_77 ?_
        refine j_bipush E (kb_m2) dX6_parse_78 ?_
        exact j_iret E hr rfl (Option.some.inj h) dX6_parse_80
      · have h := jit h c14
        refine j_iload_n E 0 rfl rfl dX6_parse_71 ?_
        exact j_iret E hr rfl (Option.some.inj h) dX6_parse_72
    · have h := jit h c6
      refine j_aload_n E 0 rfl rfl dX6_parse_20 ?_
      refine j_iconst E (kc_1) dX6_parse_21 ?_
      obtain ⟨r16, er16, h⟩ := jbd h
      refine j_callVi E (As := [.int 1]) (c_X6_fail er16) (cwV 1 E.1.2.2.2.2 gX6_parse_X6_fail rfl rfl rfl (by decide +kernel) ⟨rk1_rmMG d _ (Nat.le_of_ble_eq_true rfl), rk2_rmMG d _ (Nat.le_of_ble_eq_true rfl)⟩) (wM_g0 ad cI cZ _) rfl rfl rfl (Nat.le_of_ble_eq_true rfl) ⟨Nat.zero_le _, Nat.zero_le _⟩ dX6_parse_22 ?_
      exact j_iret E hr rfl (Option.some.inj h) dX6_parse_25
