abbrev rm_X3_lookForRule (d : Nat) : Room := rmXF d
theorem in_X3_lookForRule_X0 : ∀ w ∈ u_ws RX0 TX0 8, w ∈ wsX3_lookForRule := fun w h => (List.mem_cons_of_mem _ (List.mem_append_left _ (List.mem_append_left _ (List.mem_append_left _ (List.mem_append_right _ h)))))
theorem in_X3_lookForRule_X2 : ∀ w ∈ u_ws RX2 TX2 10, w ∈ wsX3_lookForRule := fun w h => (List.mem_cons_of_mem _ (List.mem_append_left _ (List.mem_append_left _ (List.mem_append_right _ h))))
theorem in_X3_lookForRule_X3 : ∀ w ∈ u_ws RX3 TX3 9, w ∈ wsX3_lookForRule := fun w h => (List.mem_cons_of_mem _ (List.mem_append_left _ (List.mem_append_left _ (List.mem_append_left _ (List.mem_append_left _ (List.mem_append_right _ h))))))
theorem rk_X3_lookForRule_X3_look (d : Nat) : (rmXL d).frames + 1 ≤ (rm_X3_lookForRule d).frames ∧ 8 + (6 + 11) + (rmXL d).locals ≤ (rm_X3_lookForRule d).locals := ⟨by simp only [rm_X3_lookForRule, rmXL, rmXF, rmXG]; omega, by simp only [rm_X3_lookForRule, rmXL, rmXF, rmXG]; omega⟩
def f_X3_lookForRule_81 (lk : jS → Int32 → Int32 → Int32 → Option (Int32 × jS)) (K : jS → Int32 → Int32 → Int32 → Int32 → Int32 → Int32 → Int32 → Int32 → Option (Int32 × jS)) : Nat → jS → Int32 → Int32 → Int32 → Int32 → Int32 → Int32 → Int32 → Int32 → Option (Int32 × jS)
  | 0, _, _, _, _, _, _, _, _, _ => none
  | n + 1, st, v1, v2, v3, v4, v5, v6, v7, v8 =>
    if v8 > 40 then
      K st v1 v2 v3 v4 v5 v6 v7 v8
    else
    bif job v6 101 then none else
    if v7 ≤ (jag st 18 v6) then
      K st v1 v2 v3 v4 v5 v6 v7 v8
    else
    bif job v6 101 then none else
    jl (jas st 18 v6 v7) fun s17 =>
    jl (jis s17 5 ((s17.2 5) + 1)) fun s18 =>
    (lk s18 v5 v2 (v3 + 1)).bind fun r19 =>
    jl (v8 + 1) fun x20 =>
    f_X3_lookForRule_81 lk K n r19.2 v1 v2 v3 v4 v5 v6 r19.1 x20
def f_X3_lookForRule (lk : jS → Int32 → Int32 → Int32 → Option (Int32 × jS)) (st : jS) (a1 : Int32) (a2 : Int32) (a3 : Int32) : Option (Int32 × jS) :=
  (f_X3_knownResult st a1 a2).bind fun r1 =>
  if r1.1 = (-4) then
    (f_X2_isFull r1.2).bind fun r3 =>
    if r3.1 = 0 then
      bif job a1 10 then none else
      jl (jag r3.2 5 a1) fun x6 =>
      (f_X2_begin r3.2 a1 a2).bind fun r7 =>
      (lk r7.2 x6 a2 (a3 + 1)).bind fun r8 =>
      bif job r7.1 101 then none else
      if (jag r8.2 19 r7.1) = 0 then
        (f_X3_finish r8.2 r7.1 r8.1).bind fun r11 =>
        jl (jis r11 7 0) fun s12 =>
        some (r8.1, s12)
      else
      f_X3_lookForRule_81 lk (fun s29 y21 y22 y23 y24 y25 y26 y27 y28 =>
        if y27 = (-2) then
          (f_X3_finish s29 y26 (-2)).bind fun r35 =>
          jl (jis r35 7 0) fun s36 =>
          some ((-2), s36)
        else
        bif job y26 101 then none else
        jl (jag s29 18 y26) fun x32 =>
        (f_X3_finish s29 y26 x32).bind fun r33 =>
        jl (jis r33 7 0) fun s34 =>
        some (x32, s34)
        ) jFuel r8.2 a1 a2 a3 r1.1 x6 r7.1 r8.1 0
    else
    some ((-2), r3.2)
  else
  some (r1.1, r1.2)
set_option maxHeartbeats 4000000 in
set_option maxRecDepth 100000 in
theorem w_X3_lookForRule_81 {ad : Nat → Nat} {cI cZ : ClassId} {p : Program} {l : Launch} {e : Env} {s : State} {m : MethodId} {args : Array Value} {below : List Frame} {meth : Method} {c : Code} {D : va_G} {A : Nat → Prop} {o : (Int32 × jS)} {d : Nat} {lk : jS → Int32 → Int32 → Int32 → Option (Int32 × jS)} (hlk : ∀ (st : jS) (a b c : Int32) (r : Int32 × jS), lk st a b c = some r → CtI l D (jT cI cZ) (wX ad cI cZ) yX3_look wsX3_look (rmXL d) [.ref (ad 7), .int a, .int b, .int c] st r.1 r.2) (E : jE p s m args meth c cX3_lookForRule 9 RX3 wsX3_lookForRule D (jT cI cZ) A) (hr : meth.sig.returnType = (some .int)) {K : jS → Int32 → Int32 → Int32 → Int32 → Int32 → Int32 → Int32 → Int32 → Option (Int32 × jS)} (hK : ∀ (st : jS) (v1 : Int32) (v2 : Int32) (v3 : Int32) (v4 : Int32) (v5 : Int32) (v6 : Int32) (v7 : Int32) (v8 : Int32), K st v1 v2 v3 v4 v5 v6 v7 v8 = some o → J p l e (rm_X3_lookForRule d) s m args below meth c 9 D A (wX ad cI cZ) (jZI D (wX ad cI cZ) A below args s o) 0 0 st 143 [(0, .ref (ad 7)), (1, .int v1), (2, .int v2), (3, .int v3), (4, .int v4), (5, .int v5), (6, .int v6), (7, .int v7), (8, .int v8)] []) :
    ∀ (n : Nat) (st : jS) (v1 : Int32) (v2 : Int32) (v3 : Int32) (v4 : Int32) (v5 : Int32) (v6 : Int32) (v7 : Int32) (v8 : Int32), f_X3_lookForRule_81 lk K n st v1 v2 v3 v4 v5 v6 v7 v8 = some o → J p l e (rm_X3_lookForRule d) s m args below meth c 9 D A (wX ad cI cZ) (jZI D (wX ad cI cZ) A below args s o) 0 0 st 81 [(0, .ref (ad 7)), (1, .int v1), (2, .int v2), (3, .int v3), (4, .int v4), (5, .int v5), (6, .int v6), (7, .int v7), (8, .int v8)] [] := by
  intro n
  induction n with
  | zero => intro st v1 v2 v3 v4 v5 v6 v7 v8 h; cases h
  | succ n ih =>
    intro st v1 v2 v3 v4 v5 v6 v7 v8 h
    rw [f_X3_lookForRule_81] at h
    refine j_iload E 8 rfl dX3_lookForRule_81 ?_
    refine j_bipush E (kb_40) dX3_lookForRule_83 ?_
    refine j_icmp_gt E (tgt := 143) (by decide) dX3_lookForRule_85 (fun c13 => ?_) (fun c13 => ?_)
    · have h := jit h c13
      refine j_sub [0, 1, 2, 3, 4, 5, 6, 7, 8] (lv' := [(0, .ref (ad 7)), (1, .int v1), (2, .int v2), (3, .int v3), (4, .int v4), (5, .int v5), (6, .int v6), (7, .int v7), (8, .int v8)]) rfl ?_
      exact hK _ _ _ _ _ _ _ _ _ h
    · have h := jif h c13
      refine j_iload E 7 rfl dX3_lookForRule_88 ?_
      refine j_aload_n E 0 rfl rfl dX3_lookForRule_90 ?_
      refine j_get E 7 (wX_g7 ad cI cZ _) rfl 3 rfl in_X3_lookForRule_X3 (by decide) (List.mem_of_getElem? (i := 1) rfl) (fun _ h9 => h9) dX3_lookForRule_91 ?_
      refine j_getN E 15 (wX_g15 ad cI cZ _) rfl 2 rfl in_X3_lookForRule_X2 (by decide) (E.2.2.2.1.1 _ (List.mem_of_getElem? (i := 10) rfl)) (fun _ h9 => h9) dX3_lookForRule_94 ?_
      refine j_iload E 6 rfl dX3_lookForRule_97 ?_
      obtain ⟨b14, h⟩ := job_else h
      refine j_iald E 18 0 (wX_g18 ad cI cZ _) rfl b14 dX3_lookForRule_99 ?_
      refine j_icmp_le E (tgt := 143) (by decide) dX3_lookForRule_100 (fun c15 => ?_) (fun c15 => ?_)
      · have h := jit h c15
        refine j_sub [0, 1, 2, 3, 4, 5, 6, 7, 8] (lv' := [(0, .ref (ad 7)), (1, .int v1), (2, .int v2), (3, .int v3), (4, .int v4), (5, .int v5), (6, .int v6), (7, .int v7), (8, .int v8)]) rfl ?_
        exact hK _ _ _ _ _ _ _ _ _ h
      · have h := jif h c15
        refine j_aload_n E 0 rfl rfl dX3_lookForRule_103 ?_
        refine j_get E 7 (wX_g7 ad cI cZ _) rfl 3 rfl in_X3_lookForRule_X3 (by decide) (List.mem_of_getElem? (i := 1) rfl) (fun _ h9 => h9) dX3_lookForRule_104 ?_
        refine j_getN E 15 (wX_g15 ad cI cZ _) rfl 2 rfl in_X3_lookForRule_X2 (by decide) (E.2.2.2.1.1 _ (List.mem_of_getElem? (i := 10) rfl)) (fun _ h9 => h9) dX3_lookForRule_107 ?_
        refine j_iload E 6 rfl dX3_lookForRule_110 ?_
        refine j_iload E 7 rfl dX3_lookForRule_112 ?_
        obtain ⟨b16, h⟩ := job_else h
        obtain ⟨s17, es17, h⟩ := jle h
        refine j_iast E 18 0 (wX_g18 ad cI cZ _) rfl (wX_s18 ad cI cZ _ _) b16 dX3_lookForRule_114 ?_
        refine j_st es17 ?_
        refine j_aload_n E 0 rfl rfl dX3_lookForRule_115 ?_
        refine j_dup E rfl dX3_lookForRule_116 ?_
        refine j_get E 7 (wX_g7 ad cI cZ _) rfl 6 rfl in_X3_lookForRule_X3 (by decide) (List.mem_of_getElem? (i := 3) rfl) (fun _ h9 => h9) dX3_lookForRule_117 ?_
        refine j_iconst E (kc_1) dX3_lookForRule_120 ?_
        refine j_iadd E dX3_lookForRule_121 ?_
        obtain ⟨s18, es18, h⟩ := jle h
        refine j_put E 7 (wX_g7 ad cI cZ _) rfl 6 (ty := .int) (wX_p7_6 ad cI cZ _ _) tyX3_ok nmX3 in_X3_lookForRule_X3 (by decide) (List.mem_of_getElem? (i := 3) rfl) (fun _ h9 => h9) rfl (tyX3_ok 6 (by decide)) rfl rfl (Nat.le_of_ble_eq_true rfl) dX3_lookForRule_122 ?_
        refine j_st es18 ?_
        refine j_aload_n E 0 rfl rfl dX3_lookForRule_125 ?_
        refine j_iload E 5 rfl dX3_lookForRule_126 ?_
        refine j_iload_n E 2 rfl rfl dX3_lookForRule_128 ?_
        refine j_iload_n E 3 rfl rfl dX3_lookForRule_129 ?_
        refine j_iconst E (kc_1) dX3_lookForRule_130 ?_
        refine j_iadd E dX3_lookForRule_131 ?_
        obtain ⟨r19, er19, h⟩ := jbd h
        refine j_callVi E (As := [.int v5, .int v2, .int (v3 + 1)]) (hlk _ _ _ _ _ er19) (cwV 3 E.1.2.2.2.2 gX3_lookForRule_X3_look rfl rfl rfl (by decide +kernel) (rk_X3_lookForRule_X3_look d)) (wX_g7 ad cI cZ _) rfl rfl rfl (Nat.le_of_ble_eq_true rfl) ⟨Nat.zero_le _, Nat.zero_le _⟩ dX3_lookForRule_132 ?_
        refine j_istore E (by decide) (lv' := [(7, .int r19.1), (0, .ref (ad 7)), (1, .int v1), (2, .int v2), (3, .int v3), (4, .int v4), (5, .int v5), (6, .int v6), (8, .int v8)]) rfl dX3_lookForRule_135 ?_
        obtain ⟨x20, ex20, h⟩ := jle h
        refine j_iinc E 8 rfl kc_1 ex20 (by decide) (lv' := [(8, .int x20), (7, .int r19.1), (0, .ref (ad 7)), (1, .int v1), (2, .int v2), (3, .int v3), (4, .int v4), (5, .int v5), (6, .int v6)]) rfl dX3_lookForRule_137 ?_
        refine j_goto E (tgt := 81) (by decide) dX3_lookForRule_140 ?_
        refine j_sub [2, 3, 4, 5, 6, 7, 8, 1, 0] (lv' := [(0, .ref (ad 7)), (1, .int v1), (2, .int v2), (3, .int v3), (4, .int v4), (5, .int v5), (6, .int v6), (7, .int r19.1), (8, .int x20)]) rfl ?_
        exact ih _ _ _ _ _ _ _ _ _ h
set_option maxHeartbeats 4000000 in
set_option maxRecDepth 100000 in
theorem c_X3_lookForRule {l : Launch} {D : va_G} {ad : Nat → Nat} {cI cZ : ClassId} {st : jS} {a1 : Int32} {a2 : Int32} {a3 : Int32} {o : (Int32 × jS)} {d : Nat} {lk : jS → Int32 → Int32 → Int32 → Option (Int32 × jS)} (hlk : ∀ (st : jS) (a b c : Int32) (r : Int32 × jS), lk st a b c = some r → CtI l D (jT cI cZ) (wX ad cI cZ) yX3_look wsX3_look (rmXL d) [.ref (ad 7), .int a, .int b, .int c] st r.1 r.2) (h : f_X3_lookForRule lk st a1 a2 a3 = some o) : CtI l D (jT cI cZ) (wX ad cI cZ) yX3_lookForRule wsX3_lookForRule (rm_X3_lookForRule d) [.ref (ad 7), .int a1, .int a2, .int a3] st o.1 o.2 := by
  refine ctI_of (o := o) (cc := cX3_lookForRule) (nL := 9) (own := RX3) (by decide) rfl rfl (Nat.le_of_ble_eq_true rfl) (lv0 := [(0, .ref (ad 7)), (1, .int a1), (2, .int a2), (3, .int a3)]) rfl ?_
  intro p e s m args below meth c A E hr
  rw [f_X3_lookForRule] at h
  refine j_aload_n E 0 rfl rfl dX3_lookForRule_0 ?_
  refine j_iload_n E 1 rfl rfl dX3_lookForRule_1 ?_
  refine j_iload_n E 2 rfl rfl dX3_lookForRule_2 ?_
  obtain ⟨r1, er1, h⟩ := jbd h
  refine j_callVi E (As := [.int a1, .int a2]) (c_X3_knownResult er1) (cwV 2 E.1.2.2.2.2 gX3_lookForRule_X3_knownResult rfl rfl rfl (by decide +kernel) ⟨rk1_rmXF d _ (Nat.le_of_ble_eq_true rfl), rk2_rmXF d _ (Nat.le_of_ble_eq_true rfl)⟩) (wX_g7 ad cI cZ _) rfl rfl rfl (Nat.le_of_ble_eq_true rfl) ⟨Nat.zero_le _, Nat.zero_le _⟩ dX3_lookForRule_3 ?_
  refine j_istore E (by decide) (lv' := [(4, .int r1.1), (0, .ref (ad 7)), (1, .int a1), (2, .int a2), (3, .int a3)]) rfl dX3_lookForRule_6 ?_
  refine j_iload E 0 rfl dX3_lookForRule_8 ?_
  refine j_bipush E (kb_m4) dX3_lookForRule_10 ?_
  refine j_icmp_eq E (tgt := 18) (by decide) dX3_lookForRule_12 (fun c2 => ?_) (fun c2 => ?_)
  · have h := jit h c2
    refine j_aload_n E 1 rfl rfl dX3_lookForRule_18 ?_
    refine j_get E 7 (wX_g7 ad cI cZ _) rfl 3 rfl in_X3_lookForRule_X3 (by decide) (List.mem_of_getElem? (i := 1) rfl) (fun _ h9 => h9) dX3_lookForRule_19 ?_
    obtain ⟨r3, er3, h⟩ := jbd h
    refine j_callVi E (As := []) (c_X2_isFull er3) (cwV 0 E.1.2.2.2.2 gX3_lookForRule_X2_isFull rfl rfl rfl (by decide +kernel) ⟨rk1_rmXF d _ (Nat.le_of_ble_eq_true rfl), rk2_rmXF d _ (Nat.le_of_ble_eq_true rfl)⟩) (wX_g15 ad cI cZ _) rfl rfl rfl (Nat.le_of_ble_eq_true rfl) ⟨Nat.zero_le _, Nat.zero_le _⟩ dX3_lookForRule_22 ?_
    refine j_if_eq E (tgt := 31) (by decide) dX3_lookForRule_25 (fun c4 => ?_) (fun c4 => ?_)
    · have h := jit h c4
      refine j_aload_n E 1 rfl rfl dX3_lookForRule_31 ?_
      refine j_get E 7 (wX_g7 ad cI cZ _) rfl 0 rfl in_X3_lookForRule_X3 (by decide) (List.mem_of_getElem? (i := 2) rfl) (fun _ h9 => h9) dX3_lookForRule_32 ?_
      refine j_getN E 1 (wX_g1 ad cI cZ _) rfl 3 rfl in_X3_lookForRule_X0 (by decide) (E.2.2.2.1.1 _ (List.mem_of_getElem? (i := 8) rfl)) (fun _ h9 => h9) dX3_lookForRule_35 ?_
      refine j_iload_n E 2 rfl rfl dX3_lookForRule_38 ?_
      obtain ⟨b5, h⟩ := job_else h
      refine j_iald E 5 0 (wX_g5 ad cI cZ _) rfl b5 dX3_lookForRule_39 ?_
      obtain ⟨x6, ex6, h⟩ := jle h
      refine j_topi ex6 ?_
      refine j_istore E (by decide) (lv' := [(5, .int x6), (4, .int r1.1), (0, .ref (ad 7)), (1, .int a1), (2, .int a2), (3, .int a3)]) rfl dX3_lookForRule_40 ?_
      refine j_aload_n E 2 rfl rfl dX3_lookForRule_42 ?_
      refine j_get E 7 (wX_g7 ad cI cZ _) rfl 3 rfl in_X3_lookForRule_X3 (by decide) (List.mem_of_getElem? (i := 1) rfl) (fun _ h9 => h9) dX3_lookForRule_43 ?_
      refine j_iload_n E 3 rfl rfl dX3_lookForRule_46 ?_
      refine j_iload_n E 4 rfl rfl dX3_lookForRule_47 ?_
      obtain ⟨r7, er7, h⟩ := jbd h
      refine j_callVi E (As := [.int a1, .int a2]) (c_X2_begin er7) (cwV 2 E.1.2.2.2.2 gX3_lookForRule_X2_begin rfl rfl rfl (by decide +kernel) ⟨rk1_rmXF d _ (Nat.le_of_ble_eq_true rfl), rk2_rmXF d _ (Nat.le_of_ble_eq_true rfl)⟩) (wX_g15 ad cI cZ _) rfl rfl rfl (Nat.le_of_ble_eq_true rfl) ⟨Nat.zero_le _, Nat.zero_le _⟩ dX3_lookForRule_48 ?_
      refine j_istore E (by decide) (lv' := [(6, .int r7.1), (5, .int x6), (4, .int r1.1), (0, .ref (ad 7)), (1, .int a1), (2, .int a2), (3, .int a3)]) rfl dX3_lookForRule_51 ?_
      refine j_aload_n E 3 rfl rfl dX3_lookForRule_53 ?_
      refine j_iload E 1 rfl dX3_lookForRule_54 ?_
      refine j_iload_n E 5 rfl rfl dX3_lookForRule_56 ?_
      refine j_iload_n E 6 rfl rfl dX3_lookForRule_57 ?_
      refine j_iconst E (kc_1) dX3_lookForRule_58 ?_
      refine j_iadd E dX3_lookForRule_59 ?_
      obtain ⟨r8, er8, h⟩ := jbd h
      refine j_callVi E (As := [.int x6, .int a2, .int (a3 + 1)]) (hlk _ _ _ _ _ er8) (cwV 3 E.1.2.2.2.2 gX3_lookForRule_X3_look rfl rfl rfl (by decide +kernel) (rk_X3_lookForRule_X3_look d)) (wX_g7 ad cI cZ _) rfl rfl rfl (Nat.le_of_ble_eq_true rfl) ⟨Nat.zero_le _, Nat.zero_le _⟩ dX3_lookForRule_60 ?_
      refine j_istore E (by decide) (lv' := [(7, .int r8.1), (6, .int r7.1), (5, .int x6), (4, .int r1.1), (0, .ref (ad 7)), (1, .int a1), (2, .int a2), (3, .int a3)]) rfl dX3_lookForRule_63 ?_
      refine j_aload_n E 4 rfl rfl dX3_lookForRule_65 ?_
      refine j_get E 7 (wX_g7 ad cI cZ _) rfl 3 rfl in_X3_lookForRule_X3 (by decide) (List.mem_of_getElem? (i := 1) rfl) (fun _ h9 => h9) dX3_lookForRule_66 ?_
      refine j_getN E 15 (wX_g15 ad cI cZ _) rfl 3 rfl in_X3_lookForRule_X2 (by decide) (E.2.2.2.1.1 _ (List.mem_of_getElem? (i := 9) rfl)) (fun _ h9 => h9) dX3_lookForRule_69 ?_
      refine j_iload E 1 rfl dX3_lookForRule_72 ?_
      obtain ⟨b9, h⟩ := job_else h
      refine j_zald E 19 1 (wX_g19 ad cI cZ _) rfl b9 dX3_lookForRule_74 ?_
      refine j_if_eq E (tgt := 167) (by decide) dX3_lookForRule_75 (fun c10 => ?_) (fun c10 => ?_)
      · have h := jit h c10
        refine j_aload_n E 4 rfl rfl dX3_lookForRule_167 ?_
        refine j_iload E 1 rfl dX3_lookForRule_168 ?_
        refine j_iload E 0 rfl dX3_lookForRule_170 ?_
        obtain ⟨r11, er11, h⟩ := jbd h
        refine j_callVv E (As := [.int r7.1, .int r8.1]) (c_X3_finish er11) (cwV 2 E.1.2.2.2.2 gX3_lookForRule_X3_finish rfl rfl rfl (by decide +kernel) ⟨rk1_rmXF d _ (Nat.le_of_ble_eq_true rfl), rk2_rmXF d _ (Nat.le_of_ble_eq_true rfl)⟩) (wX_g7 ad cI cZ _) rfl rfl rfl (Nat.le_of_ble_eq_true rfl) ⟨Nat.zero_le _, Nat.zero_le _⟩ dX3_lookForRule_172 ?_
        refine j_aload_n E 4 rfl rfl dX3_lookForRule_175 ?_
        refine j_iconst E (kc_0) dX3_lookForRule_176 ?_
        obtain ⟨s12, es12, h⟩ := jle h
        refine j_put E 7 (wX_g7 ad cI cZ _) rfl 8 (ty := .boolean) (wX_p7_8 ad cI cZ _ _) tyX3_ok nmX3 in_X3_lookForRule_X3 (by decide) (List.mem_of_getElem? (i := 4) rfl) (fun _ h9 => h9) rfl (tyX3_ok 8 (by decide)) rfl rfl (Nat.le_of_ble_eq_true rfl) dX3_lookForRule_177 ?_
        refine j_st es12 ?_
        refine j_iload E 0 rfl dX3_lookForRule_180 ?_
        exact j_iret E hr rfl (Option.some.inj h) dX3_lookForRule_182
      · have h := jif h c10
        refine j_iconst E (kc_0) dX3_lookForRule_78 ?_
        refine j_istore E (by decide) (lv' := [(8, .int 0), (7, .int r8.1), (6, .int r7.1), (5, .int x6), (4, .int r1.1), (0, .ref (ad 7)), (1, .int a1), (2, .int a2), (3, .int a3)]) rfl dX3_lookForRule_79 ?_
        refine j_sub [5, 6, 7, 8, 4, 3, 2, 1, 0] (lv' := [(0, .ref (ad 7)), (1, .int a1), (2, .int a2), (3, .int a3), (4, .int r1.1), (5, .int x6), (6, .int r7.1), (7, .int r8.1), (8, .int 0)]) rfl ?_
        refine w_X3_lookForRule_81 hlk E hr (fun s29 y21 y22 y23 y24 y25 y26 y27 y28 h => ?_) _ _ _ _ _ _ _ _ _ _ h
        refine j_iload E 7 rfl dX3_lookForRule_143 ?_
        refine j_bipush E (kb_m2) dX3_lookForRule_145 ?_
        refine j_icmp_ne E (tgt := 155) (by decide) dX3_lookForRule_147 (fun c30 => ?_) (fun c30 => ?_)
        · have h := jif h c30
          refine j_aload_n E 0 rfl rfl dX3_lookForRule_155 ?_
          refine j_get E 7 (wX_g7 ad cI cZ _) rfl 3 rfl in_X3_lookForRule_X3 (by decide) (List.mem_of_getElem? (i := 1) rfl) (fun _ h9 => h9) dX3_lookForRule_156 ?_
          refine j_getN E 15 (wX_g15 ad cI cZ _) rfl 2 rfl in_X3_lookForRule_X2 (by decide) (E.2.2.2.1.1 _ (List.mem_of_getElem? (i := 10) rfl)) (fun _ h9 => h9) dX3_lookForRule_159 ?_
          refine j_iload E 6 rfl dX3_lookForRule_162 ?_
          obtain ⟨b31, h⟩ := job_else h
          refine j_iald E 18 0 (wX_g18 ad cI cZ _) rfl b31 dX3_lookForRule_164 ?_
          obtain ⟨x32, ex32, h⟩ := jle h
          refine j_topi ex32 ?_
          refine j_istore E (by decide) (lv' := [(7, .int x32), (0, .ref (ad 7)), (1, .int y21), (2, .int y22), (3, .int y23), (4, .int y24), (5, .int y25), (6, .int y26), (8, .int y28)]) rfl dX3_lookForRule_165 ?_
          refine j_aload_n E 1 rfl rfl dX3_lookForRule_167 ?_
          refine j_iload E 7 rfl dX3_lookForRule_168 ?_
          refine j_iload E 0 rfl dX3_lookForRule_170 ?_
          obtain ⟨r33, er33, h⟩ := jbd h
          refine j_callVv E (As := [.int y26, .int x32]) (c_X3_finish er33) (cwV 2 E.1.2.2.2.2 gX3_lookForRule_X3_finish rfl rfl rfl (by decide +kernel) ⟨rk1_rmXF d _ (Nat.le_of_ble_eq_true rfl), rk2_rmXF d _ (Nat.le_of_ble_eq_true rfl)⟩) (wX_g7 ad cI cZ _) rfl rfl rfl (Nat.le_of_ble_eq_true rfl) ⟨Nat.zero_le _, Nat.zero_le _⟩ dX3_lookForRule_172 ?_
          refine j_aload_n E 1 rfl rfl dX3_lookForRule_175 ?_
          refine j_iconst E (kc_0) dX3_lookForRule_176 ?_
          obtain ⟨s34, es34, h⟩ := jle h
          refine j_put E 7 (wX_g7 ad cI cZ _) rfl 8 (ty := .boolean) (wX_p7_8 ad cI cZ _ _) tyX3_ok nmX3 in_X3_lookForRule_X3 (by decide) (List.mem_of_getElem? (i := 4) rfl) (fun _ h9 => h9) rfl (tyX3_ok 8 (by decide)) rfl rfl (Nat.le_of_ble_eq_true rfl) dX3_lookForRule_177 ?_
          refine j_st es34 ?_
          refine j_iload E 0 rfl dX3_lookForRule_180 ?_
          exact j_iret E hr rfl (Option.some.inj h) dX3_lookForRule_182
        · have h := jit h c30
          refine j_bipush E (kb_m2) dX3_lookForRule_150 ?_
          refine j_goto E (tgt := 165) (by decide) dX3_lookForRule_152 ?_
          refine j_istore E (by decide) (lv' := [(7, .int (-2)), (0, .ref (ad 7)), (1, .int y21), (2, .int y22), (3, .int y23), (4, .int y24), (5, .int y25), (6, .int y26), (8, .int y28)]) rfl dX3_lookForRule_165 ?_
          refine j_aload_n E 1 rfl rfl dX3_lookForRule_167 ?_
          refine j_iload E 7 rfl dX3_lookForRule_168 ?_
          refine j_iload E 0 rfl dX3_lookForRule_170 ?_
          obtain ⟨r35, er35, h⟩ := jbd h
          refine j_callVv E (As := [.int y26, .int (-2)]) (c_X3_finish er35) (cwV 2 E.1.2.2.2.2 gX3_lookForRule_X3_finish rfl rfl rfl (by decide +kernel) ⟨rk1_rmXF d _ (Nat.le_of_ble_eq_true rfl), rk2_rmXF d _ (Nat.le_of_ble_eq_true rfl)⟩) (wX_g7 ad cI cZ _) rfl rfl rfl (Nat.le_of_ble_eq_true rfl) ⟨Nat.zero_le _, Nat.zero_le _⟩ dX3_lookForRule_172 ?_
          refine j_aload_n E 1 rfl rfl dX3_lookForRule_175 ?_
          refine j_iconst E (kc_0) dX3_lookForRule_176 ?_
          obtain ⟨s36, es36, h⟩ := jle h
          refine j_put E 7 (wX_g7 ad cI cZ _) rfl 8 (ty := .boolean) (wX_p7_8 ad cI cZ _ _) tyX3_ok nmX3 in_X3_lookForRule_X3 (by decide) (List.mem_of_getElem? (i := 4) rfl) (fun _ h9 => h9) rfl (tyX3_ok 8 (by decide)) rfl rfl (Nat.le_of_ble_eq_true rfl) dX3_lookForRule_177 ?_
          refine j_st es36 ?_
          refine j_iload E 0 rfl dX3_lookForRule_180 ?_
          exact j_iret E hr rfl (Option.some.inj h) dX3_lookForRule_182
    · have h := jif h c4
      refine j_bipush E (kb_m2) dX3_lookForRule_28 ?_
      exact j_iret E hr rfl (Option.some.inj h) dX3_lookForRule_30
  · have h := jif h c2
    refine j_iload E 0 rfl dX3_lookForRule_15 ?_
    exact j_iret E hr rfl (Option.some.inj h) dX3_lookForRule_17
abbrev rm_X3_lookB (d : Nat) : Room := rmXL (d + 1)
theorem in_X3_look_X0 : ∀ w ∈ u_ws RX0 TX0 8, w ∈ wsX3_look := fun w h => (List.mem_cons_of_mem _ (List.mem_append_left _ (List.mem_append_left _ (List.mem_append_left _ (List.mem_append_right _ h)))))
theorem in_X3_look_X3 : ∀ w ∈ u_ws RX3 TX3 9, w ∈ wsX3_look := fun w h => (List.mem_cons_of_mem _ (List.mem_append_left _ (List.mem_append_left _ (List.mem_append_left _ (List.mem_append_left _ (List.mem_append_right _ h))))))
theorem rk_X3_look_X3_lookForAnd (d : Nat) : (rm_X3_lookForAnd d).frames + 1 ≤ (rm_X3_lookB d).frames ∧ 8 + (5 + 11) + (rm_X3_lookForAnd d).locals ≤ (rm_X3_lookB d).locals := ⟨by simp only [rm_X3_lookB, rm_X3_lookForAnd, rmXL, rmXF, rmXG]; omega, by simp only [rm_X3_lookB, rm_X3_lookForAnd, rmXL, rmXF, rmXG]; omega⟩
theorem rk_X3_look_X3_lookForChoice (d : Nat) : (rm_X3_lookForChoice d).frames + 1 ≤ (rm_X3_lookB d).frames ∧ 8 + (6 + 11) + (rm_X3_lookForChoice d).locals ≤ (rm_X3_lookB d).locals := ⟨by simp only [rm_X3_lookB, rm_X3_lookForChoice, rmXL, rmXF, rmXG]; omega, by simp only [rm_X3_lookB, rm_X3_lookForChoice, rmXL, rmXF, rmXG]; omega⟩
theorem rk_X3_look_X3_lookForNot (d : Nat) : (rm_X3_lookForNot d).frames + 1 ≤ (rm_X3_lookB d).frames ∧ 8 + (5 + 11) + (rm_X3_lookForNot d).locals ≤ (rm_X3_lookB d).locals := ⟨by simp only [rm_X3_lookB, rm_X3_lookForNot, rmXL, rmXF, rmXG]; omega, by simp only [rm_X3_lookB, rm_X3_lookForNot, rmXL, rmXF, rmXG]; omega⟩
theorem rk_X3_look_X3_lookForOptional (d : Nat) : (rm_X3_lookForOptional d).frames + 1 ≤ (rm_X3_lookB d).frames ∧ 8 + (5 + 11) + (rm_X3_lookForOptional d).locals ≤ (rm_X3_lookB d).locals := ⟨by simp only [rm_X3_lookB, rm_X3_lookForOptional, rmXL, rmXF, rmXG]; omega, by simp only [rm_X3_lookB, rm_X3_lookForOptional, rmXL, rmXF, rmXG]; omega⟩
theorem rk_X3_look_X3_lookForRule (d : Nat) : (rm_X3_lookForRule d).frames + 1 ≤ (rm_X3_lookB d).frames ∧ 8 + (9 + 11) + (rm_X3_lookForRule d).locals ≤ (rm_X3_lookB d).locals := ⟨by simp only [rm_X3_lookB, rm_X3_lookForRule, rmXL, rmXF, rmXG]; omega, by simp only [rm_X3_lookB, rm_X3_lookForRule, rmXL, rmXF, rmXG]; omega⟩
theorem rk_X3_look_X3_lookForSequence (d : Nat) : (rm_X3_lookForSequence d).frames + 1 ≤ (rm_X3_lookB d).frames ∧ 8 + (8 + 11) + (rm_X3_lookForSequence d).locals ≤ (rm_X3_lookB d).locals := ⟨by simp only [rm_X3_lookB, rm_X3_lookForSequence, rmXL, rmXF, rmXG]; omega, by simp only [rm_X3_lookB, rm_X3_lookForSequence, rmXL, rmXF, rmXG]; omega⟩
theorem rk_X3_look_X3_lookForStar (d : Nat) : (rm_X3_lookForStar d).frames + 1 ≤ (rm_X3_lookB d).frames ∧ 8 + (7 + 11) + (rm_X3_lookForStar d).locals ≤ (rm_X3_lookB d).locals := ⟨by simp only [rm_X3_lookB, rm_X3_lookForStar, rmXL, rmXF, rmXG]; omega, by simp only [rm_X3_lookB, rm_X3_lookForStar, rmXL, rmXF, rmXG]; omega⟩
def f_X3_lookB (lk : jS → Int32 → Int32 → Int32 → Option (Int32 × jS)) (st : jS) (a1 : Int32) (a2 : Int32) (a3 : Int32) : Option (Int32 × jS) :=
  if (st.2 3) ≥ 5000 then
    some ((-2), st)
  else
  if a3 ≤ 100 then
    jl (jis st 3 ((st.2 3) + 1)) fun s3 =>
    jl (jis s3 7 0) fun s4 =>
    bif job a1 80 then none else
    jl (jag s4 3 a1) fun x6 =>
    bif job a1 80 then none else
    jl (jag s4 4 a1) fun x8 =>
    bif job a1 80 then none else
    jl (jag s4 2 a1) fun x10 =>
    if x10 = 0 then
      some (a2, s4)
    else
    if x10 = 1 then
      jl (jis s4 7 1) fun s13 =>
      some (a2, s13)
    else
    if x10 = 2 then
      (f_X3_lookForRange s4 x6 x8 a2).bind fun r15 =>
      some (r15.1, r15.2)
    else
    if x10 = 3 then
      (f_X3_lookForRule lk s4 x6 a2 a3).bind fun r17 =>
      some (r17.1, r17.2)
    else
    if x10 = 4 then
      (f_X3_lookForSequence lk s4 x6 x8 a2 a3).bind fun r19 =>
      some (r19.1, r19.2)
    else
    if x10 = 5 then
      (f_X3_lookForChoice lk s4 x6 x8 a2 a3).bind fun r21 =>
      some (r21.1, r21.2)
    else
    if x10 = 6 then
      (f_X3_lookForStar lk s4 x6 a2 a3).bind fun r23 =>
      some (r23.1, r23.2)
    else
    if x10 = 7 then
      (f_X3_lookForOptional lk s4 x6 a2 a3).bind fun r25 =>
      some (r25.1, r25.2)
    else
    if x10 = 8 then
      (f_X3_lookForAnd lk s4 x6 a2 a3).bind fun r27 =>
      some (r27.1, r27.2)
    else
    (f_X3_lookForNot lk s4 x6 a2 a3).bind fun r28 =>
    some (r28.1, r28.2)
  else
  some ((-2), st)
set_option maxHeartbeats 4000000 in
set_option maxRecDepth 100000 in
theorem c_X3_lookB {l : Launch} {D : va_G} {ad : Nat → Nat} {cI cZ : ClassId} {st : jS} {a1 : Int32} {a2 : Int32} {a3 : Int32} {o : (Int32 × jS)} {d : Nat} {lk : jS → Int32 → Int32 → Int32 → Option (Int32 × jS)} (hlk : ∀ (st : jS) (a b c : Int32) (r : Int32 × jS), lk st a b c = some r → CtI l D (jT cI cZ) (wX ad cI cZ) yX3_look wsX3_look (rmXL d) [.ref (ad 7), .int a, .int b, .int c] st r.1 r.2) (h : f_X3_lookB lk st a1 a2 a3 = some o) : CtI l D (jT cI cZ) (wX ad cI cZ) yX3_look wsX3_look (rm_X3_lookB d) [.ref (ad 7), .int a1, .int a2, .int a3] st o.1 o.2 := by
  refine ctI_of (o := o) (cc := cX3_look) (nL := 6) (own := RX3) (by decide) rfl rfl (Nat.le_of_ble_eq_true rfl) (lv0 := [(0, .ref (ad 7)), (1, .int a1), (2, .int a2), (3, .int a3)]) rfl ?_
  intro p e s m args below meth c A E hr
  rw [f_X3_lookB] at h
  refine j_aload_n E 0 rfl rfl dX3_look_0 ?_
  refine j_get E 7 (wX_g7 ad cI cZ _) rfl 4 rfl in_X3_look_X3 (by decide) (List.mem_of_getElem? (i := 1) rfl) (fun _ h9 => h9) dX3_look_1 ?_
  refine j_sipush E (ks_5000) dX3_look_4 ?_
  refine j_icmp_ge E (tgt := 16) (by decide) dX3_look_7 (fun c1 => ?_) (fun c1 => ?_)
  · have h := jit h c1
    refine j_bipush E (kb_m2) dX3_look_16 ?_
    exact j_iret E hr rfl (Option.some.inj h) dX3_look_18
  · have h := jif h c1
    refine j_iload_n E 3 rfl rfl dX3_look_10 ?_
    refine j_bipush E (kb_100) dX3_look_11 ?_
    refine j_icmp_le E (tgt := 19) (by decide) dX3_look_13 (fun c2 => ?_) (fun c2 => ?_)
    · have h := jit h c2
      refine j_aload_n E 0 rfl rfl dX3_look_19 ?_
      refine j_dup E rfl dX3_look_20 ?_
      refine j_get E 7 (wX_g7 ad cI cZ _) rfl 4 rfl in_X3_look_X3 (by decide) (List.mem_of_getElem? (i := 1) rfl) (fun _ h9 => h9) dX3_look_21 ?_
      refine j_iconst E (kc_1) dX3_look_24 ?_
      refine j_iadd E dX3_look_25 ?_
      obtain ⟨s3, es3, h⟩ := jle h
      refine j_put E 7 (wX_g7 ad cI cZ _) rfl 4 (ty := .int) (wX_p7_4 ad cI cZ _ _) tyX3_ok nmX3 in_X3_look_X3 (by decide) (List.mem_of_getElem? (i := 1) rfl) (fun _ h9 => h9) rfl (tyX3_ok 4 (by decide)) rfl rfl (Nat.le_of_ble_eq_true rfl) dX3_look_26 ?_
      refine j_st es3 ?_
      refine j_aload_n E 0 rfl rfl dX3_look_29 ?_
      refine j_iconst E (kc_0) dX3_look_30 ?_
      obtain ⟨s4, es4, h⟩ := jle h
      refine j_put E 7 (wX_g7 ad cI cZ _) rfl 8 (ty := .boolean) (wX_p7_8 ad cI cZ _ _) tyX3_ok nmX3 in_X3_look_X3 (by decide) (List.mem_of_getElem? (i := 2) rfl) (fun _ h9 => h9) rfl (tyX3_ok 8 (by decide)) rfl rfl (Nat.le_of_ble_eq_true rfl) dX3_look_31 ?_
      refine j_st es4 ?_
      refine j_aload_n E 0 rfl rfl dX3_look_34 ?_
      refine j_get E 7 (wX_g7 ad cI cZ _) rfl 0 rfl in_X3_look_X3 (by decide) (List.mem_of_getElem? (i := 3) rfl) (fun _ h9 => h9) dX3_look_35 ?_
      refine j_getN E 1 (wX_g1 ad cI cZ _) rfl 1 rfl in_X3_look_X0 (by decide) (E.2.2.2.1.1 _ (List.mem_of_getElem? (i := 19) rfl)) (fun _ h9 => h9) dX3_look_38 ?_
      refine j_iload_n E 1 rfl rfl dX3_look_41 ?_
      obtain ⟨b5, h⟩ := job_else h
      refine j_iald E 3 0 (wX_g3 ad cI cZ _) rfl b5 dX3_look_42 ?_
      obtain ⟨x6, ex6, h⟩ := jle h
      refine j_topi ex6 ?_
      refine j_istore E (by decide) (lv' := [(4, .int x6), (0, .ref (ad 7)), (1, .int a1), (2, .int a2), (3, .int a3)]) rfl dX3_look_43 ?_
      refine j_aload_n E 1 rfl rfl dX3_look_45 ?_
      refine j_get E 7 (wX_g7 ad cI cZ _) rfl 0 rfl in_X3_look_X3 (by decide) (List.mem_of_getElem? (i := 3) rfl) (fun _ h9 => h9) dX3_look_46 ?_
      refine j_getN E 1 (wX_g1 ad cI cZ _) rfl 2 rfl in_X3_look_X0 (by decide) (E.2.2.2.1.1 _ (List.mem_of_getElem? (i := 20) rfl)) (fun _ h9 => h9) dX3_look_49 ?_
      refine j_iload_n E 2 rfl rfl dX3_look_52 ?_
      obtain ⟨b7, h⟩ := job_else h
      refine j_iald E 4 0 (wX_g4 ad cI cZ _) rfl b7 dX3_look_53 ?_
      obtain ⟨x8, ex8, h⟩ := jle h
      refine j_topi ex8 ?_
      refine j_istore E (by decide) (lv' := [(5, .int x8), (4, .int x6), (0, .ref (ad 7)), (1, .int a1), (2, .int a2), (3, .int a3)]) rfl dX3_look_54 ?_
      refine j_aload_n E 2 rfl rfl dX3_look_56 ?_
      refine j_get E 7 (wX_g7 ad cI cZ _) rfl 0 rfl in_X3_look_X3 (by decide) (List.mem_of_getElem? (i := 3) rfl) (fun _ h9 => h9) dX3_look_57 ?_
      refine j_getN E 1 (wX_g1 ad cI cZ _) rfl 0 rfl in_X3_look_X0 (by decide) (E.2.2.2.1.1 _ (List.mem_of_getElem? (i := 21) rfl)) (fun _ h9 => h9) dX3_look_60 ?_
      refine j_iload_n E 3 rfl rfl dX3_look_63 ?_
      obtain ⟨b9, h⟩ := job_else h
      refine j_iald E 2 0 (wX_g2 ad cI cZ _) rfl b9 dX3_look_64 ?_
      obtain ⟨x10, ex10, h⟩ := jle h
      refine j_topi ex10 ?_
      by_cases c11 : x10 = 0
      · have h := jit h c11
        refine j_tableIn E dX3_look_65 (by rw [c11]; decide) (by rw [c11]; decide) (by rw [c11]; rfl) (tgt := 116) (by decide) ?_
        refine j_iload_n E 4 rfl rfl dX3_look_116 ?_
        exact j_iret E hr rfl (Option.some.inj h) dX3_look_117
      have h := jif h c11
      by_cases c12 : x10 = 1
      · have h := jit h c12
        refine j_tableIn E dX3_look_65 (by rw [c12]; decide) (by rw [c12]; decide) (by rw [c12]; rfl) (tgt := 118) (by decide) ?_
        refine j_aload_n E 2 rfl rfl dX3_look_118 ?_
        refine j_iconst E (kc_1) dX3_look_119 ?_
        obtain ⟨s13, es13, h⟩ := jle h
        refine j_put E 7 (wX_g7 ad cI cZ _) rfl 8 (ty := .boolean) (wX_p7_8 ad cI cZ _ _) tyX3_ok nmX3 in_X3_look_X3 (by decide) (List.mem_of_getElem? (i := 2) rfl) (fun _ h9 => h9) rfl (tyX3_ok 8 (by decide)) rfl rfl (Nat.le_of_ble_eq_true rfl) dX3_look_120 ?_
        refine j_st es13 ?_
        refine j_iload_n E 4 rfl rfl dX3_look_123 ?_
        exact j_iret E hr rfl (Option.some.inj h) dX3_look_124
      have h := jif h c12
      by_cases c14 : x10 = 2
      · have h := jit h c14
        refine j_tableIn E dX3_look_65 (by rw [c14]; decide) (by rw [c14]; decide) (by rw [c14]; rfl) (tgt := 125) (by decide) ?_
        refine j_aload_n E 2 rfl rfl dX3_look_125 ?_
        refine j_iload E 1 rfl dX3_look_126 ?_
        refine j_iload E 0 rfl dX3_look_128 ?_
        refine j_iload_n E 4 rfl rfl dX3_look_130 ?_
        obtain ⟨r15, er15, h⟩ := jbd h
        refine j_callVi E (As := [.int x6, .int x8, .int a2]) (c_X3_lookForRange er15) (cwV 3 E.1.2.2.2.2 gX3_look_X3_lookForRange rfl rfl rfl (by decide +kernel) ⟨rk1_rmXL (d + 1) _ (Nat.le_of_ble_eq_true rfl), rk2_rmXL (d + 1) _ (Nat.le_of_ble_eq_true rfl)⟩) (wX_g7 ad cI cZ _) rfl rfl rfl (Nat.le_of_ble_eq_true rfl) ⟨Nat.zero_le _, Nat.zero_le _⟩ dX3_look_131 ?_
        exact j_iret E hr rfl (Option.some.inj h) dX3_look_134
      have h := jif h c14
      by_cases c16 : x10 = 3
      · have h := jit h c16
        refine j_tableIn E dX3_look_65 (by rw [c16]; decide) (by rw [c16]; decide) (by rw [c16]; rfl) (tgt := 135) (by decide) ?_
        refine j_aload_n E 2 rfl rfl dX3_look_135 ?_
        refine j_iload E 1 rfl dX3_look_136 ?_
        refine j_iload_n E 4 rfl rfl dX3_look_138 ?_
        refine j_iload_n E 5 rfl rfl dX3_look_139 ?_
        obtain ⟨r17, er17, h⟩ := jbd h
        refine j_callVi E (As := [.int x6, .int a2, .int a3]) (c_X3_lookForRule hlk er17) (cwV 3 E.1.2.2.2.2 gX3_look_X3_lookForRule rfl rfl rfl (by decide +kernel) (rk_X3_look_X3_lookForRule d)) (wX_g7 ad cI cZ _) rfl rfl rfl (Nat.le_of_ble_eq_true rfl) ⟨Nat.zero_le _, Nat.zero_le _⟩ dX3_look_140 ?_
        exact j_iret E hr rfl (Option.some.inj h) dX3_look_143
      have h := jif h c16
      by_cases c18 : x10 = 4
      · have h := jit h c18
        refine j_tableIn E dX3_look_65 (by rw [c18]; decide) (by rw [c18]; decide) (by rw [c18]; rfl) (tgt := 144) (by decide) ?_
        refine j_aload_n E 2 rfl rfl dX3_look_144 ?_
        refine j_iload E 1 rfl dX3_look_145 ?_
        refine j_iload E 0 rfl dX3_look_147 ?_
        refine j_iload_n E 4 rfl rfl dX3_look_149 ?_
        refine j_iload_n E 5 rfl rfl dX3_look_150 ?_
        obtain ⟨r19, er19, h⟩ := jbd h
        refine j_callVi E (As := [.int x6, .int x8, .int a2, .int a3]) (c_X3_lookForSequence hlk er19) (cwV 4 E.1.2.2.2.2 gX3_look_X3_lookForSequence rfl rfl rfl (by decide +kernel) (rk_X3_look_X3_lookForSequence d)) (wX_g7 ad cI cZ _) rfl rfl rfl (Nat.le_of_ble_eq_true rfl) ⟨Nat.zero_le _, Nat.zero_le _⟩ dX3_look_151 ?_
        exact j_iret E hr rfl (Option.some.inj h) dX3_look_154
      have h := jif h c18
      by_cases c20 : x10 = 5
      · have h := jit h c20
        refine j_tableIn E dX3_look_65 (by rw [c20]; decide) (by rw [c20]; decide) (by rw [c20]; rfl) (tgt := 155) (by decide) ?_
        refine j_aload_n E 2 rfl rfl dX3_look_155 ?_
        refine j_iload E 1 rfl dX3_look_156 ?_
        refine j_iload E 0 rfl dX3_look_158 ?_
        refine j_iload_n E 4 rfl rfl dX3_look_160 ?_
        refine j_iload_n E 5 rfl rfl dX3_look_161 ?_
        obtain ⟨r21, er21, h⟩ := jbd h
        refine j_callVi E (As := [.int x6, .int x8, .int a2, .int a3]) (c_X3_lookForChoice hlk er21) (cwV 4 E.1.2.2.2.2 gX3_look_X3_lookForChoice rfl rfl rfl (by decide +kernel) (rk_X3_look_X3_lookForChoice d)) (wX_g7 ad cI cZ _) rfl rfl rfl (Nat.le_of_ble_eq_true rfl) ⟨Nat.zero_le _, Nat.zero_le _⟩ dX3_look_162 ?_
        exact j_iret E hr rfl (Option.some.inj h) dX3_look_165
      have h := jif h c20
      by_cases c22 : x10 = 6
      · have h := jit h c22
        refine j_tableIn E dX3_look_65 (by rw [c22]; decide) (by rw [c22]; decide) (by rw [c22]; rfl) (tgt := 166) (by decide) ?_
        refine j_aload_n E 2 rfl rfl dX3_look_166 ?_
        refine j_iload E 1 rfl dX3_look_167 ?_
        refine j_iload_n E 4 rfl rfl dX3_look_169 ?_
        refine j_iload_n E 5 rfl rfl dX3_look_170 ?_
        obtain ⟨r23, er23, h⟩ := jbd h
        refine j_callVi E (As := [.int x6, .int a2, .int a3]) (c_X3_lookForStar hlk er23) (cwV 3 E.1.2.2.2.2 gX3_look_X3_lookForStar rfl rfl rfl (by decide +kernel) (rk_X3_look_X3_lookForStar d)) (wX_g7 ad cI cZ _) rfl rfl rfl (Nat.le_of_ble_eq_true rfl) ⟨Nat.zero_le _, Nat.zero_le _⟩ dX3_look_171 ?_
        exact j_iret E hr rfl (Option.some.inj h) dX3_look_174
      have h := jif h c22
      by_cases c24 : x10 = 7
      · have h := jit h c24
        refine j_tableIn E dX3_look_65 (by rw [c24]; decide) (by rw [c24]; decide) (by rw [c24]; rfl) (tgt := 175) (by decide) ?_
        refine j_aload_n E 2 rfl rfl dX3_look_175 ?_
        refine j_iload E 1 rfl dX3_look_176 ?_
        refine j_iload_n E 4 rfl rfl dX3_look_178 ?_
        refine j_iload_n E 5 rfl rfl dX3_look_179 ?_
        obtain ⟨r25, er25, h⟩ := jbd h
        refine j_callVi E (As := [.int x6, .int a2, .int a3]) (c_X3_lookForOptional hlk er25) (cwV 3 E.1.2.2.2.2 gX3_look_X3_lookForOptional rfl rfl rfl (by decide +kernel) (rk_X3_look_X3_lookForOptional d)) (wX_g7 ad cI cZ _) rfl rfl rfl (Nat.le_of_ble_eq_true rfl) ⟨Nat.zero_le _, Nat.zero_le _⟩ dX3_look_180 ?_
        exact j_iret E hr rfl (Option.some.inj h) dX3_look_183
      have h := jif h c24
      by_cases c26 : x10 = 8
      · have h := jit h c26
        refine j_tableIn E dX3_look_65 (by rw [c26]; decide) (by rw [c26]; decide) (by rw [c26]; rfl) (tgt := 184) (by decide) ?_
        refine j_aload_n E 2 rfl rfl dX3_look_184 ?_
        refine j_iload E 1 rfl dX3_look_185 ?_
        refine j_iload_n E 4 rfl rfl dX3_look_187 ?_
        refine j_iload_n E 5 rfl rfl dX3_look_188 ?_
        obtain ⟨r27, er27, h⟩ := jbd h
        refine j_callVi E (As := [.int x6, .int a2, .int a3]) (c_X3_lookForAnd hlk er27) (cwV 3 E.1.2.2.2.2 gX3_look_X3_lookForAnd rfl rfl rfl (by decide +kernel) (rk_X3_look_X3_lookForAnd d)) (wX_g7 ad cI cZ _) rfl rfl rfl (Nat.le_of_ble_eq_true rfl) ⟨Nat.zero_le _, Nat.zero_le _⟩ dX3_look_189 ?_
        exact j_iret E hr rfl (Option.some.inj h) dX3_look_192
      have h := jif h c26
      refine j_tableOut E dX3_look_65 (jOut0_8 c11 c12 c14 c16 c18 c20 c22 c24 c26) (tgt := 193) (by decide) ?_
      refine j_aload_n E 2 rfl rfl dX3_look_193 ?_
      refine j_iload E 1 rfl dX3_look_194 ?_
      refine j_iload_n E 4 rfl rfl dX3_look_196 ?_
      refine j_iload_n E 5 rfl rfl dX3_look_197 ?_
      obtain ⟨r28, er28, h⟩ := jbd h
      refine j_callVi E (As := [.int x6, .int a2, .int a3]) (c_X3_lookForNot hlk er28) (cwV 3 E.1.2.2.2.2 gX3_look_X3_lookForNot rfl rfl rfl (by decide +kernel) (rk_X3_look_X3_lookForNot d)) (wX_g7 ad cI cZ _) rfl rfl rfl (Nat.le_of_ble_eq_true rfl) ⟨Nat.zero_le _, Nat.zero_le _⟩ dX3_look_198 ?_
      exact j_iret E hr rfl (Option.some.inj h) dX3_look_201
    · have h := jif h c2
      refine j_bipush E (kb_m2) dX3_look_16 ?_
      exact j_iret E hr rfl (Option.some.inj h) dX3_look_18
def f_X3_look : Nat → jS → Int32 → Int32 → Int32 → Option (Int32 × jS)
  | 0, _, _, _, _ => none
  | d + 1, st, a, b, c => f_X3_lookB (f_X3_look d) st a b c
theorem c_X3_look {l : Launch} {D : va_G} {ad : Nat → Nat} {cI cZ : ClassId} : ∀ (d : Nat) (st : jS) (a b c : Int32) (r : Int32 × jS), f_X3_look d st a b c = some r → CtI l D (jT cI cZ) (wX ad cI cZ) yX3_look wsX3_look (rmXL d) [.ref (ad 7), .int a, .int b, .int c] st r.1 r.2 := by
  intro d
  induction d with
  | zero => intro st a b c r h; cases h
  | succ d ih =>
    intro st a b c r h
    rw [f_X3_look] at h
    exact c_X3_lookB ih h
abbrev rm_X3_run (d : Nat) : Room := rmXG d
theorem in_X3_run_X3 : ∀ w ∈ u_ws RX3 TX3 9, w ∈ wsX3_run := fun w h => (List.mem_cons_of_mem _ (List.mem_append_left _ (List.mem_append_left _ (List.mem_append_left _ (List.mem_append_left _ (List.mem_append_right _ h))))))
theorem rk_X3_run_X3_lookForRule (d : Nat) : (rm_X3_lookForRule d).frames + 1 ≤ (rm_X3_run d).frames ∧ 8 + (9 + 11) + (rm_X3_lookForRule d).locals ≤ (rm_X3_run d).locals := ⟨by simp only [rm_X3_run, rm_X3_lookForRule, rmXL, rmXF, rmXG]; omega, by simp only [rm_X3_run, rm_X3_lookForRule, rmXL, rmXF, rmXG]; omega⟩
def f_X3_run (lk : jS → Int32 → Int32 → Int32 → Option (Int32 × jS)) (st : jS) (a1 : Int32) (a2 : Int32) : Option (Int32 × jS) :=
  jl (jis st 3 0) fun s1 =>
  jl (jis s1 4 0) fun s2 =>
  jl (jis s2 5 0) fun s3 =>
  jl (jis s3 6 (-1)) fun s4 =>
  (f_X3_lookForRule lk s4 a1 a2 0).bind fun r5 =>
  if r5.1 = (-2) then
    (f_X1_clear r5.2).bind fun r7 =>
    some (r5.1, r7)
  else
  some (r5.1, r5.2)
set_option maxHeartbeats 4000000 in
set_option maxRecDepth 100000 in
theorem c_X3_run {l : Launch} {D : va_G} {ad : Nat → Nat} {cI cZ : ClassId} {st : jS} {a1 : Int32} {a2 : Int32} {o : (Int32 × jS)} {d : Nat} {lk : jS → Int32 → Int32 → Int32 → Option (Int32 × jS)} (hlk : ∀ (st : jS) (a b c : Int32) (r : Int32 × jS), lk st a b c = some r → CtI l D (jT cI cZ) (wX ad cI cZ) yX3_look wsX3_look (rmXL d) [.ref (ad 7), .int a, .int b, .int c] st r.1 r.2) (h : f_X3_run lk st a1 a2 = some o) : CtI l D (jT cI cZ) (wX ad cI cZ) yX3_run wsX3_run (rm_X3_run d) [.ref (ad 7), .int a1, .int a2] st o.1 o.2 := by
  refine ctI_of (o := o) (cc := cX3_run) (nL := 4) (own := RX3) (by decide) rfl rfl (Nat.le_of_ble_eq_true rfl) (lv0 := [(0, .ref (ad 7)), (1, .int a1), (2, .int a2)]) rfl ?_
  intro p e s m args below meth c A E hr
  rw [f_X3_run] at h
  refine j_aload_n E 0 rfl rfl dX3_run_0 ?_
  refine j_iconst E (kc_0) dX3_run_1 ?_
  obtain ⟨s1, es1, h⟩ := jle h
  refine j_put E 7 (wX_g7 ad cI cZ _) rfl 4 (ty := .int) (wX_p7_4 ad cI cZ _ _) tyX3_ok nmX3 in_X3_run_X3 (by decide) (List.mem_of_getElem? (i := 1) rfl) (fun _ h9 => h9) rfl (tyX3_ok 4 (by decide)) rfl rfl (Nat.le_of_ble_eq_true rfl) dX3_run_2 ?_
  refine j_st es1 ?_
  refine j_aload_n E 0 rfl rfl dX3_run_5 ?_
  refine j_iconst E (kc_0) dX3_run_6 ?_
  obtain ⟨s2, es2, h⟩ := jle h
  refine j_put E 7 (wX_g7 ad cI cZ _) rfl 5 (ty := .int) (wX_p7_5 ad cI cZ _ _) tyX3_ok nmX3 in_X3_run_X3 (by decide) (List.mem_of_getElem? (i := 2) rfl) (fun _ h9 => h9) rfl (tyX3_ok 5 (by decide)) rfl rfl (Nat.le_of_ble_eq_true rfl) dX3_run_7 ?_
  refine j_st es2 ?_
  refine j_aload_n E 0 rfl rfl dX3_run_10 ?_
  refine j_iconst E (kc_0) dX3_run_11 ?_
  obtain ⟨s3, es3, h⟩ := jle h
  refine j_put E 7 (wX_g7 ad cI cZ _) rfl 6 (ty := .int) (wX_p7_6 ad cI cZ _ _) tyX3_ok nmX3 in_X3_run_X3 (by decide) (List.mem_of_getElem? (i := 3) rfl) (fun _ h9 => h9) rfl (tyX3_ok 6 (by decide)) rfl rfl (Nat.le_of_ble_eq_true rfl) dX3_run_12 ?_
  refine j_st es3 ?_
  refine j_aload_n E 0 rfl rfl dX3_run_15 ?_
  refine j_iconst E (kc_m1) dX3_run_16 ?_
  obtain ⟨s4, es4, h⟩ := jle h
  refine j_put E 7 (wX_g7 ad cI cZ _) rfl 7 (ty := .int) (wX_p7_7 ad cI cZ _ _) tyX3_ok nmX3 in_X3_run_X3 (by decide) (List.mem_of_getElem? (i := 4) rfl) (fun _ h9 => h9) rfl (tyX3_ok 7 (by decide)) rfl rfl (Nat.le_of_ble_eq_true rfl) dX3_run_17 ?_
  refine j_st es4 ?_
  refine j_aload_n E 0 rfl rfl dX3_run_20 ?_
  refine j_iload_n E 1 rfl rfl dX3_run_21 ?_
  refine j_iload_n E 2 rfl rfl dX3_run_22 ?_
  refine j_iconst E (kc_0) dX3_run_23 ?_
  obtain ⟨r5, er5, h⟩ := jbd h
  refine j_callVi E (As := [.int a1, .int a2, .int 0]) (c_X3_lookForRule hlk er5) (cwV 3 E.1.2.2.2.2 gX3_run_X3_lookForRule rfl rfl rfl (by decide +kernel) (rk_X3_run_X3_lookForRule d)) (wX_g7 ad cI cZ _) rfl rfl rfl (Nat.le_of_ble_eq_true rfl) ⟨Nat.zero_le _, Nat.zero_le _⟩ dX3_run_24 ?_
  refine j_istore_n E rfl (by decide) (lv' := [(3, .int r5.1), (0, .ref (ad 7)), (1, .int a1), (2, .int a2)]) rfl dX3_run_27 ?_
  refine j_iload_n E 0 rfl rfl dX3_run_28 ?_
  refine j_bipush E (kb_m2) dX3_run_29 ?_
  refine j_icmp_ne E (tgt := 41) (by decide) dX3_run_31 (fun c6 => ?_) (fun c6 => ?_)
  · have h := jif h c6
    refine j_iload_n E 0 rfl rfl dX3_run_41 ?_
    exact j_iret E hr rfl (Option.some.inj h) dX3_run_42
  · have h := jit h c6
    refine j_aload_n E 1 rfl rfl dX3_run_34 ?_
    refine j_get E 7 (wX_g7 ad cI cZ _) rfl 2 rfl in_X3_run_X3 (by decide) (List.mem_of_getElem? (i := 5) rfl) (fun _ h9 => h9) dX3_run_35 ?_
    obtain ⟨r7, er7, h⟩ := jbd h
    refine j_callVv E (As := []) (c_X1_clear er7) (cwV 0 E.1.2.2.2.2 gX3_run_X1_clear rfl rfl rfl (by decide +kernel) ⟨rk1_rmXG d _ (Nat.le_of_ble_eq_true rfl), rk2_rmXG d _ (Nat.le_of_ble_eq_true rfl)⟩) (wX_g11 ad cI cZ _) rfl rfl rfl (Nat.le_of_ble_eq_true rfl) ⟨Nat.zero_le _, Nat.zero_le _⟩ dX3_run_38 ?_
    refine j_iload_n E 0 rfl rfl dX3_run_41 ?_
    exact j_iret E hr rfl (Option.some.inj h) dX3_run_42
