abbrev rm_X6_keep : Room := { frames := 0, cells := 4, slots := 1640, locals := 0 }
theorem in_X6_keep_X6 : ∀ w ∈ u_ws RX6 TX6 29, w ∈ wsX6_keep := fun w h => (List.mem_cons_of_mem _ (List.mem_append_right _ h))
def f_X6_keep_46 (K : jS → Int32 → Int32 → Int32 → Int32 → Int32 → Int32 → Option (Int32 × jS)) : Nat → jS → Int32 → Int32 → Int32 → Int32 → Int32 → Int32 → Option (Int32 × jS)
  | 0, _, _, _, _, _, _, _ => none
  | n + 1, st, v1, v2, v3, v8, v9, v10 =>
    if v10 ≥ 10 then
      K st v1 v2 v3 v8 v9 v10
    else
    jl ((41 * v10) + v9) fun x7 =>
    bif job x7 410 then none else
    if (jag st 6 x7) = 0 then
      jl (v10 + 1) fun x61 =>
      f_X6_keep_46 K n st v1 v2 v3 v8 v9 x61
    else
    if v9 < (v1 + v2) then
      bif job x7 410 then none else
      if (jag st 8 x7) ≤ v1 then
        bif job x7 410 then none else
        jl (jas st 20 x7 (vp_nar .boolean 1)) fun s16 =>
        bif job x7 410 then none else
        bif job x7 410 then none else
        jl (jas s16 21 x7 (jag s16 7 x7)) fun s20 =>
        bif job x7 410 then none else
        bif job x7 410 then none else
        jl (jas s20 22 x7 (jag s20 8 x7)) fun s24 =>
        bif job x7 410 then none else
        bif job x7 410 then none else
        jl (jas s24 23 x7 (jag s24 9 x7)) fun s27 =>
        jl (v10 + 1) fun x28 =>
        f_X6_keep_46 K n s27 v1 v2 v3 v8 v9 x28
      else
      jl (v8 + 1) fun x29 =>
      jl (v10 + 1) fun x30 =>
      f_X6_keep_46 K n st v1 v2 v3 x29 v9 x30
    else
    jl (x7 + v3) fun x33 =>
    bif job x33 410 then none else
    jl (jas st 20 x33 (vp_nar .boolean 1)) fun s35 =>
    bif job x7 410 then none else
    if (jag s35 7 x7) = (-1) then
      bif job x7 410 then none else
      bif job x33 410 then none else
      jl (jas s35 21 x33 (jag s35 7 x7)) fun s41 =>
      bif job x7 410 then none else
      bif job x33 410 then none else
      jl (jas s41 22 x33 ((jag s41 8 x7) + v3)) fun s45 =>
      bif job x7 410 then none else
      bif job x33 410 then none else
      jl (jas s45 23 x33 (jag s45 9 x7)) fun s48 =>
      jl (v10 + 1) fun x49 =>
      f_X6_keep_46 K n s48 v1 v2 v3 v8 v9 x49
    else
    bif job x7 410 then none else
    bif job x33 410 then none else
    jl (jas s35 21 x33 ((jag s35 7 x7) + v3)) fun s52 =>
    bif job x7 410 then none else
    bif job x33 410 then none else
    jl (jas s52 22 x33 ((jag s52 8 x7) + v3)) fun s56 =>
    bif job x7 410 then none else
    bif job x33 410 then none else
    jl (jas s56 23 x33 (jag s56 9 x7)) fun s59 =>
    jl (v10 + 1) fun x60 =>
    f_X6_keep_46 K n s59 v1 v2 v3 v8 v9 x60
def f_X6_keep_34 (K : jS → Int32 → Int32 → Int32 → Int32 → Int32 → Option (Int32 × jS)) : Nat → jS → Int32 → Int32 → Int32 → Int32 → Int32 → Option (Int32 × jS)
  | 0, _, _, _, _, _, _ => none
  | n + 1, st, v1, v2, v3, v8, v9 =>
    if v9 > (st.2 2) then
      K st v1 v2 v3 v8 v9
    else
    f_X6_keep_46 (fun s68 y62 y63 y64 y65 y66 y67 =>
      jl (y66 + 1) fun x69 =>
      f_X6_keep_34 K n s68 y62 y63 y64 y65 x69
      ) jFuel st v1 v2 v3 v8 v9 0
def f_X6_keep (st : jS) (a1 : Int32) (a2 : Int32) (a3 : Int32) : Option (Int32 × jS) :=
  jl (jaf st 20 (fun _ => 0)) fun s1 =>
  jl (jaf s1 21 (fun _ => 0)) fun s2 =>
  jl (jaf s2 22 (fun _ => 0)) fun s3 =>
  jl (jaf s3 23 (fun _ => 0)) fun s4 =>
  f_X6_keep_34 (fun s75 y70 y71 y72 y73 y74 =>
    jl (jaf s75 6 (s75.1 20)) fun s76 =>
    jl (jaf s76 7 (s76.1 21)) fun s77 =>
    jl (jaf s77 8 (s77.1 22)) fun s78 =>
    jl (jaf s78 9 (s78.1 23)) fun s79 =>
    some (y73, s79)
    ) jFuel s4 a1 a2 a3 0 0
set_option maxHeartbeats 4000000 in
set_option maxRecDepth 100000 in
theorem w_X6_keep_46 {ad : Nat → Nat} {cI cZ : ClassId} {b0 : Nat} (hb0 : ad 0 = b0) {p : Program} {l : Launch} {e : Env} {s : State} {m : MethodId} {args : Array Value} {below : List Frame} {meth : Method} {c : Code} {D : va_G} {A : Nat → Prop} {o : (Int32 × jS)} (E : jE p s m args meth c cX6_keep 14 RX6 wsX6_keep D (jT cI cZ) A) (hr : meth.sig.returnType = (some .int)) {K : jS → Int32 → Int32 → Int32 → Int32 → Int32 → Int32 → Option (Int32 × jS)} (hK : ∀ (st : jS) (v1 : Int32) (v2 : Int32) (v3 : Int32) (v8 : Int32) (v9 : Int32) (v10 : Int32), K st v1 v2 v3 v8 v9 v10 = some o → J p l e (rm_X6_keep) s m args below meth c 14 D A (wMb ad cI cZ) (jZN D cI cZ A below args s 4 1640 b0 o) 4 1640 st 222 [(0, .ref (ad 0)), (1, .int v1), (2, .int v2), (3, .int v3), (4, .ref (ad 20)), (5, .ref (ad 21)), (6, .ref (ad 22)), (7, .ref (ad 23)), (8, .int v8), (9, .int v9), (10, .int v10)] []) :
    ∀ (n : Nat) (st : jS) (v1 : Int32) (v2 : Int32) (v3 : Int32) (v8 : Int32) (v9 : Int32) (v10 : Int32), f_X6_keep_46 K n st v1 v2 v3 v8 v9 v10 = some o → J p l e (rm_X6_keep) s m args below meth c 14 D A (wMb ad cI cZ) (jZN D cI cZ A below args s 4 1640 b0 o) 4 1640 st 46 [(0, .ref (ad 0)), (1, .int v1), (2, .int v2), (3, .int v3), (4, .ref (ad 20)), (5, .ref (ad 21)), (6, .ref (ad 22)), (7, .ref (ad 23)), (8, .int v8), (9, .int v9), (10, .int v10)] [] := by
  intro n
  induction n with
  | zero => intro st v1 v2 v3 v8 v9 v10 h; cases h
  | succ n ih =>
    intro st v1 v2 v3 v8 v9 v10 h
    rw [f_X6_keep_46] at h
    refine j_iload E 10 rfl dX6_keep_46 ?_
    refine j_bipush E (kb_10) dX6_keep_48 ?_
    refine j_icmp_ge E (tgt := 222) (by decide) dX6_keep_50 (fun c6 => ?_) (fun c6 => ?_)
    · have h := jit h c6
      refine j_sub [0, 1, 2, 3, 4, 5, 6, 7, 8, 9, 10] (lv' := [(0, .ref (ad 0)), (1, .int v1), (2, .int v2), (3, .int v3), (4, .ref (ad 20)), (5, .ref (ad 21)), (6, .ref (ad 22)), (7, .ref (ad 23)), (8, .int v8), (9, .int v9), (10, .int v10)]) rfl ?_
      exact hK _ _ _ _ _ _ _ h
    · have h := jif h c6
      refine j_bipush E (kb_41) dX6_keep_53 ?_
      refine j_iload E 10 rfl dX6_keep_55 ?_
      refine j_imul E dX6_keep_57 ?_
      refine j_iload E 9 rfl dX6_keep_58 ?_
      refine j_iadd E dX6_keep_60 ?_
      obtain ⟨x7, ex7, h⟩ := jle h
      refine j_topi ex7 ?_
      refine j_istore E (by decide) (lv' := [(11, .int x7), (0, .ref (ad 0)), (1, .int v1), (2, .int v2), (3, .int v3), (4, .ref (ad 20)), (5, .ref (ad 21)), (6, .ref (ad 22)), (7, .ref (ad 23)), (8, .int v8), (9, .int v9), (10, .int v10)]) rfl dX6_keep_61 ?_
      refine j_aload_n E 1 rfl rfl dX6_keep_63 ?_
      refine j_get E 0 (wMb_g0 ad cI cZ _) rfl 8 rfl in_X6_keep_X6 (by decide) (List.mem_of_getElem? (i := 4) rfl) (fun _ h9 => h9) dX6_keep_64 ?_
      refine j_iload E 0 rfl dX6_keep_67 ?_
      obtain ⟨b8, h⟩ := job_else h
      refine j_zald E 6 1 (wMb_g6 ad cI cZ _) rfl b8 dX6_keep_69 ?_
      refine j_if_ne E (tgt := 76) (by decide) dX6_keep_70 (fun c9 => ?_) (fun c9 => ?_)
      · have h := jif h c9
        refine j_iload E 10 rfl dX6_keep_76 ?_
        refine j_iload_n E 2 rfl rfl dX6_keep_78 ?_
        refine j_iload_n E 3 rfl rfl dX6_keep_79 ?_
        refine j_iadd E dX6_keep_80 ?_
        refine j_icmp_lt E (tgt := 88) (by decide) dX6_keep_81 (fun c10 => ?_) (fun c10 => ?_)
        · have h := jit h c10
          refine j_iconst E (kc_0) dX6_keep_88 ?_
          refine j_istore E (by decide) (lv' := [(12, .int 0), (11, .int x7), (0, .ref (ad 0)), (1, .int v1), (2, .int v2), (3, .int v3), (4, .ref (ad 20)), (5, .ref (ad 21)), (6, .ref (ad 22)), (7, .ref (ad 23)), (8, .int v8), (9, .int v9), (10, .int v10)]) rfl dX6_keep_89 ?_
          refine j_iload E 0 rfl dX6_keep_91 ?_
          refine j_if_ne E (tgt := 113) (by decide) dX6_keep_93 (fun c11 => absurd c11 (by decide)) (fun c11 => ?_)
          refine j_aload_n E 2 rfl rfl dX6_keep_96 ?_
          refine j_get E 0 (wMb_g0 ad cI cZ _) rfl 10 rfl in_X6_keep_X6 (by decide) (List.mem_of_getElem? (i := 5) rfl) (fun _ h9 => h9) dX6_keep_97 ?_
          refine j_iload E 1 rfl dX6_keep_100 ?_
          obtain ⟨b12, h⟩ := job_else h
          refine j_iald E 8 0 (wMb_g8 ad cI cZ _) rfl b12 dX6_keep_102 ?_
          refine j_iload_n E 3 rfl rfl dX6_keep_103 ?_
          refine j_icmp_le E (tgt := 113) (by decide) dX6_keep_104 (fun c13 => ?_) (fun c13 => ?_)
          · have h := jit h c13
            refine j_iload E 0 rfl dX6_keep_113 ?_
            refine j_if_eq E (tgt := 125) (by decide) dX6_keep_115 (fun c14 => ?_) (fun c14 => absurd c14 (by decide))
            refine j_iload E 1 rfl dX6_keep_125 ?_
            refine j_istore E (by decide) (lv' := [(13, .int x7), (12, .int 0), (11, .int x7), (0, .ref (ad 0)), (1, .int v1), (2, .int v2), (3, .int v3), (4, .ref (ad 20)), (5, .ref (ad 21)), (6, .ref (ad 22)), (7, .ref (ad 23)), (8, .int v8), (9, .int v9), (10, .int v10)]) rfl dX6_keep_127 ?_
            refine j_aload E 7 rfl dX6_keep_129 ?_
            refine j_iload E 0 rfl dX6_keep_131 ?_
            refine j_iconst E (kc_1) dX6_keep_133 ?_
            obtain ⟨b15, h⟩ := job_else h
            obtain ⟨s16, es16, h⟩ := jle h
            refine j_zast E 20 1 (wMb_g20 ad cI cZ _) rfl (wMb_s20 ad cI cZ _ _) b15 dX6_keep_134 ?_
            refine j_st es16 ?_
            refine j_aload E 8 rfl dX6_keep_135 ?_
            refine j_iload E 0 rfl dX6_keep_137 ?_
            refine j_iload E 1 rfl dX6_keep_139 ?_
            refine j_if_eq E (tgt := 167) (by decide) dX6_keep_141 (fun c17 => ?_) (fun c17 => absurd c17 (by decide))
            refine j_aload_n E 3 rfl rfl dX6_keep_167 ?_
            refine j_get E 0 (wMb_g0 ad cI cZ _) rfl 9 rfl in_X6_keep_X6 (by decide) (List.mem_of_getElem? (i := 6) rfl) (fun _ h9 => h9) dX6_keep_168 ?_
            refine j_iload E 2 rfl dX6_keep_171 ?_
            obtain ⟨b18, h⟩ := job_else h
            refine j_iald E 7 0 (wMb_g7 ad cI cZ _) rfl b18 dX6_keep_173 ?_
            obtain ⟨b19, h⟩ := job_else h
            obtain ⟨s20, es20, h⟩ := jle h
            refine j_iast E 21 0 (wMb_g21 ad cI cZ _) rfl (wMb_s21 ad cI cZ _ _) b19 dX6_keep_174 ?_
            refine j_st es20 ?_
            refine j_aload E 9 rfl dX6_keep_175 ?_
            refine j_iload E 0 rfl dX6_keep_177 ?_
            refine j_iload E 1 rfl dX6_keep_179 ?_
            refine j_if_eq E (tgt := 196) (by decide) dX6_keep_181 (fun c21 => ?_) (fun c21 => absurd c21 (by decide))
            refine j_aload_n E 3 rfl rfl dX6_keep_196 ?_
            refine j_get E 0 (wMb_g0 ad cI cZ _) rfl 10 rfl in_X6_keep_X6 (by decide) (List.mem_of_getElem? (i := 5) rfl) (fun _ h9 => h9) dX6_keep_197 ?_
            refine j_iload E 2 rfl dX6_keep_200 ?_
            obtain ⟨b22, h⟩ := job_else h
            refine j_iald E 8 0 (wMb_g8 ad cI cZ _) rfl b22 dX6_keep_202 ?_
            obtain ⟨b23, h⟩ := job_else h
            obtain ⟨s24, es24, h⟩ := jle h
            refine j_iast E 22 0 (wMb_g22 ad cI cZ _) rfl (wMb_s22 ad cI cZ _ _) b23 dX6_keep_203 ?_
            refine j_st es24 ?_
            refine j_aload E 10 rfl dX6_keep_204 ?_
            refine j_iload E 0 rfl dX6_keep_206 ?_
            refine j_aload_n E 3 rfl rfl dX6_keep_208 ?_
            refine j_get E 0 (wMb_g0 ad cI cZ _) rfl 11 rfl in_X6_keep_X6 (by decide) (List.mem_of_getElem? (i := 7) rfl) (fun _ h9 => h9) dX6_keep_209 ?_
            refine j_iload E 2 rfl dX6_keep_212 ?_
            obtain ⟨b25, h⟩ := job_else h
            refine j_iald E 9 0 (wMb_g9 ad cI cZ _) rfl b25 dX6_keep_214 ?_
            obtain ⟨b26, h⟩ := job_else h
            obtain ⟨s27, es27, h⟩ := jle h
            refine j_iast E 23 0 (wMb_g23 ad cI cZ _) rfl (wMb_s23 ad cI cZ _ _) b26 dX6_keep_215 ?_
            refine j_st es27 ?_
            obtain ⟨x28, ex28, h⟩ := jle h
            refine j_iinc E 13 rfl kc_1 ex28 (by decide) (lv' := [(10, .int x28), (13, .int x7), (12, .int 0), (11, .int x7), (0, .ref (ad 0)), (1, .int v1), (2, .int v2), (3, .int v3), (4, .ref (ad 20)), (5, .ref (ad 21)), (6, .ref (ad 22)), (7, .ref (ad 23)), (8, .int v8), (9, .int v9)]) rfl dX6_keep_216 ?_
            refine j_goto E (tgt := 46) (by decide) dX6_keep_219 ?_
            refine j_sub [4, 5, 6, 7, 8, 9, 10, 11, 12, 13, 0] (lv' := [(0, .ref (ad 0)), (1, .int v1), (2, .int v2), (3, .int v3), (4, .ref (ad 20)), (5, .ref (ad 21)), (6, .ref (ad 22)), (7, .ref (ad 23)), (8, .int v8), (9, .int v9), (10, .int x28)]) rfl ?_
            exact ih _ _ _ _ _ _ _ h
          · have h := jif h c13
            obtain ⟨x29, ex29, h⟩ := jle h
            refine j_iinc E 10 rfl kc_1 ex29 (by decide) (lv' := [(8, .int x29), (12, .int 0), (11, .int x7), (0, .ref (ad 0)), (1, .int v1), (2, .int v2), (3, .int v3), (4, .ref (ad 20)), (5, .ref (ad 21)), (6, .ref (ad 22)), (7, .ref (ad 23)), (9, .int v9), (10, .int v10)]) rfl dX6_keep_107 ?_
            refine j_goto E (tgt := 216) (by decide) dX6_keep_110 ?_
            obtain ⟨x30, ex30, h⟩ := jle h
            refine j_iinc E 12 rfl kc_1 ex30 (by decide) (lv' := [(10, .int x30), (8, .int x29), (12, .int 0), (11, .int x7), (0, .ref (ad 0)), (1, .int v1), (2, .int v2), (3, .int v3), (4, .ref (ad 20)), (5, .ref (ad 21)), (6, .ref (ad 22)), (7, .ref (ad 23)), (9, .int v9)]) rfl dX6_keep_216 ?_
            refine j_goto E (tgt := 46) (by decide) dX6_keep_219 ?_
            refine j_sub [4, 5, 6, 7, 8, 9, 10, 11, 1, 12, 0] (lv' := [(0, .ref (ad 0)), (1, .int v1), (2, .int v2), (3, .int v3), (4, .ref (ad 20)), (5, .ref (ad 21)), (6, .ref (ad 22)), (7, .ref (ad 23)), (8, .int x29), (9, .int v9), (10, .int x30)]) rfl ?_
            exact ih _ _ _ _ _ _ _ h
        · have h := jif h c10
          refine j_iconst E (kc_1) dX6_keep_84 ?_
          refine j_goto E (tgt := 89) (by decide) dX6_keep_85 ?_
          refine j_istore E (by decide) (lv' := [(12, .int 1), (11, .int x7), (0, .ref (ad 0)), (1, .int v1), (2, .int v2), (3, .int v3), (4, .ref (ad 20)), (5, .ref (ad 21)), (6, .ref (ad 22)), (7, .ref (ad 23)), (8, .int v8), (9, .int v9), (10, .int v10)]) rfl dX6_keep_89 ?_
          refine j_iload E 0 rfl dX6_keep_91 ?_
          refine j_if_ne E (tgt := 113) (by decide) dX6_keep_93 (fun c31 => ?_) (fun c31 => absurd c31 (by decide))
          refine j_iload E 0 rfl dX6_keep_113 ?_
          refine j_if_eq E (tgt := 125) (by decide) dX6_keep_115 (fun c32 => absurd c32 (by decide)) (fun c32 => ?_)
          refine j_iload E 1 rfl dX6_keep_118 ?_
          refine j_iload_n E 5 rfl rfl dX6_keep_120 ?_
          refine j_iadd E dX6_keep_121 ?_
          refine j_goto E (tgt := 127) (by decide) dX6_keep_122 ?_
          obtain ⟨x33, ex33, h⟩ := jle h
          refine j_topi ex33 ?_
          refine j_istore E (by decide) (lv' := [(13, .int x33), (12, .int 1), (11, .int x7), (0, .ref (ad 0)), (1, .int v1), (2, .int v2), (3, .int v3), (4, .ref (ad 20)), (5, .ref (ad 21)), (6, .ref (ad 22)), (7, .ref (ad 23)), (8, .int v8), (9, .int v9), (10, .int v10)]) rfl dX6_keep_127 ?_
          refine j_aload E 7 rfl dX6_keep_129 ?_
          refine j_iload E 0 rfl dX6_keep_131 ?_
          refine j_iconst E (kc_1) dX6_keep_133 ?_
          obtain ⟨b34, h⟩ := job_else h
          obtain ⟨s35, es35, h⟩ := jle h
          refine j_zast E 20 1 (wMb_g20 ad cI cZ _) rfl (wMb_s20 ad cI cZ _ _) b34 dX6_keep_134 ?_
          refine j_st es35 ?_
          refine j_aload E 8 rfl dX6_keep_135 ?_
          refine j_iload E 0 rfl dX6_keep_137 ?_
          refine j_iload E 1 rfl dX6_keep_139 ?_
          refine j_if_eq E (tgt := 167) (by decide) dX6_keep_141 (fun c36 => absurd c36 (by decide)) (fun c36 => ?_)
          refine j_aload_n E 3 rfl rfl dX6_keep_144 ?_
          refine j_get E 0 (wMb_g0 ad cI cZ _) rfl 9 rfl in_X6_keep_X6 (by decide) (List.mem_of_getElem? (i := 6) rfl) (fun _ h9 => h9) dX6_keep_145 ?_
          refine j_iload E 2 rfl dX6_keep_148 ?_
          obtain ⟨b37, h⟩ := job_else h
          refine j_iald E 7 0 (wMb_g7 ad cI cZ _) rfl b37 dX6_keep_150 ?_
          refine j_iconst E (kc_m1) dX6_keep_151 ?_
          refine j_icmp_eq E (tgt := 167) (by decide) dX6_keep_152 (fun c38 => ?_) (fun c38 => ?_)
          · have h := jit h c38
            refine j_aload_n E 3 rfl rfl dX6_keep_167 ?_
            refine j_get E 0 (wMb_g0 ad cI cZ _) rfl 9 rfl in_X6_keep_X6 (by decide) (List.mem_of_getElem? (i := 6) rfl) (fun _ h9 => h9) dX6_keep_168 ?_
            refine j_iload E 2 rfl dX6_keep_171 ?_
            obtain ⟨b39, h⟩ := job_else h
            refine j_iald E 7 0 (wMb_g7 ad cI cZ _) rfl b39 dX6_keep_173 ?_
            obtain ⟨b40, h⟩ := job_else h
            obtain ⟨s41, es41, h⟩ := jle h
            refine j_iast E 21 0 (wMb_g21 ad cI cZ _) rfl (wMb_s21 ad cI cZ _ _) b40 dX6_keep_174 ?_
            refine j_st es41 ?_
            refine j_aload E 9 rfl dX6_keep_175 ?_
            refine j_iload E 0 rfl dX6_keep_177 ?_
            refine j_iload E 1 rfl dX6_keep_179 ?_
            refine j_if_eq E (tgt := 196) (by decide) dX6_keep_181 (fun c42 => absurd c42 (by decide)) (fun c42 => ?_)
            refine j_aload_n E 3 rfl rfl dX6_keep_184 ?_
            refine j_get E 0 (wMb_g0 ad cI cZ _) rfl 10 rfl in_X6_keep_X6 (by decide) (List.mem_of_getElem? (i := 5) rfl) (fun _ h9 => h9) dX6_keep_185 ?_
            refine j_iload E 2 rfl dX6_keep_188 ?_
            obtain ⟨b43, h⟩ := job_else h
            refine j_iald E 8 0 (wMb_g8 ad cI cZ _) rfl b43 dX6_keep_190 ?_
            refine j_iload_n E 6 rfl rfl dX6_keep_191 ?_
            refine j_iadd E dX6_keep_192 ?_
            refine j_goto E (tgt := 203) (by decide) dX6_keep_193 ?_
            obtain ⟨b44, h⟩ := job_else h
            obtain ⟨s45, es45, h⟩ := jle h
            refine j_iast E 22 0 (wMb_g22 ad cI cZ _) rfl (wMb_s22 ad cI cZ _ _) b44 dX6_keep_203 ?_
            refine j_st es45 ?_
            refine j_aload E 10 rfl dX6_keep_204 ?_
            refine j_iload E 0 rfl dX6_keep_206 ?_
            refine j_aload_n E 3 rfl rfl dX6_keep_208 ?_
            refine j_get E 0 (wMb_g0 ad cI cZ _) rfl 11 rfl in_X6_keep_X6 (by decide) (List.mem_of_getElem? (i := 7) rfl) (fun _ h9 => h9) dX6_keep_209 ?_
            refine j_iload E 2 rfl dX6_keep_212 ?_
            obtain ⟨b46, h⟩ := job_else h
            refine j_iald E 9 0 (wMb_g9 ad cI cZ _) rfl b46 dX6_keep_214 ?_
            obtain ⟨b47, h⟩ := job_else h
            obtain ⟨s48, es48, h⟩ := jle h
            refine j_iast E 23 0 (wMb_g23 ad cI cZ _) rfl (wMb_s23 ad cI cZ _ _) b47 dX6_keep_215 ?_
            refine j_st es48 ?_
            obtain ⟨x49, ex49, h⟩ := jle h
            refine j_iinc E 13 rfl kc_1 ex49 (by decide) (lv' := [(10, .int x49), (13, .int x33), (12, .int 1), (11, .int x7), (0, .ref (ad 0)), (1, .int v1), (2, .int v2), (3, .int v3), (4, .ref (ad 20)), (5, .ref (ad 21)), (6, .ref (ad 22)), (7, .ref (ad 23)), (8, .int v8), (9, .int v9)]) rfl dX6_keep_216 ?_
            refine j_goto E (tgt := 46) (by decide) dX6_keep_219 ?_
            refine j_sub [4, 5, 6, 7, 8, 9, 10, 11, 12, 13, 0] (lv' := [(0, .ref (ad 0)), (1, .int v1), (2, .int v2), (3, .int v3), (4, .ref (ad 20)), (5, .ref (ad 21)), (6, .ref (ad 22)), (7, .ref (ad 23)), (8, .int v8), (9, .int v9), (10, .int x49)]) rfl ?_
            exact ih _ _ _ _ _ _ _ h
          · have h := jif h c38
            refine j_aload_n E 3 rfl rfl dX6_keep_155 ?_
            refine j_get E 0 (wMb_g0 ad cI cZ _) rfl 9 rfl in_X6_keep_X6 (by decide) (List.mem_of_getElem? (i := 6) rfl) (fun _ h9 => h9) dX6_keep_156 ?_
            refine j_iload E 2 rfl dX6_keep_159 ?_
            obtain ⟨b50, h⟩ := job_else h
            refine j_iald E 7 0 (wMb_g7 ad cI cZ _) rfl b50 dX6_keep_161 ?_
            refine j_iload_n E 6 rfl rfl dX6_keep_162 ?_
            refine j_iadd E dX6_keep_163 ?_
            refine j_goto E (tgt := 174) (by decide) dX6_keep_164 ?_
            obtain ⟨b51, h⟩ := job_else h
            obtain ⟨s52, es52, h⟩ := jle h
            refine j_iast E 21 0 (wMb_g21 ad cI cZ _) rfl (wMb_s21 ad cI cZ _ _) b51 dX6_keep_174 ?_
            refine j_st es52 ?_
            refine j_aload E 9 rfl dX6_keep_175 ?_
            refine j_iload E 0 rfl dX6_keep_177 ?_
            refine j_iload E 1 rfl dX6_keep_179 ?_
            refine j_if_eq E (tgt := 196) (by decide) dX6_keep_181 (fun c53 => absurd c53 (by decide)) (fun c53 => ?_)
            refine j_aload_n E 3 rfl rfl dX6_keep_184 ?_
            refine j_get E 0 (wMb_g0 ad cI cZ _) rfl 10 rfl in_X6_keep_X6 (by decide) (List.mem_of_getElem? (i := 5) rfl) (fun _ h9 => h9) dX6_keep_185 ?_
            refine j_iload E 2 rfl dX6_keep_188 ?_
            obtain ⟨b54, h⟩ := job_else h
            refine j_iald E 8 0 (wMb_g8 ad cI cZ _) rfl b54 dX6_keep_190 ?_
            refine j_iload_n E 6 rfl rfl dX6_keep_191 ?_
            refine j_iadd E dX6_keep_192 ?_
            refine j_goto E (tgt := 203) (by decide) dX6_keep_193 ?_
            obtain ⟨b55, h⟩ := job_else h
            obtain ⟨s56, es56, h⟩ := jle h
            refine j_iast E 22 0 (wMb_g22 ad cI cZ _) rfl (wMb_s22 ad cI cZ _ _) b55 dX6_keep_203 ?_
            refine j_st es56 ?_
            refine j_aload E 10 rfl dX6_keep_204 ?_
            refine j_iload E 0 rfl dX6_keep_206 ?_
            refine j_aload_n E 3 rfl rfl dX6_keep_208 ?_
            refine j_get E 0 (wMb_g0 ad cI cZ _) rfl 11 rfl in_X6_keep_X6 (by decide) (List.mem_of_getElem? (i := 7) rfl) (fun _ h9 => h9) dX6_keep_209 ?_
            refine j_iload E 2 rfl dX6_keep_212 ?_
            obtain ⟨b57, h⟩ := job_else h
            refine j_iald E 9 0 (wMb_g9 ad cI cZ _) rfl b57 dX6_keep_214 ?_
            obtain ⟨b58, h⟩ := job_else h
            obtain ⟨s59, es59, h⟩ := jle h
            refine j_iast E 23 0 (wMb_g23 ad cI cZ _) rfl (wMb_s23 ad cI cZ _ _) b58 dX6_keep_215 ?_
            refine j_st es59 ?_
            obtain ⟨x60, ex60, h⟩ := jle h
            refine j_iinc E 13 rfl kc_1 ex60 (by decide) (lv' := [(10, .int x60), (13, .int x33), (12, .int 1), (11, .int x7), (0, .ref (ad 0)), (1, .int v1), (2, .int v2), (3, .int v3), (4, .ref (ad 20)), (5, .ref (ad 21)), (6, .ref (ad 22)), (7, .ref (ad 23)), (8, .int v8), (9, .int v9)]) rfl dX6_keep_216 ?_
            refine j_goto E (tgt := 46) (by decide) dX6_keep_219 ?_
            refine j_sub [4, 5, 6, 7, 8, 9, 10, 11, 12, 13, 0] (lv' := [(0, .ref (ad 0)), (1, .int v1), (2, .int v2), (3, .int v3), (4, .ref (ad 20)), (5, .ref (ad 21)), (6, .ref (ad 22)), (7, .ref (ad 23)), (8, .int v8), (9, .int v9), (10, .int x60)]) rfl ?_
            exact ih _ _ _ _ _ _ _ h
      · have h := jit h c9
        refine j_goto E (tgt := 216) (by decide) dX6_keep_73 ?_
        obtain ⟨x61, ex61, h⟩ := jle h
        refine j_iinc E 11 rfl kc_1 ex61 (by decide) (lv' := [(10, .int x61), (11, .int x7), (0, .ref (ad 0)), (1, .int v1), (2, .int v2), (3, .int v3), (4, .ref (ad 20)), (5, .ref (ad 21)), (6, .ref (ad 22)), (7, .ref (ad 23)), (8, .int v8), (9, .int v9)]) rfl dX6_keep_216 ?_
        refine j_goto E (tgt := 46) (by decide) dX6_keep_219 ?_
        refine j_sub [2, 3, 4, 5, 6, 7, 8, 9, 10, 11, 0] (lv' := [(0, .ref (ad 0)), (1, .int v1), (2, .int v2), (3, .int v3), (4, .ref (ad 20)), (5, .ref (ad 21)), (6, .ref (ad 22)), (7, .ref (ad 23)), (8, .int v8), (9, .int v9), (10, .int x61)]) rfl ?_
        exact ih _ _ _ _ _ _ _ h
set_option maxHeartbeats 4000000 in
set_option maxRecDepth 100000 in
theorem w_X6_keep_34 {ad : Nat → Nat} {cI cZ : ClassId} {b0 : Nat} (hb0 : ad 0 = b0) {p : Program} {l : Launch} {e : Env} {s : State} {m : MethodId} {args : Array Value} {below : List Frame} {meth : Method} {c : Code} {D : va_G} {A : Nat → Prop} {o : (Int32 × jS)} (E : jE p s m args meth c cX6_keep 14 RX6 wsX6_keep D (jT cI cZ) A) (hr : meth.sig.returnType = (some .int)) {K : jS → Int32 → Int32 → Int32 → Int32 → Int32 → Option (Int32 × jS)} (hK : ∀ (st : jS) (v1 : Int32) (v2 : Int32) (v3 : Int32) (v8 : Int32) (v9 : Int32), K st v1 v2 v3 v8 v9 = some o → J p l e (rm_X6_keep) s m args below meth c 14 D A (wMb ad cI cZ) (jZN D cI cZ A below args s 4 1640 b0 o) 4 1640 st 228 [(0, .ref (ad 0)), (1, .int v1), (2, .int v2), (3, .int v3), (4, .ref (ad 20)), (5, .ref (ad 21)), (6, .ref (ad 22)), (7, .ref (ad 23)), (8, .int v8), (9, .int v9)] []) :
    ∀ (n : Nat) (st : jS) (v1 : Int32) (v2 : Int32) (v3 : Int32) (v8 : Int32) (v9 : Int32), f_X6_keep_34 K n st v1 v2 v3 v8 v9 = some o → J p l e (rm_X6_keep) s m args below meth c 14 D A (wMb ad cI cZ) (jZN D cI cZ A below args s 4 1640 b0 o) 4 1640 st 34 [(0, .ref (ad 0)), (1, .int v1), (2, .int v2), (3, .int v3), (4, .ref (ad 20)), (5, .ref (ad 21)), (6, .ref (ad 22)), (7, .ref (ad 23)), (8, .int v8), (9, .int v9)] [] := by
  intro n
  induction n with
  | zero => intro st v1 v2 v3 v8 v9 h; cases h
  | succ n ih =>
    intro st v1 v2 v3 v8 v9 h
    rw [f_X6_keep_34] at h
    refine j_iload E 9 rfl dX6_keep_34 ?_
    refine j_aload_n E 0 rfl rfl dX6_keep_36 ?_
    refine j_get E 0 (wMb_g0 ad cI cZ _) rfl 6 rfl in_X6_keep_X6 (by decide) (List.mem_of_getElem? (i := 3) rfl) (fun _ h9 => h9) dX6_keep_37 ?_
    refine j_icmp_gt E (tgt := 228) (by decide) dX6_keep_40 (fun c5 => ?_) (fun c5 => ?_)
    · have h := jit h c5
      refine j_sub [0, 1, 2, 3, 4, 5, 6, 7, 8, 9] (lv' := [(0, .ref (ad 0)), (1, .int v1), (2, .int v2), (3, .int v3), (4, .ref (ad 20)), (5, .ref (ad 21)), (6, .ref (ad 22)), (7, .ref (ad 23)), (8, .int v8), (9, .int v9)]) rfl ?_
      exact hK _ _ _ _ _ _ h
    · have h := jif h c5
      refine j_iconst E (kc_0) dX6_keep_43 ?_
      refine j_istore E (by decide) (lv' := [(10, .int 0), (0, .ref (ad 0)), (1, .int v1), (2, .int v2), (3, .int v3), (4, .ref (ad 20)), (5, .ref (ad 21)), (6, .ref (ad 22)), (7, .ref (ad 23)), (8, .int v8), (9, .int v9)]) rfl dX6_keep_44 ?_
      refine j_sub [1, 2, 3, 4, 5, 6, 7, 8, 9, 10, 0] (lv' := [(0, .ref (ad 0)), (1, .int v1), (2, .int v2), (3, .int v3), (4, .ref (ad 20)), (5, .ref (ad 21)), (6, .ref (ad 22)), (7, .ref (ad 23)), (8, .int v8), (9, .int v9), (10, .int 0)]) rfl ?_
      refine w_X6_keep_46 hb0 E hr (fun s68 y62 y63 y64 y65 y66 y67 h => ?_) _ _ _ _ _ _ _ _ h
      obtain ⟨x69, ex69, h⟩ := jle h
      refine j_iinc E 9 rfl kc_1 ex69 (by decide) (lv' := [(9, .int x69), (0, .ref (ad 0)), (1, .int y62), (2, .int y63), (3, .int y64), (4, .ref (ad 20)), (5, .ref (ad 21)), (6, .ref (ad 22)), (7, .ref (ad 23)), (8, .int y65), (10, .int y67)]) rfl dX6_keep_222 ?_
      refine j_goto E (tgt := 34) (by decide) dX6_keep_225 ?_
      refine j_sub [1, 2, 3, 4, 5, 6, 7, 8, 9, 0] (lv' := [(0, .ref (ad 0)), (1, .int y62), (2, .int y63), (3, .int y64), (4, .ref (ad 20)), (5, .ref (ad 21)), (6, .ref (ad 22)), (7, .ref (ad 23)), (8, .int y65), (9, .int x69)]) rfl ?_
      exact ih _ _ _ _ _ _ h
set_option maxHeartbeats 4000000 in
set_option maxRecDepth 100000 in
theorem c_X6_keep {l : Launch} {D : va_G} {ad : Nat → Nat} {cI cZ : ClassId} {st : jS} {a1 : Int32} {a2 : Int32} {a3 : Int32} {b0 : Nat} {o : (Int32 × jS)} (hb0 : ad 0 = b0) (h : f_X6_keep st a1 a2 a3 = some o) : CtN l D cI cZ yX6_keep wsX6_keep rm_X6_keep 4 1640 [.ref (ad 0), .int a1, .int a2, .int a3] (ad, st) b0 o := by
  refine ctN_of (o := o) (cc := cX6_keep) (nL := 14) (own := RX6) (by decide) rfl rfl (Nat.le_of_ble_eq_true rfl) (lv0 := [(0, .ref (ad 0)), (1, .int a1), (2, .int a2), (3, .int a3)]) rfl ?_
  intro p e s m args below meth c A E hr
  rw [f_X6_keep] at h
  refine j_sipush E (ks_410) dX6_keep_0 ?_
  obtain ⟨s1, es1, h⟩ := jle h
  refine j_new_wMb1 E (by decide) (by decide) (List.mem_of_getElem? (i := 1) rfl) ⟨Nat.le_of_ble_eq_true rfl, Nat.le_of_ble_eq_true rfl⟩ dX6_keep_3 (fun ad1 hq => ?_)
  rw [← hq 0 (by decide)]
  replace hb0 := (hq 0 (by decide)).trans hb0
  clear hq
  rename (Nat → Nat) => ad
  refine j_st es1 ?_
  refine j_astore E (by decide) (lv' := [(4, .ref (ad 20)), (0, .ref (ad 0)), (1, .int a1), (2, .int a2), (3, .int a3)]) rfl dX6_keep_5 ?_
  refine j_sipush E (ks_410) dX6_keep_7 ?_
  obtain ⟨s2, es2, h⟩ := jle h
  refine j_new_wMb2 E (by decide) (by decide) (List.mem_of_getElem? (i := 2) rfl) ⟨Nat.le_of_ble_eq_true rfl, Nat.le_of_ble_eq_true rfl⟩ dX6_keep_10 (fun ad1 hq => ?_)
  rw [← hq 0 (by decide)]
  rw [← hq 20 (by decide)]
  replace hb0 := (hq 0 (by decide)).trans hb0
  clear hq
  rename (Nat → Nat) => ad
  refine j_st es2 ?_
  refine j_astore E (by decide) (lv' := [(5, .ref (ad 21)), (4, .ref (ad 20)), (0, .ref (ad 0)), (1, .int a1), (2, .int a2), (3, .int a3)]) rfl dX6_keep_12 ?_
  refine j_sipush E (ks_410) dX6_keep_14 ?_
  obtain ⟨s3, es3, h⟩ := jle h
  refine j_new_wMb3 E (by decide) (by decide) (List.mem_of_getElem? (i := 2) rfl) ⟨Nat.le_of_ble_eq_true rfl, Nat.le_of_ble_eq_true rfl⟩ dX6_keep_17 (fun ad1 hq => ?_)
  rw [← hq 0 (by decide)]
  rw [← hq 20 (by decide)]
  rw [← hq 21 (by decide)]
  replace hb0 := (hq 0 (by decide)).trans hb0
  clear hq
  rename (Nat → Nat) => ad
  refine j_st es3 ?_
  refine j_astore E (by decide) (lv' := [(6, .ref (ad 22)), (5, .ref (ad 21)), (4, .ref (ad 20)), (0, .ref (ad 0)), (1, .int a1), (2, .int a2), (3, .int a3)]) rfl dX6_keep_19 ?_
  refine j_sipush E (ks_410) dX6_keep_21 ?_
  obtain ⟨s4, es4, h⟩ := jle h
  refine j_new_wMb E (by decide) (by decide) (List.mem_of_getElem? (i := 2) rfl) ⟨Nat.le_of_ble_eq_true rfl, Nat.le_of_ble_eq_true rfl⟩ dX6_keep_24 (fun ad1 hq => ?_)
  rw [← hq 0 (by decide)]
  rw [← hq 20 (by decide)]
  rw [← hq 21 (by decide)]
  rw [← hq 22 (by decide)]
  replace hb0 := (hq 0 (by decide)).trans hb0
  clear hq
  rename (Nat → Nat) => ad
  refine j_st es4 ?_
  refine j_astore E (by decide) (lv' := [(7, .ref (ad 23)), (6, .ref (ad 22)), (5, .ref (ad 21)), (4, .ref (ad 20)), (0, .ref (ad 0)), (1, .int a1), (2, .int a2), (3, .int a3)]) rfl dX6_keep_26 ?_
  refine j_iconst E (kc_0) dX6_keep_28 ?_
  refine j_istore E (by decide) (lv' := [(8, .int 0), (7, .ref (ad 23)), (6, .ref (ad 22)), (5, .ref (ad 21)), (4, .ref (ad 20)), (0, .ref (ad 0)), (1, .int a1), (2, .int a2), (3, .int a3)]) rfl dX6_keep_29 ?_
  refine j_iconst E (kc_0) dX6_keep_31 ?_
  refine j_istore E (by decide) (lv' := [(9, .int 0), (8, .int 0), (7, .ref (ad 23)), (6, .ref (ad 22)), (5, .ref (ad 21)), (4, .ref (ad 20)), (0, .ref (ad 0)), (1, .int a1), (2, .int a2), (3, .int a3)]) rfl dX6_keep_32 ?_
  refine j_sub [6, 7, 8, 9, 5, 4, 3, 2, 1, 0] (lv' := [(0, .ref (ad 0)), (1, .int a1), (2, .int a2), (3, .int a3), (4, .ref (ad 20)), (5, .ref (ad 21)), (6, .ref (ad 22)), (7, .ref (ad 23)), (8, .int 0), (9, .int 0)]) rfl ?_
  refine w_X6_keep_34 hb0 E hr (fun s75 y70 y71 y72 y73 y74 h => ?_) _ _ _ _ _ _ _ h
  refine j_aload_n E 0 rfl rfl dX6_keep_228 ?_
  refine j_aload E 4 rfl dX6_keep_229 ?_
  obtain ⟨s76, es76, h⟩ := jle h
  refine j_putR_wMc E in_X6_keep_X6 (List.mem_of_getElem? (i := 4) rfl) dX6_keep_231 (fun ad1 hq => ?_)
  rw [← hq 0 (by decide)]
  rw [← hq 20 (by decide)]
  rw [← hq 21 (by decide)]
  rw [← hq 22 (by decide)]
  rw [← hq 23 (by decide)]
  replace hb0 := (hq 0 (by decide)).trans hb0
  clear hq
  rename (Nat → Nat) => ad
  refine j_st es76 ?_
  refine j_aload_n E 0 rfl rfl dX6_keep_234 ?_
  refine j_aload E 5 rfl dX6_keep_235 ?_
  obtain ⟨s77, es77, h⟩ := jle h
  refine j_putR_wMd E in_X6_keep_X6 (List.mem_of_getElem? (i := 6) rfl) dX6_keep_237 (fun ad1 hq => ?_)
  rw [← hq 0 (by decide)]
  rw [← hq 20 (by decide)]
  rw [← hq 21 (by decide)]
  rw [← hq 22 (by decide)]
  rw [← hq 23 (by decide)]
  replace hb0 := (hq 0 (by decide)).trans hb0
  clear hq
  rename (Nat → Nat) => ad
  refine j_st es77 ?_
  refine j_aload_n E 0 rfl rfl dX6_keep_240 ?_
  refine j_aload E 6 rfl dX6_keep_241 ?_
  obtain ⟨s78, es78, h⟩ := jle h
  refine j_putR_wMe E in_X6_keep_X6 (List.mem_of_getElem? (i := 5) rfl) dX6_keep_243 (fun ad1 hq => ?_)
  rw [← hq 0 (by decide)]
  rw [← hq 20 (by decide)]
  rw [← hq 21 (by decide)]
  rw [← hq 22 (by decide)]
  rw [← hq 23 (by decide)]
  replace hb0 := (hq 0 (by decide)).trans hb0
  clear hq
  rename (Nat → Nat) => ad
  refine j_st es78 ?_
  refine j_aload_n E 0 rfl rfl dX6_keep_246 ?_
  refine j_aload E 7 rfl dX6_keep_247 ?_
  obtain ⟨s79, es79, h⟩ := jle h
  refine j_putR_wM_wMe E in_X6_keep_X6 (List.mem_of_getElem? (i := 7) rfl) dX6_keep_249 (fun ad1 hq => ?_)
  rw [← hq 0 (by decide)]
  rw [← hq 20 (by decide)]
  rw [← hq 21 (by decide)]
  rw [← hq 22 (by decide)]
  rw [← hq 23 (by decide)]
  replace hb0 := (hq 0 (by decide)).trans hb0
  clear hq
  rename (Nat → Nat) => ad
  refine j_st es79 ?_
  refine j_iload E 8 rfl dX6_keep_252 ?_
  exact j_nret E hr hb0 ⟨Nat.le_of_ble_eq_true rfl, Nat.le_of_ble_eq_true rfl⟩ (Option.some.inj h) dX6_keep_254
abbrev rm_X6_replace : Room := { frames := 1, cells := 5, slots := 1680, locals := 33 }
theorem in_X6_replace_X6 : ∀ w ∈ u_ws RX6 TX6 29, w ∈ wsX6_replace := fun w h => (List.mem_cons_of_mem _ (List.mem_append_right _ h))
def f_X6_replace_39 (K : jS → Int32 → Int32 → Int64 → Int32 → Int32 → Option (Int32 × jS)) : Nat → jS → Int32 → Int32 → Int64 → Int32 → Int32 → Option (Int32 × jS)
  | 0, _, _, _, _, _, _ => none
  | n + 1, st, v1, v2, v3, v5, v6 =>
    if v6 ≥ 8 then
      K st v1 v2 v3 v5 v6
    else
    (f_X6_byteOf v3 v6).bind fun r8 =>
    if r8 = 0 then
      if r8 = 0 then
        jl (v5 + 0) fun x13 =>
        jl (v6 + 1) fun x14 =>
        f_X6_replace_39 K n st v1 v2 v3 x13 x14
      else
      jl (v5 + 1) fun x11 =>
      jl (v6 + 1) fun x12 =>
      f_X6_replace_39 K n st v1 v2 v3 x11 x12
    else
    (f_X6_isByte r8).bind fun r15 =>
    if r15 = 0 then
      (f_X6_fail st 2).bind fun r22 =>
      some (r22.1, r22.2)
    else
    if r8 = 0 then
      jl (v5 + 0) fun x20 =>
      jl (v6 + 1) fun x21 =>
      f_X6_replace_39 K n st v1 v2 v3 x20 x21
    else
    jl (v5 + 1) fun x18 =>
    jl (v6 + 1) fun x19 =>
    f_X6_replace_39 K n st v1 v2 v3 x18 x19
def f_X6_replace_123 (K : jS → Int32 → Int32 → Int64 → Int32 → Int32 → Option (Int32 × jS)) : Nat → jS → Int32 → Int32 → Int64 → Int32 → Int32 → Option (Int32 × jS)
  | 0, _, _, _, _, _, _ => none
  | n + 1, st, v1, v2, v3, v5, v7 =>
    if v7 ≥ v1 then
      K st v1 v2 v3 v5 v7
    else
    bif job v7 40 then none else
    bif job v7 40 then none else
    jl (jas st 20 v7 (jag st 5 v7)) fun s34 =>
    jl (v7 + 1) fun x35 =>
    f_X6_replace_123 K n s34 v1 v2 v3 v5 x35
def f_X6_replace_153 (K : jS → Int32 → Int32 → Int64 → Int32 → Int32 → Int32 → Option (Int32 × jS)) : Nat → jS → Int32 → Int32 → Int64 → Int32 → Int32 → Int32 → Option (Int32 × jS)
  | 0, _, _, _, _, _, _, _ => none
  | n + 1, st, v1, v2, v3, v5, v7, v8 =>
    if v8 ≥ 8 then
      K st v1 v2 v3 v5 v7 v8
    else
    (f_X6_byteOf v3 v8).bind fun r43 =>
    if r43 = 0 then
      jl (v8 + 1) fun x50 =>
      f_X6_replace_153 K n st v1 v2 v3 v5 v7 x50
    else
    (f_X6_byteOf v3 v8).bind fun r45 =>
    bif job v7 40 then none else
    jl (jas st 20 v7 r45) fun s47 =>
    jl (v7 + 1) fun x48 =>
    jl (v8 + 1) fun x49 =>
    f_X6_replace_153 K n s47 v1 v2 v3 v5 x48 x49
def f_X6_replace_197 (K : jS → Int32 → Int32 → Int64 → Int32 → Int32 → Int32 → Option (Int32 × jS)) : Nat → jS → Int32 → Int32 → Int64 → Int32 → Int32 → Int32 → Option (Int32 × jS)
  | 0, _, _, _, _, _, _, _ => none
  | n + 1, st, v1, v2, v3, v5, v7, v8 =>
    if v8 ≥ (st.2 2) then
      K st v1 v2 v3 v5 v7 v8
    else
    bif job v8 40 then none else
    bif job ((v8 + v5) - v2) 40 then none else
    jl (jas st 20 ((v8 + v5) - v2) (jag st 5 v8)) fun s62 =>
    jl (v8 + 1) fun x63 =>
    f_X6_replace_197 K n s62 v1 v2 v3 v5 v7 x63
def f_X6_replace (st : jS) (a1 : Int32) (a2 : Int32) (a3 : Int64) : Option (Int32 × jS) :=
  jl (jis st 0 0) fun s1 =>
  if a1 < 0 then
    (f_X6_fail s1 1).bind fun r3 =>
    some (r3.1, r3.2)
  else
  if a2 < 0 then
    (f_X6_fail s1 1).bind fun r5 =>
    some (r5.1, r5.2)
  else
  if (lg_cmp ((a1).toInt64 + (a2).toInt64) (((s1.2 2)).toInt64)) ≤ 0 then
    f_X6_replace_39 (fun s28 y23 y24 y25 y26 y27 =>
      if (((s28.2 2) - y24) + y26) ≤ 40 then
        jl (jaf s28 20 (fun _ => 0)) fun s30 =>
        f_X6_replace_123 (fun s41 y36 y37 y38 y39 y40 =>
          f_X6_replace_153 (fun s57 y51 y52 y53 y54 y55 y56 =>
            jl (y51 + y52) fun x58 =>
            f_X6_replace_197 (fun s70 y64 y65 y66 y67 y68 y69 =>
              jl (jaf s70 5 (s70.1 20)) fun s71 =>
              (f_X6_keep s71 y64 y65 (y67 - y65)).bind fun r72 =>
              jl (jis r72.2 2 ((r72.2.2 2) + (y67 - y65))) fun s73 =>
              some (r72.1, s73)
              ) jFuel s57 y51 y52 y53 y54 y55 x58
            ) jFuel s41 y36 y37 y38 y39 y36 0
          ) jFuel s30 y23 y24 y25 y26 0
      else
      (f_X6_fail s28 3).bind fun r74 =>
      some (r74.1, r74.2)
      ) jFuel s1 a1 a2 a3 0 0
  else
  (f_X6_fail s1 1).bind fun r75 =>
  some (r75.1, r75.2)
set_option maxHeartbeats 4000000 in
set_option maxRecDepth 100000 in
theorem w_X6_replace_39 {ad : Nat → Nat} {cI cZ : ClassId} {b0 : Nat} (hb0 : ad 0 = b0) {p : Program} {l : Launch} {e : Env} {s : State} {m : MethodId} {args : Array Value} {below : List Frame} {meth : Method} {c : Code} {D : va_G} {A : Nat → Prop} {o : (Int32 × jS)} (E : jE p s m args meth c cX6_replace 9 RX6 wsX6_replace D (jT cI cZ) A) (hr : meth.sig.returnType = (some .int)) {K : jS → Int32 → Int32 → Int64 → Int32 → Int32 → Option (Int32 × jS)} (hK : ∀ (st : jS) (v1 : Int32) (v2 : Int32) (v3 : Int64) (v5 : Int32) (v6 : Int32), K st v1 v2 v3 v5 v6 = some o → J p l e (rm_X6_replace) s m args below meth c 9 D A (wM ad cI cZ) (jZN D cI cZ A below args s 5 1680 b0 o) 0 0 st 94 [(0, .ref (ad 0)), (1, .int v1), (2, .int v2), (3, .long v3), (5, .int v5), (6, .int v6)] []) :
    ∀ (n : Nat) (st : jS) (v1 : Int32) (v2 : Int32) (v3 : Int64) (v5 : Int32) (v6 : Int32), f_X6_replace_39 K n st v1 v2 v3 v5 v6 = some o → J p l e (rm_X6_replace) s m args below meth c 9 D A (wM ad cI cZ) (jZN D cI cZ A below args s 5 1680 b0 o) 0 0 st 39 [(0, .ref (ad 0)), (1, .int v1), (2, .int v2), (3, .long v3), (5, .int v5), (6, .int v6)] [] := by
  intro n
  induction n with
  | zero => intro st v1 v2 v3 v5 v6 h; cases h
  | succ n ih =>
    intro st v1 v2 v3 v5 v6 h
    rw [f_X6_replace_39] at h
    refine j_iload E 5 rfl dX6_replace_39 ?_
    refine j_bipush E (kb_8) dX6_replace_41 ?_
    refine j_icmp_ge E (tgt := 94) (by decide) dX6_replace_43 (fun c7 => ?_) (fun c7 => ?_)
    · have h := jit h c7
      refine j_sub [0, 1, 2, 3, 4, 5] (lv' := [(0, .ref (ad 0)), (1, .int v1), (2, .int v2), (3, .long v3), (5, .int v5), (6, .int v6)]) rfl ?_
      exact hK _ _ _ _ _ _ h
    · have h := jif h c7
      refine j_lload_n E 3 rfl rfl dX6_replace_46 ?_
      refine j_iload E 5 rfl dX6_replace_47 ?_
      obtain ⟨r8, er8, h⟩ := jbd h
      refine j_callSi E (As := [.long v3, .int v6]) (c_X6_byteOf er8) (va_cwS 2 E.1.2.2.2.2 gX6_replace_X6_byteOf rfl rfl rfl (by decide +kernel) ⟨Nat.le_of_ble_eq_true rfl, Nat.le_of_ble_eq_true rfl⟩) rfl rfl (Nat.le_of_ble_eq_true rfl) ⟨Nat.le_of_ble_eq_true rfl, Nat.le_of_ble_eq_true rfl⟩ dX6_replace_49 ?_
      refine j_istore E (by decide) (lv' := [(7, .int r8), (0, .ref (ad 0)), (1, .int v1), (2, .int v2), (3, .long v3), (5, .int v5), (6, .int v6)]) rfl dX6_replace_52 ?_
      refine j_iload E 0 rfl dX6_replace_54 ?_
      refine j_if_eq E (tgt := 73) (by decide) dX6_replace_56 (fun c9 => ?_) (fun c9 => ?_)
      · have h := jit h c9
        refine j_iload E 5 rfl dX6_replace_73 ?_
        refine j_iload E 0 rfl dX6_replace_75 ?_
        refine j_if_ne E (tgt := 84) (by decide) dX6_replace_77 (fun c10 => ?_) (fun c10 => ?_)
        · have h := jif h c10
          refine j_iconst E (kc_1) dX6_replace_84 ?_
          refine j_iadd E dX6_replace_85 ?_
          obtain ⟨x11, ex11, h⟩ := jle h
          refine j_topi ex11 ?_
          refine j_istore E (by decide) (lv' := [(5, .int x11), (7, .int r8), (0, .ref (ad 0)), (1, .int v1), (2, .int v2), (3, .long v3), (6, .int v6)]) rfl dX6_replace_86 ?_
          obtain ⟨x12, ex12, h⟩ := jle h
          refine j_iinc E 6 rfl kc_1 ex12 (by decide) (lv' := [(6, .int x12), (5, .int x11), (7, .int r8), (0, .ref (ad 0)), (1, .int v1), (2, .int v2), (3, .long v3)]) rfl dX6_replace_88 ?_
          refine j_goto E (tgt := 39) (by decide) dX6_replace_91 ?_
          refine j_sub [3, 4, 5, 6, 1, 0] (lv' := [(0, .ref (ad 0)), (1, .int v1), (2, .int v2), (3, .long v3), (5, .int x11), (6, .int x12)]) rfl ?_
          exact ih _ _ _ _ _ _ h
        · have h := jit h c10
          refine j_iconst E (kc_0) dX6_replace_80 ?_
          refine j_goto E (tgt := 85) (by decide) dX6_replace_81 ?_
          refine j_iadd E dX6_replace_85 ?_
          obtain ⟨x13, ex13, h⟩ := jle h
          refine j_topi ex13 ?_
          refine j_istore E (by decide) (lv' := [(5, .int x13), (7, .int r8), (0, .ref (ad 0)), (1, .int v1), (2, .int v2), (3, .long v3), (6, .int v6)]) rfl dX6_replace_86 ?_
          obtain ⟨x14, ex14, h⟩ := jle h
          refine j_iinc E 6 rfl kc_1 ex14 (by decide) (lv' := [(6, .int x14), (5, .int x13), (7, .int r8), (0, .ref (ad 0)), (1, .int v1), (2, .int v2), (3, .long v3)]) rfl dX6_replace_88 ?_
          refine j_goto E (tgt := 39) (by decide) dX6_replace_91 ?_
          refine j_sub [3, 4, 5, 6, 1, 0] (lv' := [(0, .ref (ad 0)), (1, .int v1), (2, .int v2), (3, .long v3), (5, .int x13), (6, .int x14)]) rfl ?_
          exact ih _ _ _ _ _ _ h
      · have h := jif h c9
        refine j_iload E 0 rfl dX6_replace_59 ?_
        obtain ⟨r15, er15, h⟩ := jbd h
        refine j_callSi E (As := [.int r8]) (c_X6_isByte er15) (va_cwS 1 E.1.2.2.2.2 gX6_replace_X6_isByte rfl rfl rfl (by decide +kernel) ⟨Nat.le_of_ble_eq_true rfl, Nat.le_of_ble_eq_true rfl⟩) rfl rfl (Nat.le_of_ble_eq_true rfl) ⟨Nat.le_of_ble_eq_true rfl, Nat.le_of_ble_eq_true rfl⟩ dX6_replace_61 ?_
        refine j_if_ne E (tgt := 73) (by decide) dX6_replace_64 (fun c16 => ?_) (fun c16 => ?_)
        · have h := jif h c16
          refine j_iload E 5 rfl dX6_replace_73 ?_
          refine j_iload E 0 rfl dX6_replace_75 ?_
          refine j_if_ne E (tgt := 84) (by decide) dX6_replace_77 (fun c17 => ?_) (fun c17 => ?_)
          · have h := jif h c17
            refine j_iconst E (kc_1) dX6_replace_84 ?_
            refine j_iadd E dX6_replace_85 ?_
            obtain ⟨x18, ex18, h⟩ := jle h
            refine j_topi ex18 ?_
            refine j_istore E (by decide) (lv' := [(5, .int x18), (7, .int r8), (0, .ref (ad 0)), (1, .int v1), (2, .int v2), (3, .long v3), (6, .int v6)]) rfl dX6_replace_86 ?_
            obtain ⟨x19, ex19, h⟩ := jle h
            refine j_iinc E 6 rfl kc_1 ex19 (by decide) (lv' := [(6, .int x19), (5, .int x18), (7, .int r8), (0, .ref (ad 0)), (1, .int v1), (2, .int v2), (3, .long v3)]) rfl dX6_replace_88 ?_
            refine j_goto E (tgt := 39) (by decide) dX6_replace_91 ?_
            refine j_sub [3, 4, 5, 6, 1, 0] (lv' := [(0, .ref (ad 0)), (1, .int v1), (2, .int v2), (3, .long v3), (5, .int x18), (6, .int x19)]) rfl ?_
            exact ih _ _ _ _ _ _ h
          · have h := jit h c17
            refine j_iconst E (kc_0) dX6_replace_80 ?_
            refine j_goto E (tgt := 85) (by decide) dX6_replace_81 ?_
            refine j_iadd E dX6_replace_85 ?_
            obtain ⟨x20, ex20, h⟩ := jle h
            refine j_topi ex20 ?_
            refine j_istore E (by decide) (lv' := [(5, .int x20), (7, .int r8), (0, .ref (ad 0)), (1, .int v1), (2, .int v2), (3, .long v3), (6, .int v6)]) rfl dX6_replace_86 ?_
            obtain ⟨x21, ex21, h⟩ := jle h
            refine j_iinc E 6 rfl kc_1 ex21 (by decide) (lv' := [(6, .int x21), (5, .int x20), (7, .int r8), (0, .ref (ad 0)), (1, .int v1), (2, .int v2), (3, .long v3)]) rfl dX6_replace_88 ?_
            refine j_goto E (tgt := 39) (by decide) dX6_replace_91 ?_
            refine j_sub [3, 4, 5, 6, 1, 0] (lv' := [(0, .ref (ad 0)), (1, .int v1), (2, .int v2), (3, .long v3), (5, .int x20), (6, .int x21)]) rfl ?_
            exact ih _ _ _ _ _ _ h
        · have h := jit h c16
          refine j_aload_n E 1 rfl rfl dX6_replace_67 ?_
          refine j_iconst E (kc_2) dX6_replace_68 ?_
          obtain ⟨r22, er22, h⟩ := jbd h
          refine j_callVi E (As := [.int 2]) (c_X6_fail er22) (cwV 1 E.1.2.2.2.2 gX6_replace_X6_fail rfl rfl rfl (by decide +kernel) ⟨Nat.le_of_ble_eq_true rfl, Nat.le_of_ble_eq_true rfl⟩) (wM_g0 ad cI cZ _) rfl rfl rfl (Nat.le_of_ble_eq_true rfl) ⟨Nat.le_of_ble_eq_true rfl, Nat.le_of_ble_eq_true rfl⟩ dX6_replace_69 ?_
          exact j_nret E hr hb0 ⟨Nat.le_of_ble_eq_true rfl, Nat.le_of_ble_eq_true rfl⟩ (Option.some.inj h) dX6_replace_72
set_option maxHeartbeats 4000000 in
set_option maxRecDepth 100000 in
theorem w_X6_replace_123 {ad : Nat → Nat} {cI cZ : ClassId} {b0 : Nat} (hb0 : ad 0 = b0) {p : Program} {l : Launch} {e : Env} {s : State} {m : MethodId} {args : Array Value} {below : List Frame} {meth : Method} {c : Code} {D : va_G} {A : Nat → Prop} {o : (Int32 × jS)} (E : jE p s m args meth c cX6_replace 9 RX6 wsX6_replace D (jT cI cZ) A) (hr : meth.sig.returnType = (some .int)) {K : jS → Int32 → Int32 → Int64 → Int32 → Int32 → Option (Int32 × jS)} (hK : ∀ (st : jS) (v1 : Int32) (v2 : Int32) (v3 : Int64) (v5 : Int32) (v7 : Int32), K st v1 v2 v3 v5 v7 = some o → J p l e (rm_X6_replace) s m args below meth c 9 D A (wMa ad cI cZ) (jZN D cI cZ A below args s 5 1680 b0 o) 1 40 st 147 [(0, .ref (ad 0)), (1, .int v1), (2, .int v2), (3, .long v3), (5, .int v5), (6, .ref (ad 20)), (7, .int v7)] []) :
    ∀ (n : Nat) (st : jS) (v1 : Int32) (v2 : Int32) (v3 : Int64) (v5 : Int32) (v7 : Int32), f_X6_replace_123 K n st v1 v2 v3 v5 v7 = some o → J p l e (rm_X6_replace) s m args below meth c 9 D A (wMa ad cI cZ) (jZN D cI cZ A below args s 5 1680 b0 o) 1 40 st 123 [(0, .ref (ad 0)), (1, .int v1), (2, .int v2), (3, .long v3), (5, .int v5), (6, .ref (ad 20)), (7, .int v7)] [] := by
  intro n
  induction n with
  | zero => intro st v1 v2 v3 v5 v7 h; cases h
  | succ n ih =>
    intro st v1 v2 v3 v5 v7 h
    rw [f_X6_replace_123] at h
    refine j_iload E 6 rfl dX6_replace_123 ?_
    refine j_iload_n E 1 rfl rfl dX6_replace_125 ?_
    refine j_icmp_ge E (tgt := 147) (by decide) dX6_replace_126 (fun c31 => ?_) (fun c31 => ?_)
    · have h := jit h c31
      refine j_sub [0, 1, 2, 3, 4, 5, 6] (lv' := [(0, .ref (ad 0)), (1, .int v1), (2, .int v2), (3, .long v3), (5, .int v5), (6, .ref (ad 20)), (7, .int v7)]) rfl ?_
      exact hK _ _ _ _ _ _ h
    · have h := jif h c31
      refine j_aload E 5 rfl dX6_replace_129 ?_
      refine j_iload E 6 rfl dX6_replace_131 ?_
      refine j_aload_n E 0 rfl rfl dX6_replace_133 ?_
      refine j_get E 0 (wMa_g0 ad cI cZ _) rfl 7 rfl in_X6_replace_X6 (by decide) (List.mem_of_getElem? (i := 4) rfl) (fun _ h9 => h9) dX6_replace_134 ?_
      refine j_iload E 6 rfl dX6_replace_137 ?_
      obtain ⟨b32, h⟩ := job_else h
      refine j_iald E 5 0 (wMa_g5 ad cI cZ _) rfl b32 dX6_replace_139 ?_
      obtain ⟨b33, h⟩ := job_else h
      obtain ⟨s34, es34, h⟩ := jle h
      refine j_iast E 20 0 (wMa_g20 ad cI cZ _) rfl (wMa_s20 ad cI cZ _ _) b33 dX6_replace_140 ?_
      refine j_st es34 ?_
      obtain ⟨x35, ex35, h⟩ := jle h
      refine j_iinc E 6 rfl kc_1 ex35 (by decide) (lv' := [(7, .int x35), (0, .ref (ad 0)), (1, .int v1), (2, .int v2), (3, .long v3), (5, .int v5), (6, .ref (ad 20))]) rfl dX6_replace_141 ?_
      refine j_goto E (tgt := 123) (by decide) dX6_replace_144 ?_
      refine j_sub [1, 2, 3, 4, 5, 6, 0] (lv' := [(0, .ref (ad 0)), (1, .int v1), (2, .int v2), (3, .long v3), (5, .int v5), (6, .ref (ad 20)), (7, .int x35)]) rfl ?_
      exact ih _ _ _ _ _ _ h
set_option maxHeartbeats 4000000 in
set_option maxRecDepth 100000 in
theorem w_X6_replace_153 {ad : Nat → Nat} {cI cZ : ClassId} {b0 : Nat} (hb0 : ad 0 = b0) {p : Program} {l : Launch} {e : Env} {s : State} {m : MethodId} {args : Array Value} {below : List Frame} {meth : Method} {c : Code} {D : va_G} {A : Nat → Prop} {o : (Int32 × jS)} (E : jE p s m args meth c cX6_replace 9 RX6 wsX6_replace D (jT cI cZ) A) (hr : meth.sig.returnType = (some .int)) {K : jS → Int32 → Int32 → Int64 → Int32 → Int32 → Int32 → Option (Int32 × jS)} (hK : ∀ (st : jS) (v1 : Int32) (v2 : Int32) (v3 : Int64) (v5 : Int32) (v7 : Int32) (v8 : Int32), K st v1 v2 v3 v5 v7 v8 = some o → J p l e (rm_X6_replace) s m args below meth c 9 D A (wMa ad cI cZ) (jZN D cI cZ A below args s 5 1680 b0 o) 1 40 st 192 [(0, .ref (ad 0)), (1, .int v1), (2, .int v2), (3, .long v3), (5, .int v5), (6, .ref (ad 20)), (7, .int v7), (8, .int v8)] []) :
    ∀ (n : Nat) (st : jS) (v1 : Int32) (v2 : Int32) (v3 : Int64) (v5 : Int32) (v7 : Int32) (v8 : Int32), f_X6_replace_153 K n st v1 v2 v3 v5 v7 v8 = some o → J p l e (rm_X6_replace) s m args below meth c 9 D A (wMa ad cI cZ) (jZN D cI cZ A below args s 5 1680 b0 o) 1 40 st 153 [(0, .ref (ad 0)), (1, .int v1), (2, .int v2), (3, .long v3), (5, .int v5), (6, .ref (ad 20)), (7, .int v7), (8, .int v8)] [] := by
  intro n
  induction n with
  | zero => intro st v1 v2 v3 v5 v7 v8 h; cases h
  | succ n ih =>
    intro st v1 v2 v3 v5 v7 v8 h
    rw [f_X6_replace_153] at h
    refine j_iload E 7 rfl dX6_replace_153 ?_
    refine j_bipush E (kb_8) dX6_replace_155 ?_
    refine j_icmp_ge E (tgt := 192) (by decide) dX6_replace_157 (fun c42 => ?_) (fun c42 => ?_)
    · have h := jit h c42
      refine j_sub [0, 1, 2, 3, 4, 5, 6, 7] (lv' := [(0, .ref (ad 0)), (1, .int v1), (2, .int v2), (3, .long v3), (5, .int v5), (6, .ref (ad 20)), (7, .int v7), (8, .int v8)]) rfl ?_
      exact hK _ _ _ _ _ _ _ h
    · have h := jif h c42
      refine j_lload_n E 3 rfl rfl dX6_replace_160 ?_
      refine j_iload E 7 rfl dX6_replace_161 ?_
      obtain ⟨r43, er43, h⟩ := jbd h
      refine j_callSi E (As := [.long v3, .int v8]) (c_X6_byteOf er43) (va_cwS 2 E.1.2.2.2.2 gX6_replace_X6_byteOf rfl rfl rfl (by decide +kernel) ⟨Nat.le_of_ble_eq_true rfl, Nat.le_of_ble_eq_true rfl⟩) rfl rfl (Nat.le_of_ble_eq_true rfl) ⟨Nat.le_of_ble_eq_true rfl, Nat.le_of_ble_eq_true rfl⟩ dX6_replace_163 ?_
      refine j_if_ne E (tgt := 172) (by decide) dX6_replace_166 (fun c44 => ?_) (fun c44 => ?_)
      · have h := jif h c44
        refine j_aload E 5 rfl dX6_replace_172 ?_
        refine j_iload E 6 rfl dX6_replace_174 ?_
        refine j_lload_n E 3 rfl rfl dX6_replace_176 ?_
        refine j_iload E 7 rfl dX6_replace_177 ?_
        obtain ⟨r45, er45, h⟩ := jbd h
        refine j_callSi E (As := [.long v3, .int v8]) (c_X6_byteOf er45) (va_cwS 2 E.1.2.2.2.2 gX6_replace_X6_byteOf rfl rfl rfl (by decide +kernel) ⟨Nat.le_of_ble_eq_true rfl, Nat.le_of_ble_eq_true rfl⟩) rfl rfl (Nat.le_of_ble_eq_true rfl) ⟨Nat.le_of_ble_eq_true rfl, Nat.le_of_ble_eq_true rfl⟩ dX6_replace_179 ?_
        obtain ⟨b46, h⟩ := job_else h
        obtain ⟨s47, es47, h⟩ := jle h
        refine j_iast E 20 0 (wMa_g20 ad cI cZ _) rfl (wMa_s20 ad cI cZ _ _) b46 dX6_replace_182 ?_
        refine j_st es47 ?_
        obtain ⟨x48, ex48, h⟩ := jle h
        refine j_iinc E 6 rfl kc_1 ex48 (by decide) (lv' := [(7, .int x48), (0, .ref (ad 0)), (1, .int v1), (2, .int v2), (3, .long v3), (5, .int v5), (6, .ref (ad 20)), (8, .int v8)]) rfl dX6_replace_183 ?_
        obtain ⟨x49, ex49, h⟩ := jle h
        refine j_iinc E 7 rfl kc_1 ex49 (by decide) (lv' := [(8, .int x49), (7, .int x48), (0, .ref (ad 0)), (1, .int v1), (2, .int v2), (3, .long v3), (5, .int v5), (6, .ref (ad 20))]) rfl dX6_replace_186 ?_
        refine j_goto E (tgt := 153) (by decide) dX6_replace_189 ?_
        refine j_sub [2, 3, 4, 5, 6, 7, 1, 0] (lv' := [(0, .ref (ad 0)), (1, .int v1), (2, .int v2), (3, .long v3), (5, .int v5), (6, .ref (ad 20)), (7, .int x48), (8, .int x49)]) rfl ?_
        exact ih _ _ _ _ _ _ _ h
      · have h := jit h c44
        refine j_goto E (tgt := 186) (by decide) dX6_replace_169 ?_
        obtain ⟨x50, ex50, h⟩ := jle h
        refine j_iinc E 7 rfl kc_1 ex50 (by decide) (lv' := [(8, .int x50), (0, .ref (ad 0)), (1, .int v1), (2, .int v2), (3, .long v3), (5, .int v5), (6, .ref (ad 20)), (7, .int v7)]) rfl dX6_replace_186 ?_
        refine j_goto E (tgt := 153) (by decide) dX6_replace_189 ?_
        refine j_sub [1, 2, 3, 4, 5, 6, 7, 0] (lv' := [(0, .ref (ad 0)), (1, .int v1), (2, .int v2), (3, .long v3), (5, .int v5), (6, .ref (ad 20)), (7, .int v7), (8, .int x50)]) rfl ?_
        exact ih _ _ _ _ _ _ _ h
set_option maxHeartbeats 4000000 in
set_option maxRecDepth 100000 in
theorem w_X6_replace_197 {ad : Nat → Nat} {cI cZ : ClassId} {b0 : Nat} (hb0 : ad 0 = b0) {p : Program} {l : Launch} {e : Env} {s : State} {m : MethodId} {args : Array Value} {below : List Frame} {meth : Method} {c : Code} {D : va_G} {A : Nat → Prop} {o : (Int32 × jS)} (E : jE p s m args meth c cX6_replace 9 RX6 wsX6_replace D (jT cI cZ) A) (hr : meth.sig.returnType = (some .int)) {K : jS → Int32 → Int32 → Int64 → Int32 → Int32 → Int32 → Option (Int32 × jS)} (hK : ∀ (st : jS) (v1 : Int32) (v2 : Int32) (v3 : Int64) (v5 : Int32) (v7 : Int32) (v8 : Int32), K st v1 v2 v3 v5 v7 v8 = some o → J p l e (rm_X6_replace) s m args below meth c 9 D A (wMa ad cI cZ) (jZN D cI cZ A below args s 5 1680 b0 o) 1 40 st 229 [(0, .ref (ad 0)), (1, .int v1), (2, .int v2), (3, .long v3), (5, .int v5), (6, .ref (ad 20)), (7, .int v7), (8, .int v8)] []) :
    ∀ (n : Nat) (st : jS) (v1 : Int32) (v2 : Int32) (v3 : Int64) (v5 : Int32) (v7 : Int32) (v8 : Int32), f_X6_replace_197 K n st v1 v2 v3 v5 v7 v8 = some o → J p l e (rm_X6_replace) s m args below meth c 9 D A (wMa ad cI cZ) (jZN D cI cZ A below args s 5 1680 b0 o) 1 40 st 197 [(0, .ref (ad 0)), (1, .int v1), (2, .int v2), (3, .long v3), (5, .int v5), (6, .ref (ad 20)), (7, .int v7), (8, .int v8)] [] := by
  intro n
  induction n with
  | zero => intro st v1 v2 v3 v5 v7 v8 h; cases h
  | succ n ih =>
    intro st v1 v2 v3 v5 v7 v8 h
    rw [f_X6_replace_197] at h
    refine j_iload E 7 rfl dX6_replace_197 ?_
    refine j_aload_n E 0 rfl rfl dX6_replace_199 ?_
    refine j_get E 0 (wMa_g0 ad cI cZ _) rfl 6 rfl in_X6_replace_X6 (by decide) (List.mem_of_getElem? (i := 2) rfl) (fun _ h9 => h9) dX6_replace_200 ?_
    refine j_icmp_ge E (tgt := 229) (by decide) dX6_replace_203 (fun c59 => ?_) (fun c59 => ?_)
    · have h := jit h c59
      refine j_sub [0, 1, 2, 3, 4, 5, 6, 7] (lv' := [(0, .ref (ad 0)), (1, .int v1), (2, .int v2), (3, .long v3), (5, .int v5), (6, .ref (ad 20)), (7, .int v7), (8, .int v8)]) rfl ?_
      exact hK _ _ _ _ _ _ _ h
    · have h := jif h c59
      refine j_aload E 5 rfl dX6_replace_206 ?_
      refine j_iload E 7 rfl dX6_replace_208 ?_
      refine j_iload E 4 rfl dX6_replace_210 ?_
      refine j_iadd E dX6_replace_212 ?_
      refine j_iload_n E 2 rfl rfl dX6_replace_213 ?_
      refine j_isub E dX6_replace_214 ?_
      refine j_aload_n E 0 rfl rfl dX6_replace_215 ?_
      refine j_get E 0 (wMa_g0 ad cI cZ _) rfl 7 rfl in_X6_replace_X6 (by decide) (List.mem_of_getElem? (i := 4) rfl) (fun _ h9 => h9) dX6_replace_216 ?_
      refine j_iload E 7 rfl dX6_replace_219 ?_
      obtain ⟨b60, h⟩ := job_else h
      refine j_iald E 5 0 (wMa_g5 ad cI cZ _) rfl b60 dX6_replace_221 ?_
      obtain ⟨b61, h⟩ := job_else h
      obtain ⟨s62, es62, h⟩ := jle h
      refine j_iast E 20 0 (wMa_g20 ad cI cZ _) rfl (wMa_s20 ad cI cZ _ _) b61 dX6_replace_222 ?_
      refine j_st es62 ?_
      obtain ⟨x63, ex63, h⟩ := jle h
      refine j_iinc E 7 rfl kc_1 ex63 (by decide) (lv' := [(8, .int x63), (0, .ref (ad 0)), (1, .int v1), (2, .int v2), (3, .long v3), (5, .int v5), (6, .ref (ad 20)), (7, .int v7)]) rfl dX6_replace_223 ?_
      refine j_goto E (tgt := 197) (by decide) dX6_replace_226 ?_
      refine j_sub [1, 2, 3, 4, 5, 6, 7, 0] (lv' := [(0, .ref (ad 0)), (1, .int v1), (2, .int v2), (3, .long v3), (5, .int v5), (6, .ref (ad 20)), (7, .int v7), (8, .int x63)]) rfl ?_
      exact ih _ _ _ _ _ _ _ h
set_option maxHeartbeats 4000000 in
set_option maxRecDepth 100000 in
theorem c_X6_replace {l : Launch} {D : va_G} {ad : Nat → Nat} {cI cZ : ClassId} {st : jS} {a1 : Int32} {a2 : Int32} {a3 : Int64} {b0 : Nat} {o : (Int32 × jS)} (hb0 : ad 0 = b0) (h : f_X6_replace st a1 a2 a3 = some o) : CtN l D cI cZ yX6_replace wsX6_replace rm_X6_replace 5 1680 [.ref (ad 0), .int a1, .int a2, .long a3] (ad, st) b0 o := by
  refine ctN_of (o := o) (cc := cX6_replace) (nL := 9) (own := RX6) (by decide) rfl rfl (Nat.le_of_ble_eq_true rfl) (lv0 := [(0, .ref (ad 0)), (1, .int a1), (2, .int a2), (3, .long a3)]) rfl ?_
  intro p e s m args below meth c A E hr
  rw [f_X6_replace] at h
  refine j_aload_n E 0 rfl rfl dX6_replace_0 ?_
  refine j_iconst E (kc_0) dX6_replace_1 ?_
  obtain ⟨s1, es1, h⟩ := jle h
  refine j_put E 0 (wM_g0 ad cI cZ _) rfl 0 (ty := .int) (wM_p0_0 ad cI cZ _ _) tyX6_ok nmX6 in_X6_replace_X6 (by decide) (List.mem_of_getElem? (i := 1) rfl) (fun _ h9 => h9) rfl (tyX6_ok 0 (by decide)) rfl rfl (Nat.le_of_ble_eq_true rfl) dX6_replace_2 ?_
  refine j_st es1 ?_
  refine j_iload_n E 1 rfl rfl dX6_replace_5 ?_
  refine j_if_lt E (tgt := 27) (by decide) dX6_replace_6 (fun c2 => ?_) (fun c2 => ?_)
  · have h := jit h c2
    refine j_aload_n E 0 rfl rfl dX6_replace_27 ?_
    refine j_iconst E (kc_1) dX6_replace_28 ?_
    obtain ⟨r3, er3, h⟩ := jbd h
    refine j_callVi E (As := [.int 1]) (c_X6_fail er3) (cwV 1 E.1.2.2.2.2 gX6_replace_X6_fail rfl rfl rfl (by decide +kernel) ⟨Nat.le_of_ble_eq_true rfl, Nat.le_of_ble_eq_true rfl⟩) (wM_g0 ad cI cZ _) rfl rfl rfl (Nat.le_of_ble_eq_true rfl) ⟨Nat.le_of_ble_eq_true rfl, Nat.le_of_ble_eq_true rfl⟩ dX6_replace_29 ?_
    exact j_nret E hr hb0 ⟨Nat.le_of_ble_eq_true rfl, Nat.le_of_ble_eq_true rfl⟩ (Option.some.inj h) dX6_replace_32
  · have h := jif h c2
    refine j_iload_n E 2 rfl rfl dX6_replace_9 ?_
    refine j_if_lt E (tgt := 27) (by decide) dX6_replace_10 (fun c4 => ?_) (fun c4 => ?_)
    · have h := jit h c4
      refine j_aload_n E 0 rfl rfl dX6_replace_27 ?_
      refine j_iconst E (kc_1) dX6_replace_28 ?_
      obtain ⟨r5, er5, h⟩ := jbd h
      refine j_callVi E (As := [.int 1]) (c_X6_fail er5) (cwV 1 E.1.2.2.2.2 gX6_replace_X6_fail rfl rfl rfl (by decide +kernel) ⟨Nat.le_of_ble_eq_true rfl, Nat.le_of_ble_eq_true rfl⟩) (wM_g0 ad cI cZ _) rfl rfl rfl (Nat.le_of_ble_eq_true rfl) ⟨Nat.le_of_ble_eq_true rfl, Nat.le_of_ble_eq_true rfl⟩ dX6_replace_29 ?_
      exact j_nret E hr hb0 ⟨Nat.le_of_ble_eq_true rfl, Nat.le_of_ble_eq_true rfl⟩ (Option.some.inj h) dX6_replace_32
    · have h := jif h c4
      refine j_iload_n E 1 rfl rfl dX6_replace_13 ?_
      refine j_i2l E dX6_replace_14 ?_
      refine j_iload_n E 2 rfl rfl dX6_replace_15 ?_
      refine j_i2l E dX6_replace_16 ?_
      refine j_ladd E dX6_replace_17 ?_
      refine j_aload_n E 0 rfl rfl dX6_replace_18 ?_
      refine j_get E 0 (wM_g0 ad cI cZ _) rfl 6 rfl in_X6_replace_X6 (by decide) (List.mem_of_getElem? (i := 2) rfl) (fun _ h9 => h9) dX6_replace_19 ?_
      refine j_i2l E dX6_replace_22 ?_
      refine j_lcmp E dX6_replace_23 ?_
      refine j_if_le E (tgt := 33) (by decide) dX6_replace_24 (fun c6 => ?_) (fun c6 => ?_)
      · have h := jit h c6
        refine j_iconst E (kc_0) dX6_replace_33 ?_
        refine j_istore E (by decide) (lv' := [(5, .int 0), (0, .ref (ad 0)), (1, .int a1), (2, .int a2), (3, .long a3)]) rfl dX6_replace_34 ?_
        refine j_iconst E (kc_0) dX6_replace_36 ?_
        refine j_istore E (by decide) (lv' := [(6, .int 0), (5, .int 0), (0, .ref (ad 0)), (1, .int a1), (2, .int a2), (3, .long a3)]) rfl dX6_replace_37 ?_
        refine j_sub [2, 3, 4, 5, 1, 0] (lv' := [(0, .ref (ad 0)), (1, .int a1), (2, .int a2), (3, .long a3), (5, .int 0), (6, .int 0)]) rfl ?_
        refine w_X6_replace_39 hb0 E hr (fun s28 y23 y24 y25 y26 y27 h => ?_) _ _ _ _ _ _ _ h
        refine j_aload_n E 0 rfl rfl dX6_replace_94 ?_
        refine j_get E 0 (wM_g0 ad cI cZ _) rfl 6 rfl in_X6_replace_X6 (by decide) (List.mem_of_getElem? (i := 2) rfl) (fun _ h9 => h9) dX6_replace_95 ?_
        refine j_iload_n E 2 rfl rfl dX6_replace_98 ?_
        refine j_isub E dX6_replace_99 ?_
        refine j_iload E 4 rfl dX6_replace_100 ?_
        refine j_iadd E dX6_replace_102 ?_
        refine j_bipush E (kb_40) dX6_replace_103 ?_
        refine j_icmp_le E (tgt := 114) (by decide) dX6_replace_105 (fun c29 => ?_) (fun c29 => ?_)
        · have h := jit h c29
          refine j_bipush E (kb_40) dX6_replace_114 ?_
          obtain ⟨s30, es30, h⟩ := jle h
          refine j_new_wMa E (by decide) (by decide) (List.mem_of_getElem? (i := 3) rfl) ⟨Nat.le_of_ble_eq_true rfl, Nat.le_of_ble_eq_true rfl⟩ dX6_replace_116 (fun ad1 hq => ?_)
          rw [← hq 0 (by decide)]
          replace hb0 := (hq 0 (by decide)).trans hb0
          clear hq
          rename (Nat → Nat) => ad
          refine j_st es30 ?_
          refine j_astore E (by decide) (lv' := [(6, .ref (ad 20)), (0, .ref (ad 0)), (1, .int y23), (2, .int y24), (3, .long y25), (5, .int y26)]) rfl dX6_replace_118 ?_
          refine j_iconst E (kc_0) dX6_replace_120 ?_
          refine j_istore E (by decide) (lv' := [(7, .int 0), (6, .ref (ad 20)), (0, .ref (ad 0)), (1, .int y23), (2, .int y24), (3, .long y25), (5, .int y26)]) rfl dX6_replace_121 ?_
          refine j_sub [2, 3, 4, 5, 6, 1, 0] (lv' := [(0, .ref (ad 0)), (1, .int y23), (2, .int y24), (3, .long y25), (5, .int y26), (6, .ref (ad 20)), (7, .int 0)]) rfl ?_
          refine w_X6_replace_123 hb0 E hr (fun s41 y36 y37 y38 y39 y40 h => ?_) _ _ _ _ _ _ _ h
          refine j_iload_n E 1 rfl rfl dX6_replace_147 ?_
          refine j_istore E (by decide) (lv' := [(7, .int y36), (0, .ref (ad 0)), (1, .int y36), (2, .int y37), (3, .long y38), (5, .int y39), (6, .ref (ad 20))]) rfl dX6_replace_148 ?_
          refine j_iconst E (kc_0) dX6_replace_150 ?_
          refine j_istore E (by decide) (lv' := [(8, .int 0), (7, .int y36), (0, .ref (ad 0)), (1, .int y36), (2, .int y37), (3, .long y38), (5, .int y39), (6, .ref (ad 20))]) rfl dX6_replace_151 ?_
          refine j_sub [2, 3, 4, 5, 6, 7, 1, 0] (lv' := [(0, .ref (ad 0)), (1, .int y36), (2, .int y37), (3, .long y38), (5, .int y39), (6, .ref (ad 20)), (7, .int y36), (8, .int 0)]) rfl ?_
          refine w_X6_replace_153 hb0 E hr (fun s57 y51 y52 y53 y54 y55 y56 h => ?_) _ _ _ _ _ _ _ _ h
          refine j_iload_n E 1 rfl rfl dX6_replace_192 ?_
          refine j_iload_n E 2 rfl rfl dX6_replace_193 ?_
          refine j_iadd E dX6_replace_194 ?_
          obtain ⟨x58, ex58, h⟩ := jle h
          refine j_topi ex58 ?_
          refine j_istore E (by decide) (lv' := [(8, .int x58), (0, .ref (ad 0)), (1, .int y51), (2, .int y52), (3, .long y53), (5, .int y54), (6, .ref (ad 20)), (7, .int y55)]) rfl dX6_replace_195 ?_
          refine j_sub [1, 2, 3, 4, 5, 6, 7, 0] (lv' := [(0, .ref (ad 0)), (1, .int y51), (2, .int y52), (3, .long y53), (5, .int y54), (6, .ref (ad 20)), (7, .int y55), (8, .int x58)]) rfl ?_
          refine w_X6_replace_197 hb0 E hr (fun s70 y64 y65 y66 y67 y68 y69 h => ?_) _ _ _ _ _ _ _ _ h
          refine j_aload_n E 0 rfl rfl dX6_replace_229 ?_
          refine j_aload E 5 rfl dX6_replace_230 ?_
          obtain ⟨s71, es71, h⟩ := jle h
          refine j_putR_wM_wMa E in_X6_replace_X6 (List.mem_of_getElem? (i := 4) rfl) dX6_replace_232 (fun ad1 hq => ?_)
          rw [← hq 0 (by decide)]
          rw [← hq 20 (by decide)]
          replace hb0 := (hq 0 (by decide)).trans hb0
          clear hq
          rename (Nat → Nat) => ad
          refine j_st es71 ?_
          refine j_aload_n E 0 rfl rfl dX6_replace_235 ?_
          refine j_iload_n E 1 rfl rfl dX6_replace_236 ?_
          refine j_iload_n E 2 rfl rfl dX6_replace_237 ?_
          refine j_iload E 4 rfl dX6_replace_238 ?_
          refine j_iload_n E 2 rfl rfl dX6_replace_240 ?_
          refine j_isub E dX6_replace_241 ?_
          refine j_sub [0, 1, 2, 3, 4, 6, 7] (lv' := [(0, .ref (ad 0)), (1, .int y64), (2, .int y65), (3, .long y66), (5, .int y67), (7, .int y68), (8, .int y69)]) rfl ?_
          obtain ⟨r72, er72, h⟩ := jbd h
          refine j_callN E (As := [.int y64, .int y65, .int (y67 - y65)]) (c_X6_keep rfl er72) (cwV 3 E.1.2.2.2.2 gX6_replace_X6_keep rfl rfl rfl (by decide +kernel) ⟨Nat.le_of_ble_eq_true rfl, Nat.le_of_ble_eq_true rfl⟩) (wM_g0 ad cI cZ _) rfl rfl (Nat.le_of_ble_eq_true rfl) ⟨Nat.le_of_ble_eq_true rfl, Nat.le_of_ble_eq_true rfl⟩ dX6_replace_242 (fun ad1 hq => ?_)
          rw [← hq]
          replace hb0 := hq.trans hb0
          clear hq
          rename (Nat → Nat) => ad
          refine j_istore E (by decide) (lv' := [(8, .int r72.1), (0, .ref (ad 0)), (1, .int y64), (2, .int y65), (3, .long y66), (5, .int y67), (7, .int y68)]) rfl dX6_replace_245 ?_
          refine j_aload_n E 1 rfl rfl dX6_replace_247 ?_
          refine j_dup E rfl dX6_replace_248 ?_
          refine j_get E 0 (wM_g0 ad cI cZ _) rfl 6 rfl in_X6_replace_X6 (by decide) (List.mem_of_getElem? (i := 2) rfl) (fun _ h9 => h9) dX6_replace_249 ?_
          refine j_iload E 5 rfl dX6_replace_252 ?_
          refine j_iload_n E 3 rfl rfl dX6_replace_254 ?_
          refine j_isub E dX6_replace_255 ?_
          refine j_iadd E dX6_replace_256 ?_
          obtain ⟨s73, es73, h⟩ := jle h
          refine j_put E 0 (wM_g0 ad cI cZ _) rfl 6 (ty := .int) (wM_p0_6 ad cI cZ _ _) tyX6_ok nmX6 in_X6_replace_X6 (by decide) (List.mem_of_getElem? (i := 2) rfl) (fun _ h9 => h9) rfl (tyX6_ok 6 (by decide)) rfl rfl (Nat.le_of_ble_eq_true rfl) dX6_replace_257 ?_
          refine j_st es73 ?_
          refine j_iload E 0 rfl dX6_replace_260 ?_
          exact j_nret E hr hb0 ⟨Nat.le_of_ble_eq_true rfl, Nat.le_of_ble_eq_true rfl⟩ (Option.some.inj h) dX6_replace_262
        · have h := jif h c29
          refine j_aload_n E 0 rfl rfl dX6_replace_108 ?_
          refine j_iconst E (kc_3) dX6_replace_109 ?_
          obtain ⟨r74, er74, h⟩ := jbd h
          refine j_callVi E (As := [.int 3]) (c_X6_fail er74) (cwV 1 E.1.2.2.2.2 gX6_replace_X6_fail rfl rfl rfl (by decide +kernel) ⟨Nat.le_of_ble_eq_true rfl, Nat.le_of_ble_eq_true rfl⟩) (wM_g0 ad cI cZ _) rfl rfl rfl (Nat.le_of_ble_eq_true rfl) ⟨Nat.le_of_ble_eq_true rfl, Nat.le_of_ble_eq_true rfl⟩ dX6_replace_110 ?_
          exact j_nret E hr hb0 ⟨Nat.le_of_ble_eq_true rfl, Nat.le_of_ble_eq_true rfl⟩ (Option.some.inj h) dX6_replace_113
      · have h := jif h c6
        refine j_aload_n E 0 rfl rfl dX6_replace_27 ?_
        refine j_iconst E (kc_1) dX6_replace_28 ?_
        obtain ⟨r75, er75, h⟩ := jbd h
        refine j_callVi E (As := [.int 1]) (c_X6_fail er75) (cwV 1 E.1.2.2.2.2 gX6_replace_X6_fail rfl rfl rfl (by decide +kernel) ⟨Nat.le_of_ble_eq_true rfl, Nat.le_of_ble_eq_true rfl⟩) (wM_g0 ad cI cZ _) rfl rfl rfl (Nat.le_of_ble_eq_true rfl) ⟨Nat.le_of_ble_eq_true rfl, Nat.le_of_ble_eq_true rfl⟩ dX6_replace_29 ?_
        exact j_nret E hr hb0 ⟨Nat.le_of_ble_eq_true rfl, Nat.le_of_ble_eq_true rfl⟩ (Option.some.inj h) dX6_replace_32
