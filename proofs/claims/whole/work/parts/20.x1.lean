abbrev rm_X5_bit : Room := { frames := 0, cells := 0, slots := 0, locals := 0 }
def f_X5_bit (a1 : Int32) : Option Int32 :=
  some (1 <<< (a1 &&& 31))
set_option maxHeartbeats 4000000 in
set_option maxRecDepth 100000 in
theorem c_X5_bit {l : Launch} {D : va_G} {S : Type} {wf : S → va_W} {st : S} {tys : List (ClassId × FieldType)} {a1 : Int32} {o : Int32} (h : f_X5_bit a1 = some o) : CtI l D tys wf yX5_bit wsX5_bit (rm_X5_bit) [.int a1] st o st := by
  refine ctI_of (o := (o, st)) (cc := cX5_bit) (nL := 1) (own := RX5) (by decide) rfl rfl (Nat.le_of_ble_eq_true rfl) (lv0 := [(0, .int a1)]) rfl ?_
  intro p e s m args below meth c A E hr
  rw [f_X5_bit] at h
  refine j_iconst E (kc_1) dX5_bit_0 ?_
  refine j_iload_n E 0 rfl rfl dX5_bit_1 ?_
  refine j_ishl E dX5_bit_2 ?_
  exact j_iret E hr rfl (congrArg (fun z => (z, st)) (Option.some.inj h)) dX5_bit_3
abbrev rm_X5_cell : Room := { frames := 0, cells := 0, slots := 0, locals := 0 }
def f_X5_cell (a1 : Int32) (a2 : Int32) : Option Int32 :=
  some ((a2 * 10) + a1)
set_option maxHeartbeats 4000000 in
set_option maxRecDepth 100000 in
theorem c_X5_cell {l : Launch} {D : va_G} {S : Type} {wf : S → va_W} {st : S} {tys : List (ClassId × FieldType)} {a1 : Int32} {a2 : Int32} {o : Int32} (h : f_X5_cell a1 a2 = some o) : CtI l D tys wf yX5_cell wsX5_cell (rm_X5_cell) [.int a1, .int a2] st o st := by
  refine ctI_of (o := (o, st)) (cc := cX5_cell) (nL := 2) (own := RX5) (by decide) rfl rfl (Nat.le_of_ble_eq_true rfl) (lv0 := [(0, .int a1), (1, .int a2)]) rfl ?_
  intro p e s m args below meth c A E hr
  rw [f_X5_cell] at h
  refine j_iload_n E 1 rfl rfl dX5_cell_0 ?_
  refine j_bipush E (kb_10) dX5_cell_1 ?_
  refine j_imul E dX5_cell_3 ?_
  refine j_iload_n E 0 rfl rfl dX5_cell_4 ?_
  refine j_iadd E dX5_cell_5 ?_
  exact j_iret E hr rfl (congrArg (fun z => (z, st)) (Option.some.inj h)) dX5_cell_6
abbrev rm_X5_mix : Room := { frames := 0, cells := 0, slots := 0, locals := 0 }
def f_X5_mix (a1 : Int64) (a2 : Int32) : Option Int64 :=
  some ((a1 * (31 : Int64)) + (a2).toInt64)
set_option maxHeartbeats 4000000 in
set_option maxRecDepth 100000 in
theorem c_X5_mix {l : Launch} {D : va_G} {S : Type} {wf : S → va_W} {st : S} {tys : List (ClassId × FieldType)} {a1 : Int64} {a2 : Int32} {o : Int64} (h : f_X5_mix a1 a2 = some o) : CtL l D tys wf yX5_mix wsX5_mix (rm_X5_mix) [.long a1, .int a2] st o st := by
  refine ctL_of (o := (o, st)) (cc := cX5_mix) (nL := 3) (own := RX5) (by decide) rfl rfl (Nat.le_of_ble_eq_true rfl) (lv0 := [(0, .long a1), (2, .int a2)]) rfl ?_
  intro p e s m args below meth c A E hr
  rw [f_X5_mix] at h
  refine j_lload_n E 0 rfl rfl dX5_mix_0 ?_
  refine j_ldc2 E (List.mem_of_getElem? (i := 1) rfl) dX5_mix_1 ?_
  refine j_lmul E dX5_mix_4 ?_
  refine j_iload_n E 1 rfl rfl dX5_mix_5 ?_
  refine j_i2l E dX5_mix_6 ?_
  refine j_ladd E dX5_mix_7 ?_
  exact j_lret E hr (congrArg (fun z => (z, st)) (Option.some.inj h)) dX5_mix_8
abbrev rm_X5_isByte : Room := { frames := 0, cells := 0, slots := 0, locals := 0 }
def f_X5_isByte (a1 : Int32) : Option Int32 :=
  if a1 < 32 then
    some 0
  else
  if a1 > 126 then
    some 0
  else
  some 1
set_option maxHeartbeats 4000000 in
set_option maxRecDepth 100000 in
theorem c_X5_isByte {l : Launch} {D : va_G} {S : Type} {wf : S → va_W} {st : S} {tys : List (ClassId × FieldType)} {a1 : Int32} {o : Int32} (h : f_X5_isByte a1 = some o) : CtI l D tys wf yX5_isByte wsX5_isByte (rm_X5_isByte) [.int a1] st o st := by
  refine ctI_of (o := (o, st)) (cc := cX5_isByte) (nL := 1) (own := RX5) (by decide) rfl rfl (Nat.le_of_ble_eq_true rfl) (lv0 := [(0, .int a1)]) rfl ?_
  intro p e s m args below meth c A E hr
  rw [f_X5_isByte] at h
  refine j_iload_n E 0 rfl rfl dX5_isByte_0 ?_
  refine j_bipush E (kb_32) dX5_isByte_1 ?_
  refine j_icmp_lt E (tgt := 16) (by decide) dX5_isByte_3 (fun c1 => ?_) (fun c1 => ?_)
  · have h := jit h c1
    refine j_iconst E (kc_0) dX5_isByte_16 ?_
    exact j_iret E hr rfl (congrArg (fun z => (z, st)) (Option.some.inj h)) dX5_isByte_17
  · have h := jif h c1
    refine j_iload_n E 0 rfl rfl dX5_isByte_6 ?_
    refine j_bipush E (kb_126) dX5_isByte_7 ?_
    refine j_icmp_gt E (tgt := 16) (by decide) dX5_isByte_9 (fun c2 => ?_) (fun c2 => ?_)
    · have h := jit h c2
      refine j_iconst E (kc_0) dX5_isByte_16 ?_
      exact j_iret E hr rfl (congrArg (fun z => (z, st)) (Option.some.inj h)) dX5_isByte_17
    · have h := jif h c2
      refine j_iconst E (kc_1) dX5_isByte_12 ?_
      refine j_goto E (tgt := 17) (by decide) dX5_isByte_13 ?_
      exact j_iret E hr rfl (congrArg (fun z => (z, st)) (Option.some.inj h)) dX5_isByte_17
abbrev rm_X5_packedByte : Room := { frames := 0, cells := 0, slots := 0, locals := 0 }
def f_X5_packedByte (a1 : Int64) (a2 : Int32) : Option Int32 :=
  some (((((a1).toUInt64 >>> (((8 * (7 - a2))).toInt64.toUInt64 &&& Int64.toUInt64 63)).toInt64)).toInt32 &&& 255)
set_option maxHeartbeats 4000000 in
set_option maxRecDepth 100000 in
theorem c_X5_packedByte {l : Launch} {D : va_G} {S : Type} {wf : S → va_W} {st : S} {tys : List (ClassId × FieldType)} {a1 : Int64} {a2 : Int32} {o : Int32} (h : f_X5_packedByte a1 a2 = some o) : CtI l D tys wf yX5_packedByte wsX5_packedByte (rm_X5_packedByte) [.long a1, .int a2] st o st := by
  refine ctI_of (o := (o, st)) (cc := cX5_packedByte) (nL := 3) (own := RX5) (by decide) rfl rfl (Nat.le_of_ble_eq_true rfl) (lv0 := [(0, .long a1), (2, .int a2)]) rfl ?_
  intro p e s m args below meth c A E hr
  rw [f_X5_packedByte] at h
  refine j_lload_n E 0 rfl rfl dX5_packedByte_0 ?_
  refine j_bipush E (kb_8) dX5_packedByte_1 ?_
  refine j_bipush E (kb_7) dX5_packedByte_3 ?_
  refine j_iload_n E 1 rfl rfl dX5_packedByte_5 ?_
  refine j_isub E dX5_packedByte_6 ?_
  refine j_imul E dX5_packedByte_7 ?_
  refine j_lushr E dX5_packedByte_8 ?_
  refine j_l2i E dX5_packedByte_9 ?_
  refine j_sipush E (ks_255) dX5_packedByte_10 ?_
  refine j_iand E dX5_packedByte_13 ?_
  exact j_iret E hr rfl (congrArg (fun z => (z, st)) (Option.some.inj h)) dX5_packedByte_14
abbrev rm_X5_countBytes : Room := { frames := 1, cells := 0, slots := 0, locals := 22 }
def f_X5_countBytes_4 (K : Int64 → Int32 → Int32 → Option Int32) : Nat → Int64 → Int32 → Int32 → Option Int32
  | 0, _, _, _ => none
  | n + 1, v0, v2, v3 =>
    if v3 ≥ 8 then
      K v0 v2 v3
    else
    (f_X5_packedByte v0 v3).bind fun r2 =>
    if r2 = 0 then
      jl (v3 + 1) fun x4 =>
      f_X5_countBytes_4 K n v0 v2 x4
    else
    jl (v2 + 1) fun x5 =>
    jl (v3 + 1) fun x6 =>
    f_X5_countBytes_4 K n v0 x5 x6
def f_X5_countBytes (a1 : Int64) : Option Int32 :=
  f_X5_countBytes_4 (fun y7 y8 y9 =>
    some y8
    ) jFuel a1 0 0
set_option maxHeartbeats 4000000 in
set_option maxRecDepth 100000 in
theorem w_X5_countBytes_4 {S : Type} {wf : S → va_W} {st : S} {tys : List (ClassId × FieldType)} {p : Program} {l : Launch} {e : Env} {s : State} {m : MethodId} {args : Array Value} {below : List Frame} {meth : Method} {c : Code} {D : va_G} {A : Nat → Prop} {o : Int32} (E : jE p s m args meth c cX5_countBytes 4 RX5 wsX5_countBytes D tys A) (hr : meth.sig.returnType = (some .int)) {K : Int64 → Int32 → Int32 → Option Int32} (hK : ∀ (v0 : Int64) (v2 : Int32) (v3 : Int32), K v0 v2 v3 = some o → J p l e (rm_X5_countBytes) s m args below meth c 4 D A wf (jZI D wf A below args s (o, st)) 0 0 st 27 [(0, .long v0), (2, .int v2), (3, .int v3)] []) :
    ∀ (n : Nat) (v0 : Int64) (v2 : Int32) (v3 : Int32), f_X5_countBytes_4 K n v0 v2 v3 = some o → J p l e (rm_X5_countBytes) s m args below meth c 4 D A wf (jZI D wf A below args s (o, st)) 0 0 st 4 [(0, .long v0), (2, .int v2), (3, .int v3)] [] := by
  intro n
  induction n with
  | zero => intro v0 v2 v3 h; cases h
  | succ n ih =>
    intro v0 v2 v3 h
    rw [f_X5_countBytes_4] at h
    refine j_iload_n E 2 rfl rfl dX5_countBytes_4 ?_
    refine j_bipush E (kb_8) dX5_countBytes_5 ?_
    refine j_icmp_ge E (tgt := 27) (by decide) dX5_countBytes_7 (fun c1 => ?_) (fun c1 => ?_)
    · have h := jit h c1
      refine j_sub [0, 1, 2] (lv' := [(0, .long v0), (2, .int v2), (3, .int v3)]) rfl ?_
      exact hK _ _ _ h
    · have h := jif h c1
      refine j_lload_n E 0 rfl rfl dX5_countBytes_10 ?_
      refine j_iload_n E 2 rfl rfl dX5_countBytes_11 ?_
      obtain ⟨r2, er2, h⟩ := jbd h
      refine j_callSi E (As := [.long v0, .int v3]) (c_X5_packedByte er2) (va_cwS 2 E.1.2.2.2.2 gX5_countBytes_X5_packedByte rfl rfl rfl (by decide +kernel) ⟨Nat.le_of_ble_eq_true rfl, Nat.le_of_ble_eq_true rfl⟩) rfl rfl (Nat.le_of_ble_eq_true rfl) ⟨Nat.zero_le _, Nat.zero_le _⟩ dX5_countBytes_12 ?_
      refine j_if_eq E (tgt := 21) (by decide) dX5_countBytes_15 (fun c3 => ?_) (fun c3 => ?_)
      · have h := jit h c3
        obtain ⟨x4, ex4, h⟩ := jle h
        refine j_iinc E 2 rfl kc_1 ex4 (by decide) (lv' := [(3, .int x4), (0, .long v0), (2, .int v2)]) rfl dX5_countBytes_21 ?_
        refine j_goto E (tgt := 4) (by decide) dX5_countBytes_24 ?_
        refine j_sub [1, 2, 0] (lv' := [(0, .long v0), (2, .int v2), (3, .int x4)]) rfl ?_
        exact ih _ _ _ h
      · have h := jif h c3
        obtain ⟨x5, ex5, h⟩ := jle h
        refine j_iinc E 1 rfl kc_1 ex5 (by decide) (lv' := [(2, .int x5), (0, .long v0), (3, .int v3)]) rfl dX5_countBytes_18 ?_
        obtain ⟨x6, ex6, h⟩ := jle h
        refine j_iinc E 2 rfl kc_1 ex6 (by decide) (lv' := [(3, .int x6), (2, .int x5), (0, .long v0)]) rfl dX5_countBytes_21 ?_
        refine j_goto E (tgt := 4) (by decide) dX5_countBytes_24 ?_
        refine j_sub [2, 1, 0] (lv' := [(0, .long v0), (2, .int x5), (3, .int x6)]) rfl ?_
        exact ih _ _ _ h
set_option maxHeartbeats 4000000 in
set_option maxRecDepth 100000 in
theorem c_X5_countBytes {l : Launch} {D : va_G} {S : Type} {wf : S → va_W} {st : S} {tys : List (ClassId × FieldType)} {a1 : Int64} {o : Int32} (h : f_X5_countBytes a1 = some o) : CtI l D tys wf yX5_countBytes wsX5_countBytes (rm_X5_countBytes) [.long a1] st o st := by
  refine ctI_of (o := (o, st)) (cc := cX5_countBytes) (nL := 4) (own := RX5) (by decide) rfl rfl (Nat.le_of_ble_eq_true rfl) (lv0 := [(0, .long a1)]) rfl ?_
  intro p e s m args below meth c A E hr
  rw [f_X5_countBytes] at h
  refine j_iconst E (kc_0) dX5_countBytes_0 ?_
  refine j_istore_n E rfl (by decide) (lv' := [(2, .int 0), (0, .long a1)]) rfl dX5_countBytes_1 ?_
  refine j_iconst E (kc_0) dX5_countBytes_2 ?_
  refine j_istore_n E rfl (by decide) (lv' := [(3, .int 0), (2, .int 0), (0, .long a1)]) rfl dX5_countBytes_3 ?_
  refine j_sub [2, 1, 0] (lv' := [(0, .long a1), (2, .int 0), (3, .int 0)]) rfl ?_
  refine w_X5_countBytes_4 E hr (fun y7 y8 y9 h => ?_) _ _ _ _ h
  refine j_iload_n E 1 rfl rfl dX5_countBytes_27 ?_
  exact j_iret E hr rfl (congrArg (fun z => (z, st)) (Option.some.inj h)) dX5_countBytes_28
abbrev rm_X5_areBytes : Room := { frames := 1, cells := 0, slots := 0, locals := 22 }
def f_X5_areBytes_2 (K : Int64 → Int32 → Option Int32) : Nat → Int64 → Int32 → Option Int32
  | 0, _, _ => none
  | n + 1, v0, v2 =>
    if v2 ≥ 8 then
      K v0 v2
    else
    (f_X5_packedByte v0 v2).bind fun r2 =>
    if r2 = 0 then
      jl (v2 + 1) fun x4 =>
      f_X5_areBytes_2 K n v0 x4
    else
    (f_X5_isByte r2).bind fun r5 =>
    if r5 = 0 then
      some 0
    else
    jl (v2 + 1) fun x7 =>
    f_X5_areBytes_2 K n v0 x7
def f_X5_areBytes (a1 : Int64) : Option Int32 :=
  f_X5_areBytes_2 (fun y8 y9 =>
    some 1
    ) jFuel a1 0
set_option maxHeartbeats 4000000 in
set_option maxRecDepth 100000 in
theorem w_X5_areBytes_2 {S : Type} {wf : S → va_W} {st : S} {tys : List (ClassId × FieldType)} {p : Program} {l : Launch} {e : Env} {s : State} {m : MethodId} {args : Array Value} {below : List Frame} {meth : Method} {c : Code} {D : va_G} {A : Nat → Prop} {o : Int32} (E : jE p s m args meth c cX5_areBytes 4 RX5 wsX5_areBytes D tys A) (hr : meth.sig.returnType = (some .boolean)) {K : Int64 → Int32 → Option Int32} (hK : ∀ (v0 : Int64) (v2 : Int32), K v0 v2 = some o → J p l e (rm_X5_areBytes) s m args below meth c 4 D A wf (jZI D wf A below args s (o, st)) 0 0 st 33 [(0, .long v0), (2, .int v2)] []) :
    ∀ (n : Nat) (v0 : Int64) (v2 : Int32), f_X5_areBytes_2 K n v0 v2 = some o → J p l e (rm_X5_areBytes) s m args below meth c 4 D A wf (jZI D wf A below args s (o, st)) 0 0 st 2 [(0, .long v0), (2, .int v2)] [] := by
  intro n
  induction n with
  | zero => intro v0 v2 h; cases h
  | succ n ih =>
    intro v0 v2 h
    rw [f_X5_areBytes_2] at h
    refine j_iload_n E 1 rfl rfl dX5_areBytes_2 ?_
    refine j_bipush E (kb_8) dX5_areBytes_3 ?_
    refine j_icmp_ge E (tgt := 33) (by decide) dX5_areBytes_5 (fun c1 => ?_) (fun c1 => ?_)
    · have h := jit h c1
      refine j_sub [0, 1] (lv' := [(0, .long v0), (2, .int v2)]) rfl ?_
      exact hK _ _ h
    · have h := jif h c1
      refine j_lload_n E 0 rfl rfl dX5_areBytes_8 ?_
      refine j_iload_n E 1 rfl rfl dX5_areBytes_9 ?_
      obtain ⟨r2, er2, h⟩ := jbd h
      refine j_callSi E (As := [.long v0, .int v2]) (c_X5_packedByte er2) (va_cwS 2 E.1.2.2.2.2 gX5_areBytes_X5_packedByte rfl rfl rfl (by decide +kernel) ⟨Nat.le_of_ble_eq_true rfl, Nat.le_of_ble_eq_true rfl⟩) rfl rfl (Nat.le_of_ble_eq_true rfl) ⟨Nat.zero_le _, Nat.zero_le _⟩ dX5_areBytes_10 ?_
      refine j_istore_n E rfl (by decide) (lv' := [(3, .int r2), (0, .long v0), (2, .int v2)]) rfl dX5_areBytes_13 ?_
      refine j_iload_n E 0 rfl rfl dX5_areBytes_14 ?_
      refine j_if_eq E (tgt := 27) (by decide) dX5_areBytes_15 (fun c3 => ?_) (fun c3 => ?_)
      · have h := jit h c3
        obtain ⟨x4, ex4, h⟩ := jle h
        refine j_iinc E 2 rfl kc_1 ex4 (by decide) (lv' := [(2, .int x4), (3, .int r2), (0, .long v0)]) rfl dX5_areBytes_27 ?_
        refine j_goto E (tgt := 2) (by decide) dX5_areBytes_30 ?_
        refine j_sub [2, 0] (lv' := [(0, .long v0), (2, .int x4)]) rfl ?_
        exact ih _ _ h
      · have h := jif h c3
        refine j_iload_n E 0 rfl rfl dX5_areBytes_18 ?_
        obtain ⟨r5, er5, h⟩ := jbd h
        refine j_callSi E (As := [.int r2]) (c_X5_isByte er5) (va_cwS 1 E.1.2.2.2.2 gX5_areBytes_X5_isByte rfl rfl rfl (by decide +kernel) ⟨Nat.le_of_ble_eq_true rfl, Nat.le_of_ble_eq_true rfl⟩) rfl rfl (Nat.le_of_ble_eq_true rfl) ⟨Nat.zero_le _, Nat.zero_le _⟩ dX5_areBytes_19 ?_
        refine j_if_ne E (tgt := 27) (by decide) dX5_areBytes_22 (fun c6 => ?_) (fun c6 => ?_)
        · have h := jif h c6
          obtain ⟨x7, ex7, h⟩ := jle h
          refine j_iinc E 2 rfl kc_1 ex7 (by decide) (lv' := [(2, .int x7), (3, .int r2), (0, .long v0)]) rfl dX5_areBytes_27 ?_
          refine j_goto E (tgt := 2) (by decide) dX5_areBytes_30 ?_
          refine j_sub [2, 0] (lv' := [(0, .long v0), (2, .int x7)]) rfl ?_
          exact ih _ _ h
        · have h := jit h c6
          refine j_iconst E (kc_0) dX5_areBytes_25 ?_
          exact j_iret E hr rfl (congrArg (fun z => (z, st)) (Option.some.inj h)) dX5_areBytes_26
set_option maxHeartbeats 4000000 in
set_option maxRecDepth 100000 in
theorem c_X5_areBytes {l : Launch} {D : va_G} {S : Type} {wf : S → va_W} {st : S} {tys : List (ClassId × FieldType)} {a1 : Int64} {o : Int32} (h : f_X5_areBytes a1 = some o) : CtI l D tys wf yX5_areBytes wsX5_areBytes (rm_X5_areBytes) [.long a1] st o st := by
  refine ctI_of (o := (o, st)) (cc := cX5_areBytes) (nL := 4) (own := RX5) (by decide) rfl rfl (Nat.le_of_ble_eq_true rfl) (lv0 := [(0, .long a1)]) rfl ?_
  intro p e s m args below meth c A E hr
  rw [f_X5_areBytes] at h
  refine j_iconst E (kc_0) dX5_areBytes_0 ?_
  refine j_istore_n E rfl (by decide) (lv' := [(2, .int 0), (0, .long a1)]) rfl dX5_areBytes_1 ?_
  refine j_sub [1, 0] (lv' := [(0, .long a1), (2, .int 0)]) rfl ?_
  refine w_X5_areBytes_2 E hr (fun y8 y9 h => ?_) _ _ _ h
  refine j_iconst E (kc_1) dX5_areBytes_33 ?_
  exact j_iret E hr rfl (congrArg (fun z => (z, st)) (Option.some.inj h)) dX5_areBytes_34
abbrev rm_X1_holds : Room := { frames := 0, cells := 0, slots := 0, locals := 0 }
theorem in_X1_holds_X1 : ∀ w ∈ u_ws RX1 TX1 3, w ∈ wsX1_holds := fun w h => (List.mem_cons_of_mem _ (List.mem_append_right _ h))
def f_X1_holds (st : jS) (a1 : Int32) : Option (Int32 × jS) :=
  bif job a1 410 then none else
  if (jag st 12 a1) = (-3) then
    some (0, st)
  else
  some (1, st)
set_option maxHeartbeats 4000000 in
set_option maxRecDepth 100000 in
theorem c_X1_holds {l : Launch} {D : va_G} {ad : Nat → Nat} {cI cZ : ClassId} {st : jS} {a1 : Int32} {o : (Int32 × jS)} (h : f_X1_holds st a1 = some o) : CtI l D (jT cI cZ) (wX ad cI cZ) yX1_holds wsX1_holds (rm_X1_holds) [.ref (ad 11), .int a1] st o.1 o.2 := by
  refine ctI_of (o := o) (cc := cX1_holds) (nL := 2) (own := RX1) (by decide) rfl rfl (Nat.le_of_ble_eq_true rfl) (lv0 := [(0, .ref (ad 11)), (1, .int a1)]) rfl ?_
  intro p e s m args below meth c A E hr
  rw [f_X1_holds] at h
  refine j_aload_n E 0 rfl rfl dX1_holds_0 ?_
  refine j_get E 11 (wX_g11 ad cI cZ _) rfl 0 rfl in_X1_holds_X1 (by decide) (List.mem_of_getElem? (i := 1) rfl) (fun _ h9 => h9) dX1_holds_1 ?_
  refine j_iload_n E 1 rfl rfl dX1_holds_4 ?_
  obtain ⟨b1, h⟩ := job_else h
  refine j_iald E 12 0 (wX_g12 ad cI cZ _) rfl b1 dX1_holds_5 ?_
  refine j_bipush E (kb_m3) dX1_holds_6 ?_
  refine j_icmp_eq E (tgt := 15) (by decide) dX1_holds_8 (fun c2 => ?_) (fun c2 => ?_)
  · have h := jit h c2
    refine j_iconst E (kc_0) dX1_holds_15 ?_
    exact j_iret E hr rfl (Option.some.inj h) dX1_holds_16
  · have h := jif h c2
    refine j_iconst E (kc_1) dX1_holds_11 ?_
    refine j_goto E (tgt := 16) (by decide) dX1_holds_12 ?_
    exact j_iret E hr rfl (Option.some.inj h) dX1_holds_16
abbrev rm_X1_put : Room := { frames := 0, cells := 0, slots := 0, locals := 0 }
theorem in_X1_put_X1 : ∀ w ∈ u_ws RX1 TX1 3, w ∈ wsX1_put := fun w h => (List.mem_cons_of_mem _ (List.mem_append_right _ h))
def f_X1_put (st : jS) (a1 : Int32) (a2 : Int32) (a3 : Int32) (a4 : Int32) : Option jS :=
  bif job a1 410 then none else
  jl (jas st 12 a1 a2) fun s2 =>
  bif job a1 410 then none else
  jl (jas s2 13 a1 a3) fun s4 =>
  bif job a1 410 then none else
  jl (jas s4 14 a1 a4) fun s6 =>
  some s6
set_option maxHeartbeats 4000000 in
set_option maxRecDepth 100000 in
theorem c_X1_put {l : Launch} {D : va_G} {ad : Nat → Nat} {cI cZ : ClassId} {st : jS} {a1 : Int32} {a2 : Int32} {a3 : Int32} {a4 : Int32} {o : jS} (h : f_X1_put st a1 a2 a3 a4 = some o) : CtV l D (jT cI cZ) (wX ad cI cZ) yX1_put wsX1_put (rm_X1_put) [.ref (ad 11), .int a1, .int a2, .int a3, .int a4] st o := by
  refine ctV_of (o := o) (cc := cX1_put) (nL := 5) (own := RX1) (by decide) rfl rfl (Nat.le_of_ble_eq_true rfl) (lv0 := [(0, .ref (ad 11)), (1, .int a1), (2, .int a2), (3, .int a3), (4, .int a4)]) rfl ?_
  intro p e s m args below meth c A E hr
  rw [f_X1_put] at h
  refine j_aload_n E 0 rfl rfl dX1_put_0 ?_
  refine j_get E 11 (wX_g11 ad cI cZ _) rfl 0 rfl in_X1_put_X1 (by decide) (List.mem_of_getElem? (i := 1) rfl) (fun _ h9 => h9) dX1_put_1 ?_
  refine j_iload_n E 1 rfl rfl dX1_put_4 ?_
  refine j_iload_n E 2 rfl rfl dX1_put_5 ?_
  obtain ⟨b1, h⟩ := job_else h
  obtain ⟨s2, es2, h⟩ := jle h
  refine j_iast E 12 0 (wX_g12 ad cI cZ _) rfl (wX_s12 ad cI cZ _ _) b1 dX1_put_6 ?_
  refine j_st es2 ?_
  refine j_aload_n E 0 rfl rfl dX1_put_7 ?_
  refine j_get E 11 (wX_g11 ad cI cZ _) rfl 1 rfl in_X1_put_X1 (by decide) (List.mem_of_getElem? (i := 2) rfl) (fun _ h9 => h9) dX1_put_8 ?_
  refine j_iload_n E 1 rfl rfl dX1_put_11 ?_
  refine j_iload_n E 3 rfl rfl dX1_put_12 ?_
  obtain ⟨b3, h⟩ := job_else h
  obtain ⟨s4, es4, h⟩ := jle h
  refine j_iast E 13 0 (wX_g13 ad cI cZ _) rfl (wX_s13 ad cI cZ _ _) b3 dX1_put_13 ?_
  refine j_st es4 ?_
  refine j_aload_n E 0 rfl rfl dX1_put_14 ?_
  refine j_get E 11 (wX_g11 ad cI cZ _) rfl 2 rfl in_X1_put_X1 (by decide) (List.mem_of_getElem? (i := 3) rfl) (fun _ h9 => h9) dX1_put_15 ?_
  refine j_iload_n E 1 rfl rfl dX1_put_18 ?_
  refine j_iload E 4 rfl dX1_put_19 ?_
  obtain ⟨b5, h⟩ := job_else h
  obtain ⟨s6, es6, h⟩ := jle h
  refine j_iast E 14 0 (wX_g14 ad cI cZ _) rfl (wX_s14 ad cI cZ _ _) b5 dX1_put_21 ?_
  refine j_st es6 ?_
  exact j_vret E hr (Option.some.inj h) dX1_put_22
abbrev rm_X1_drop : Room := { frames := 1, cells := 0, slots := 0, locals := 24 }
def f_X1_drop (st : jS) (a1 : Int32) : Option jS :=
  (f_X1_put st a1 (-3) (-1) 0).bind fun r1 =>
  some r1
set_option maxHeartbeats 4000000 in
set_option maxRecDepth 100000 in
theorem c_X1_drop {l : Launch} {D : va_G} {ad : Nat → Nat} {cI cZ : ClassId} {st : jS} {a1 : Int32} {o : jS} (h : f_X1_drop st a1 = some o) : CtV l D (jT cI cZ) (wX ad cI cZ) yX1_drop wsX1_drop (rm_X1_drop) [.ref (ad 11), .int a1] st o := by
  refine ctV_of (o := o) (cc := cX1_drop) (nL := 2) (own := RX1) (by decide) rfl rfl (Nat.le_of_ble_eq_true rfl) (lv0 := [(0, .ref (ad 11)), (1, .int a1)]) rfl ?_
  intro p e s m args below meth c A E hr
  rw [f_X1_drop] at h
  refine j_aload_n E 0 rfl rfl dX1_drop_0 ?_
  refine j_iload_n E 1 rfl rfl dX1_drop_1 ?_
  refine j_bipush E (kb_m3) dX1_drop_2 ?_
  refine j_iconst E (kc_m1) dX1_drop_4 ?_
  refine j_iconst E (kc_0) dX1_drop_5 ?_
  obtain ⟨r1, er1, h⟩ := jbd h
  refine j_callVv E (As := [.int a1, .int (-3), .int (-1), .int 0]) (c_X1_put er1) (cwV 4 E.1.2.2.2.2 gX1_drop_X1_put rfl rfl rfl (by decide +kernel) ⟨Nat.le_of_ble_eq_true rfl, Nat.le_of_ble_eq_true rfl⟩) (wX_g11 ad cI cZ _) rfl rfl rfl (Nat.le_of_ble_eq_true rfl) ⟨Nat.zero_le _, Nat.zero_le _⟩ dX1_drop_6 ?_
  exact j_vret E hr (Option.some.inj h) dX1_drop_9
abbrev rm_X1_clear : Room := { frames := 2, cells := 0, slots := 0, locals := 45 }
def f_X1_clear_2 (K : jS → Int32 → Option jS) : Nat → jS → Int32 → Option jS
  | 0, _, _ => none
  | n + 1, st, v1 =>
    if v1 ≥ 410 then
      K st v1
    else
    (f_X1_drop st v1).bind fun r2 =>
    jl (v1 + 1) fun x3 =>
    f_X1_clear_2 K n r2 x3
def f_X1_clear (st : jS)  : Option jS :=
  f_X1_clear_2 (fun s5 y4 =>
    some s5
    ) jFuel st 0
set_option maxHeartbeats 4000000 in
set_option maxRecDepth 100000 in
theorem w_X1_clear_2 {ad : Nat → Nat} {cI cZ : ClassId} {p : Program} {l : Launch} {e : Env} {s : State} {m : MethodId} {args : Array Value} {below : List Frame} {meth : Method} {c : Code} {D : va_G} {A : Nat → Prop} {o : jS} (E : jE p s m args meth c cX1_clear 2 RX1 wsX1_clear D (jT cI cZ) A) (hr : meth.sig.returnType = none) {K : jS → Int32 → Option jS} (hK : ∀ (st : jS) (v1 : Int32), K st v1 = some o → J p l e (rm_X1_clear) s m args below meth c 2 D A (wX ad cI cZ) (jZV D (wX ad cI cZ) A below args s o) 0 0 st 20 [(0, .ref (ad 11)), (1, .int v1)] []) :
    ∀ (n : Nat) (st : jS) (v1 : Int32), f_X1_clear_2 K n st v1 = some o → J p l e (rm_X1_clear) s m args below meth c 2 D A (wX ad cI cZ) (jZV D (wX ad cI cZ) A below args s o) 0 0 st 2 [(0, .ref (ad 11)), (1, .int v1)] [] := by
  intro n
  induction n with
  | zero => intro st v1 h; cases h
  | succ n ih =>
    intro st v1 h
    rw [f_X1_clear_2] at h
    refine j_iload_n E 1 rfl rfl dX1_clear_2 ?_
    refine j_sipush E (ks_410) dX1_clear_3 ?_
    refine j_icmp_ge E (tgt := 20) (by decide) dX1_clear_6 (fun c1 => ?_) (fun c1 => ?_)
    · have h := jit h c1
      refine j_sub [0, 1] (lv' := [(0, .ref (ad 11)), (1, .int v1)]) rfl ?_
      exact hK _ _ h
    · have h := jif h c1
      refine j_aload_n E 0 rfl rfl dX1_clear_9 ?_
      refine j_iload_n E 1 rfl rfl dX1_clear_10 ?_
      obtain ⟨r2, er2, h⟩ := jbd h
      refine j_callVv E (As := [.int v1]) (c_X1_drop er2) (cwV 1 E.1.2.2.2.2 gX1_clear_X1_drop rfl rfl rfl (by decide +kernel) ⟨Nat.le_of_ble_eq_true rfl, Nat.le_of_ble_eq_true rfl⟩) (wX_g11 ad cI cZ _) rfl rfl rfl (Nat.le_of_ble_eq_true rfl) ⟨Nat.zero_le _, Nat.zero_le _⟩ dX1_clear_11 ?_
      obtain ⟨x3, ex3, h⟩ := jle h
      refine j_iinc E 1 rfl kc_1 ex3 (by decide) (lv' := [(1, .int x3), (0, .ref (ad 11))]) rfl dX1_clear_14 ?_
      refine j_goto E (tgt := 2) (by decide) dX1_clear_17 ?_
      refine j_sub [1, 0] (lv' := [(0, .ref (ad 11)), (1, .int x3)]) rfl ?_
      exact ih _ _ h
set_option maxHeartbeats 4000000 in
set_option maxRecDepth 100000 in
theorem c_X1_clear {l : Launch} {D : va_G} {ad : Nat → Nat} {cI cZ : ClassId} {st : jS}  {o : jS} (h : f_X1_clear st = some o) : CtV l D (jT cI cZ) (wX ad cI cZ) yX1_clear wsX1_clear (rm_X1_clear) [.ref (ad 11)] st o := by
  refine ctV_of (o := o) (cc := cX1_clear) (nL := 2) (own := RX1) (by decide) rfl rfl (Nat.le_of_ble_eq_true rfl) (lv0 := [(0, .ref (ad 11))]) rfl ?_
  intro p e s m args below meth c A E hr
  rw [f_X1_clear] at h
  refine j_iconst E (kc_0) dX1_clear_0 ?_
  refine j_istore_n E rfl (by decide) (lv' := [(1, .int 0), (0, .ref (ad 11))]) rfl dX1_clear_1 ?_
  refine j_sub [1, 0] (lv' := [(0, .ref (ad 11)), (1, .int 0)]) rfl ?_
  refine w_X1_clear_2 E hr (fun s5 y4 h => ?_) _ _ _ h
  exact j_vret E hr (Option.some.inj h) dX1_clear_20
abbrev rm_X1_count : Room := { frames := 1, cells := 0, slots := 0, locals := 21 }
def f_X1_count_4 (K : jS → Int32 → Int32 → Option (Int32 × jS)) : Nat → jS → Int32 → Int32 → Option (Int32 × jS)
  | 0, _, _, _ => none
  | n + 1, st, v1, v2 =>
    if v2 ≥ 410 then
      K st v1 v2
    else
    (f_X1_holds st v2).bind fun r2 =>
    if r2.1 = 0 then
      jl (v2 + 1) fun x4 =>
      f_X1_count_4 K n r2.2 v1 x4
    else
    jl (v1 + 1) fun x5 =>
    jl (v2 + 1) fun x6 =>
    f_X1_count_4 K n r2.2 x5 x6
def f_X1_count (st : jS)  : Option (Int32 × jS) :=
  f_X1_count_4 (fun s9 y7 y8 =>
    some (y7, s9)
    ) jFuel st 0 0
set_option maxHeartbeats 4000000 in
set_option maxRecDepth 100000 in
theorem w_X1_count_4 {ad : Nat → Nat} {cI cZ : ClassId} {p : Program} {l : Launch} {e : Env} {s : State} {m : MethodId} {args : Array Value} {below : List Frame} {meth : Method} {c : Code} {D : va_G} {A : Nat → Prop} {o : (Int32 × jS)} (E : jE p s m args meth c cX1_count 3 RX1 wsX1_count D (jT cI cZ) A) (hr : meth.sig.returnType = (some .int)) {K : jS → Int32 → Int32 → Option (Int32 × jS)} (hK : ∀ (st : jS) (v1 : Int32) (v2 : Int32), K st v1 v2 = some o → J p l e (rm_X1_count) s m args below meth c 3 D A (wX ad cI cZ) (jZI D (wX ad cI cZ) A below args s o) 0 0 st 28 [(0, .ref (ad 11)), (1, .int v1), (2, .int v2)] []) :
    ∀ (n : Nat) (st : jS) (v1 : Int32) (v2 : Int32), f_X1_count_4 K n st v1 v2 = some o → J p l e (rm_X1_count) s m args below meth c 3 D A (wX ad cI cZ) (jZI D (wX ad cI cZ) A below args s o) 0 0 st 4 [(0, .ref (ad 11)), (1, .int v1), (2, .int v2)] [] := by
  intro n
  induction n with
  | zero => intro st v1 v2 h; cases h
  | succ n ih =>
    intro st v1 v2 h
    rw [f_X1_count_4] at h
    refine j_iload_n E 2 rfl rfl dX1_count_4 ?_
    refine j_sipush E (ks_410) dX1_count_5 ?_
    refine j_icmp_ge E (tgt := 28) (by decide) dX1_count_8 (fun c1 => ?_) (fun c1 => ?_)
    · have h := jit h c1
      refine j_sub [0, 1, 2] (lv' := [(0, .ref (ad 11)), (1, .int v1), (2, .int v2)]) rfl ?_
      exact hK _ _ _ h
    · have h := jif h c1
      refine j_aload_n E 0 rfl rfl dX1_count_11 ?_
      refine j_iload_n E 2 rfl rfl dX1_count_12 ?_
      obtain ⟨r2, er2, h⟩ := jbd h
      refine j_callVi E (As := [.int v2]) (c_X1_holds er2) (cwV 1 E.1.2.2.2.2 gX1_count_X1_holds rfl rfl rfl (by decide +kernel) ⟨Nat.le_of_ble_eq_true rfl, Nat.le_of_ble_eq_true rfl⟩) (wX_g11 ad cI cZ _) rfl rfl rfl (Nat.le_of_ble_eq_true rfl) ⟨Nat.zero_le _, Nat.zero_le _⟩ dX1_count_13 ?_
      refine j_if_eq E (tgt := 22) (by decide) dX1_count_16 (fun c3 => ?_) (fun c3 => ?_)
      · have h := jit h c3
        obtain ⟨x4, ex4, h⟩ := jle h
        refine j_iinc E 2 rfl kc_1 ex4 (by decide) (lv' := [(2, .int x4), (0, .ref (ad 11)), (1, .int v1)]) rfl dX1_count_22 ?_
        refine j_goto E (tgt := 4) (by decide) dX1_count_25 ?_
        refine j_sub [1, 2, 0] (lv' := [(0, .ref (ad 11)), (1, .int v1), (2, .int x4)]) rfl ?_
        exact ih _ _ _ h
      · have h := jif h c3
        obtain ⟨x5, ex5, h⟩ := jle h
        refine j_iinc E 1 rfl kc_1 ex5 (by decide) (lv' := [(1, .int x5), (0, .ref (ad 11)), (2, .int v2)]) rfl dX1_count_19 ?_
        obtain ⟨x6, ex6, h⟩ := jle h
        refine j_iinc E 2 rfl kc_1 ex6 (by decide) (lv' := [(2, .int x6), (1, .int x5), (0, .ref (ad 11))]) rfl dX1_count_22 ?_
        refine j_goto E (tgt := 4) (by decide) dX1_count_25 ?_
        refine j_sub [2, 1, 0] (lv' := [(0, .ref (ad 11)), (1, .int x5), (2, .int x6)]) rfl ?_
        exact ih _ _ _ h
set_option maxHeartbeats 4000000 in
set_option maxRecDepth 100000 in
theorem c_X1_count {l : Launch} {D : va_G} {ad : Nat → Nat} {cI cZ : ClassId} {st : jS}  {o : (Int32 × jS)} (h : f_X1_count st = some o) : CtI l D (jT cI cZ) (wX ad cI cZ) yX1_count wsX1_count (rm_X1_count) [.ref (ad 11)] st o.1 o.2 := by
  refine ctI_of (o := o) (cc := cX1_count) (nL := 3) (own := RX1) (by decide) rfl rfl (Nat.le_of_ble_eq_true rfl) (lv0 := [(0, .ref (ad 11))]) rfl ?_
  intro p e s m args below meth c A E hr
  rw [f_X1_count] at h
  refine j_iconst E (kc_0) dX1_count_0 ?_
  refine j_istore_n E rfl (by decide) (lv' := [(1, .int 0), (0, .ref (ad 11))]) rfl dX1_count_1 ?_
  refine j_iconst E (kc_0) dX1_count_2 ?_
  refine j_istore_n E rfl (by decide) (lv' := [(2, .int 0), (1, .int 0), (0, .ref (ad 11))]) rfl dX1_count_3 ?_
  refine j_sub [2, 1, 0] (lv' := [(0, .ref (ad 11)), (1, .int 0), (2, .int 0)]) rfl ?_
  refine w_X1_count_4 E hr (fun s9 y7 y8 h => ?_) _ _ _ _ h
  refine j_iload_n E 1 rfl rfl dX1_count_28 ?_
  exact j_iret E hr rfl (Option.some.inj h) dX1_count_29
abbrev rm_X1_keepUnchanged : Room := { frames := 2, cells := 0, slots := 0, locals := 45 }
theorem in_X1_keepUnchanged_X1 : ∀ w ∈ u_ws RX1 TX1 3, w ∈ wsX1_keepUnchanged := fun w h => (List.mem_cons_of_mem _ (List.mem_append_right _ h))
def f_X1_keepUnchanged_5 (K : jS → Int32 → Int32 → Int32 → Int32 → Option (Int32 × jS)) : Nat → jS → Int32 → Int32 → Int32 → Int32 → Option (Int32 × jS)
  | 0, _, _, _, _, _ => none
  | n + 1, st, v1, v2, v3, v4 =>
    if v4 ≥ (v2 * 10) then
      K st v1 v2 v3 v4
    else
    (f_X1_holds st v4).bind fun r2 =>
    if r2.1 = 0 then
      jl (v4 + 1) fun x4 =>
      f_X1_keepUnchanged_5 K n r2.2 v1 v2 v3 x4
    else
    bif job v4 410 then none else
    if (jag r2.2 13 v4) ≤ v1 then
      jl (v4 + 1) fun x7 =>
      f_X1_keepUnchanged_5 K n r2.2 v1 v2 v3 x7
    else
    (f_X1_drop r2.2 v4).bind fun r8 =>
    jl (v3 + 1) fun x9 =>
    jl (v4 + 1) fun x10 =>
    f_X1_keepUnchanged_5 K n r8 v1 v2 x9 x10
def f_X1_keepUnchanged (st : jS) (a1 : Int32) (a2 : Int32) : Option (Int32 × jS) :=
  f_X1_keepUnchanged_5 (fun s15 y11 y12 y13 y14 =>
    some (y13, s15)
    ) jFuel st a1 a2 0 0
set_option maxHeartbeats 4000000 in
set_option maxRecDepth 100000 in
theorem w_X1_keepUnchanged_5 {ad : Nat → Nat} {cI cZ : ClassId} {p : Program} {l : Launch} {e : Env} {s : State} {m : MethodId} {args : Array Value} {below : List Frame} {meth : Method} {c : Code} {D : va_G} {A : Nat → Prop} {o : (Int32 × jS)} (E : jE p s m args meth c cX1_keepUnchanged 5 RX1 wsX1_keepUnchanged D (jT cI cZ) A) (hr : meth.sig.returnType = (some .int)) {K : jS → Int32 → Int32 → Int32 → Int32 → Option (Int32 × jS)} (hK : ∀ (st : jS) (v1 : Int32) (v2 : Int32) (v3 : Int32) (v4 : Int32), K st v1 v2 v3 v4 = some o → J p l e (rm_X1_keepUnchanged) s m args below meth c 5 D A (wX ad cI cZ) (jZI D (wX ad cI cZ) A below args s o) 0 0 st 49 [(0, .ref (ad 11)), (1, .int v1), (2, .int v2), (3, .int v3), (4, .int v4)] []) :
    ∀ (n : Nat) (st : jS) (v1 : Int32) (v2 : Int32) (v3 : Int32) (v4 : Int32), f_X1_keepUnchanged_5 K n st v1 v2 v3 v4 = some o → J p l e (rm_X1_keepUnchanged) s m args below meth c 5 D A (wX ad cI cZ) (jZI D (wX ad cI cZ) A below args s o) 0 0 st 5 [(0, .ref (ad 11)), (1, .int v1), (2, .int v2), (3, .int v3), (4, .int v4)] [] := by
  intro n
  induction n with
  | zero => intro st v1 v2 v3 v4 h; cases h
  | succ n ih =>
    intro st v1 v2 v3 v4 h
    rw [f_X1_keepUnchanged_5] at h
    refine j_iload E 4 rfl dX1_keepUnchanged_5 ?_
    refine j_iload_n E 2 rfl rfl dX1_keepUnchanged_7 ?_
    refine j_bipush E (kb_10) dX1_keepUnchanged_8 ?_
    refine j_imul E dX1_keepUnchanged_10 ?_
    refine j_icmp_ge E (tgt := 49) (by decide) dX1_keepUnchanged_11 (fun c1 => ?_) (fun c1 => ?_)
    · have h := jit h c1
      refine j_sub [0, 1, 2, 3, 4] (lv' := [(0, .ref (ad 11)), (1, .int v1), (2, .int v2), (3, .int v3), (4, .int v4)]) rfl ?_
      exact hK _ _ _ _ _ h
    · have h := jif h c1
      refine j_aload_n E 0 rfl rfl dX1_keepUnchanged_14 ?_
      refine j_iload E 4 rfl dX1_keepUnchanged_15 ?_
      obtain ⟨r2, er2, h⟩ := jbd h
      refine j_callVi E (As := [.int v4]) (c_X1_holds er2) (cwV 1 E.1.2.2.2.2 gX1_keepUnchanged_X1_holds rfl rfl rfl (by decide +kernel) ⟨Nat.le_of_ble_eq_true rfl, Nat.le_of_ble_eq_true rfl⟩) (wX_g11 ad cI cZ _) rfl rfl rfl (Nat.le_of_ble_eq_true rfl) ⟨Nat.zero_le _, Nat.zero_le _⟩ dX1_keepUnchanged_17 ?_
      refine j_if_eq E (tgt := 43) (by decide) dX1_keepUnchanged_20 (fun c3 => ?_) (fun c3 => ?_)
      · have h := jit h c3
        obtain ⟨x4, ex4, h⟩ := jle h
        refine j_iinc E 4 rfl kc_1 ex4 (by decide) (lv' := [(4, .int x4), (0, .ref (ad 11)), (1, .int v1), (2, .int v2), (3, .int v3)]) rfl dX1_keepUnchanged_43 ?_
        refine j_goto E (tgt := 5) (by decide) dX1_keepUnchanged_46 ?_
        refine j_sub [1, 2, 3, 4, 0] (lv' := [(0, .ref (ad 11)), (1, .int v1), (2, .int v2), (3, .int v3), (4, .int x4)]) rfl ?_
        exact ih _ _ _ _ _ h
      · have h := jif h c3
        refine j_aload_n E 0 rfl rfl dX1_keepUnchanged_23 ?_
        refine j_get E 11 (wX_g11 ad cI cZ _) rfl 1 rfl in_X1_keepUnchanged_X1 (by decide) (List.mem_of_getElem? (i := 1) rfl) (fun _ h9 => h9) dX1_keepUnchanged_24 ?_
        refine j_iload E 4 rfl dX1_keepUnchanged_27 ?_
        obtain ⟨b5, h⟩ := job_else h
        refine j_iald E 13 0 (wX_g13 ad cI cZ _) rfl b5 dX1_keepUnchanged_29 ?_
        refine j_iload_n E 1 rfl rfl dX1_keepUnchanged_30 ?_
        refine j_icmp_le E (tgt := 43) (by decide) dX1_keepUnchanged_31 (fun c6 => ?_) (fun c6 => ?_)
        · have h := jit h c6
          obtain ⟨x7, ex7, h⟩ := jle h
          refine j_iinc E 4 rfl kc_1 ex7 (by decide) (lv' := [(4, .int x7), (0, .ref (ad 11)), (1, .int v1), (2, .int v2), (3, .int v3)]) rfl dX1_keepUnchanged_43 ?_
          refine j_goto E (tgt := 5) (by decide) dX1_keepUnchanged_46 ?_
          refine j_sub [1, 2, 3, 4, 0] (lv' := [(0, .ref (ad 11)), (1, .int v1), (2, .int v2), (3, .int v3), (4, .int x7)]) rfl ?_
          exact ih _ _ _ _ _ h
        · have h := jif h c6
          refine j_aload_n E 0 rfl rfl dX1_keepUnchanged_34 ?_
          refine j_iload E 4 rfl dX1_keepUnchanged_35 ?_
          obtain ⟨r8, er8, h⟩ := jbd h
          refine j_callVv E (As := [.int v4]) (c_X1_drop er8) (cwV 1 E.1.2.2.2.2 gX1_keepUnchanged_X1_drop rfl rfl rfl (by decide +kernel) ⟨Nat.le_of_ble_eq_true rfl, Nat.le_of_ble_eq_true rfl⟩) (wX_g11 ad cI cZ _) rfl rfl rfl (Nat.le_of_ble_eq_true rfl) ⟨Nat.zero_le _, Nat.zero_le _⟩ dX1_keepUnchanged_37 ?_
          obtain ⟨x9, ex9, h⟩ := jle h
          refine j_iinc E 3 rfl kc_1 ex9 (by decide) (lv' := [(3, .int x9), (0, .ref (ad 11)), (1, .int v1), (2, .int v2), (4, .int v4)]) rfl dX1_keepUnchanged_40 ?_
          obtain ⟨x10, ex10, h⟩ := jle h
          refine j_iinc E 4 rfl kc_1 ex10 (by decide) (lv' := [(4, .int x10), (3, .int x9), (0, .ref (ad 11)), (1, .int v1), (2, .int v2)]) rfl dX1_keepUnchanged_43 ?_
          refine j_goto E (tgt := 5) (by decide) dX1_keepUnchanged_46 ?_
          refine j_sub [2, 3, 4, 1, 0] (lv' := [(0, .ref (ad 11)), (1, .int v1), (2, .int v2), (3, .int x9), (4, .int x10)]) rfl ?_
          exact ih _ _ _ _ _ h
set_option maxHeartbeats 4000000 in
set_option maxRecDepth 100000 in
theorem c_X1_keepUnchanged {l : Launch} {D : va_G} {ad : Nat → Nat} {cI cZ : ClassId} {st : jS} {a1 : Int32} {a2 : Int32} {o : (Int32 × jS)} (h : f_X1_keepUnchanged st a1 a2 = some o) : CtI l D (jT cI cZ) (wX ad cI cZ) yX1_keepUnchanged wsX1_keepUnchanged (rm_X1_keepUnchanged) [.ref (ad 11), .int a1, .int a2] st o.1 o.2 := by
  refine ctI_of (o := o) (cc := cX1_keepUnchanged) (nL := 5) (own := RX1) (by decide) rfl rfl (Nat.le_of_ble_eq_true rfl) (lv0 := [(0, .ref (ad 11)), (1, .int a1), (2, .int a2)]) rfl ?_
  intro p e s m args below meth c A E hr
  rw [f_X1_keepUnchanged] at h
  refine j_iconst E (kc_0) dX1_keepUnchanged_0 ?_
  refine j_istore_n E rfl (by decide) (lv' := [(3, .int 0), (0, .ref (ad 11)), (1, .int a1), (2, .int a2)]) rfl dX1_keepUnchanged_1 ?_
  refine j_iconst E (kc_0) dX1_keepUnchanged_2 ?_
  refine j_istore E (by decide) (lv' := [(4, .int 0), (3, .int 0), (0, .ref (ad 11)), (1, .int a1), (2, .int a2)]) rfl dX1_keepUnchanged_3 ?_
  refine j_sub [2, 3, 4, 1, 0] (lv' := [(0, .ref (ad 11)), (1, .int a1), (2, .int a2), (3, .int 0), (4, .int 0)]) rfl ?_
  refine w_X1_keepUnchanged_5 E hr (fun s15 y11 y12 y13 y14 h => ?_) _ _ _ _ _ _ h
  refine j_iload_n E 3 rfl rfl dX1_keepUnchanged_49 ?_
  exact j_iret E hr rfl (Option.some.inj h) dX1_keepUnchanged_50
abbrev rm_X1_move : Room := { frames := 2, cells := 0, slots := 0, locals := 45 }
theorem in_X1_move_X1 : ∀ w ∈ u_ws RX1 TX1 3, w ∈ wsX1_move := fun w h => (List.mem_cons_of_mem _ (List.mem_append_right _ h))
def f_X1_move (st : jS) (a1 : Int32) (a2 : Int32) : Option jS :=
  jl (a1 + (a2 * 10)) fun x1 =>
  (f_X1_holds st a1).bind fun r2 =>
  if r2.1 = 0 then
    some r2.2
  else
  if x1 < 0 then
    some r2.2
  else
  if x1 < 410 then
    bif job a1 410 then none else
    if (jag r2.2 12 a1) = (-1) then
      bif job a1 410 then none else
      bif job a1 410 then none else
      (f_X1_put r2.2 x1 (-1) ((jag r2.2 13 a1) + a2) (jag r2.2 14 a1)).bind fun r16 =>
      (f_X1_drop r16 a1).bind fun r17 =>
      some r17
    else
    bif job a1 410 then none else
    jl ((jag r2.2 12 a1) + a2) fun x9 =>
    bif job a1 410 then none else
    bif job a1 410 then none else
    (f_X1_put r2.2 x1 x9 ((jag r2.2 13 a1) + a2) (jag r2.2 14 a1)).bind fun r12 =>
    (f_X1_drop r12 a1).bind fun r13 =>
    some r13
  else
  some r2.2
set_option maxHeartbeats 4000000 in
set_option maxRecDepth 100000 in
theorem c_X1_move {l : Launch} {D : va_G} {ad : Nat → Nat} {cI cZ : ClassId} {st : jS} {a1 : Int32} {a2 : Int32} {o : jS} (h : f_X1_move st a1 a2 = some o) : CtV l D (jT cI cZ) (wX ad cI cZ) yX1_move wsX1_move (rm_X1_move) [.ref (ad 11), .int a1, .int a2] st o := by
  refine ctV_of (o := o) (cc := cX1_move) (nL := 5) (own := RX1) (by decide) rfl rfl (Nat.le_of_ble_eq_true rfl) (lv0 := [(0, .ref (ad 11)), (1, .int a1), (2, .int a2)]) rfl ?_
  intro p e s m args below meth c A E hr
  rw [f_X1_move] at h
  refine j_iload_n E 1 rfl rfl dX1_move_0 ?_
  refine j_iload_n E 2 rfl rfl dX1_move_1 ?_
  refine j_bipush E (kb_10) dX1_move_2 ?_
  refine j_imul E dX1_move_4 ?_
  refine j_iadd E dX1_move_5 ?_
  obtain ⟨x1, ex1, h⟩ := jle h
  refine j_topi ex1 ?_
  refine j_istore_n E rfl (by decide) (lv' := [(3, .int x1), (0, .ref (ad 11)), (1, .int a1), (2, .int a2)]) rfl dX1_move_6 ?_
  refine j_aload_n E 1 rfl rfl dX1_move_7 ?_
  refine j_iload_n E 2 rfl rfl dX1_move_8 ?_
  obtain ⟨r2, er2, h⟩ := jbd h
  refine j_callVi E (As := [.int a1]) (c_X1_holds er2) (cwV 1 E.1.2.2.2.2 gX1_move_X1_holds rfl rfl rfl (by decide +kernel) ⟨Nat.le_of_ble_eq_true rfl, Nat.le_of_ble_eq_true rfl⟩) (wX_g11 ad cI cZ _) rfl rfl rfl (Nat.le_of_ble_eq_true rfl) ⟨Nat.zero_le _, Nat.zero_le _⟩ dX1_move_9 ?_
  refine j_if_eq E (tgt := 26) (by decide) dX1_move_12 (fun c3 => ?_) (fun c3 => ?_)
  · have h := jit h c3
    exact j_vret E hr (Option.some.inj h) dX1_move_26
  · have h := jif h c3
    refine j_iload_n E 0 rfl rfl dX1_move_15 ?_
    refine j_if_lt E (tgt := 26) (by decide) dX1_move_16 (fun c4 => ?_) (fun c4 => ?_)
    · have h := jit h c4
      exact j_vret E hr (Option.some.inj h) dX1_move_26
    · have h := jif h c4
      refine j_iload_n E 0 rfl rfl dX1_move_19 ?_
      refine j_sipush E (ks_410) dX1_move_20 ?_
      refine j_icmp_lt E (tgt := 27) (by decide) dX1_move_23 (fun c5 => ?_) (fun c5 => ?_)
      · have h := jit h c5
        refine j_aload_n E 1 rfl rfl dX1_move_27 ?_
        refine j_get E 11 (wX_g11 ad cI cZ _) rfl 0 rfl in_X1_move_X1 (by decide) (List.mem_of_getElem? (i := 1) rfl) (fun _ h9 => h9) dX1_move_28 ?_
        refine j_iload_n E 2 rfl rfl dX1_move_31 ?_
        obtain ⟨b6, h⟩ := job_else h
        refine j_iald E 12 0 (wX_g12 ad cI cZ _) rfl b6 dX1_move_32 ?_
        refine j_iconst E (kc_m1) dX1_move_33 ?_
        refine j_icmp_ne E (tgt := 41) (by decide) dX1_move_34 (fun c7 => ?_) (fun c7 => ?_)
        · have h := jif h c7
          refine j_aload_n E 1 rfl rfl dX1_move_41 ?_
          refine j_get E 11 (wX_g11 ad cI cZ _) rfl 0 rfl in_X1_move_X1 (by decide) (List.mem_of_getElem? (i := 1) rfl) (fun _ h9 => h9) dX1_move_42 ?_
          refine j_iload_n E 2 rfl rfl dX1_move_45 ?_
          obtain ⟨b8, h⟩ := job_else h
          refine j_iald E 12 0 (wX_g12 ad cI cZ _) rfl b8 dX1_move_46 ?_
          refine j_iload_n E 3 rfl rfl dX1_move_47 ?_
          refine j_iadd E dX1_move_48 ?_
          obtain ⟨x9, ex9, h⟩ := jle h
          refine j_topi ex9 ?_
          refine j_istore E (by decide) (lv' := [(4, .int x9), (3, .int x1), (0, .ref (ad 11)), (1, .int a1), (2, .int a2)]) rfl dX1_move_49 ?_
          refine j_aload_n E 2 rfl rfl dX1_move_51 ?_
          refine j_iload_n E 1 rfl rfl dX1_move_52 ?_
          refine j_iload E 0 rfl dX1_move_53 ?_
          refine j_aload_n E 2 rfl rfl dX1_move_55 ?_
          refine j_get E 11 (wX_g11 ad cI cZ _) rfl 1 rfl in_X1_move_X1 (by decide) (List.mem_of_getElem? (i := 2) rfl) (fun _ h9 => h9) dX1_move_56 ?_
          refine j_iload_n E 3 rfl rfl dX1_move_59 ?_
          obtain ⟨b10, h⟩ := job_else h
          refine j_iald E 13 0 (wX_g13 ad cI cZ _) rfl b10 dX1_move_60 ?_
          refine j_iload_n E 4 rfl rfl dX1_move_61 ?_
          refine j_iadd E dX1_move_62 ?_
          refine j_aload_n E 2 rfl rfl dX1_move_63 ?_
          refine j_get E 11 (wX_g11 ad cI cZ _) rfl 2 rfl in_X1_move_X1 (by decide) (List.mem_of_getElem? (i := 3) rfl) (fun _ h9 => h9) dX1_move_64 ?_
          refine j_iload_n E 3 rfl rfl dX1_move_67 ?_
          obtain ⟨b11, h⟩ := job_else h
          refine j_iald E 14 0 (wX_g14 ad cI cZ _) rfl b11 dX1_move_68 ?_
          obtain ⟨r12, er12, h⟩ := jbd h
          refine j_callVv E (As := [.int x1, .int x9, .int ((jag r2.2 13 a1) + a2), .int (jag r2.2 14 a1)]) (c_X1_put er12) (cwV 4 E.1.2.2.2.2 gX1_move_X1_put rfl rfl rfl (by decide +kernel) ⟨Nat.le_of_ble_eq_true rfl, Nat.le_of_ble_eq_true rfl⟩) (wX_g11 ad cI cZ _) rfl rfl rfl (Nat.le_of_ble_eq_true rfl) ⟨Nat.zero_le _, Nat.zero_le _⟩ dX1_move_69 ?_
          refine j_aload_n E 2 rfl rfl dX1_move_72 ?_
          refine j_iload_n E 3 rfl rfl dX1_move_73 ?_
          obtain ⟨r13, er13, h⟩ := jbd h
          refine j_callVv E (As := [.int a1]) (c_X1_drop er13) (cwV 1 E.1.2.2.2.2 gX1_move_X1_drop rfl rfl rfl (by decide +kernel) ⟨Nat.le_of_ble_eq_true rfl, Nat.le_of_ble_eq_true rfl⟩) (wX_g11 ad cI cZ _) rfl rfl rfl (Nat.le_of_ble_eq_true rfl) ⟨Nat.zero_le _, Nat.zero_le _⟩ dX1_move_74 ?_
          exact j_vret E hr (Option.some.inj h) dX1_move_77
        · have h := jit h c7
          refine j_iconst E (kc_m1) dX1_move_37 ?_
          refine j_goto E (tgt := 49) (by decide) dX1_move_38 ?_
          refine j_istore E (by decide) (lv' := [(4, .int (-1)), (3, .int x1), (0, .ref (ad 11)), (1, .int a1), (2, .int a2)]) rfl dX1_move_49 ?_
          refine j_aload_n E 2 rfl rfl dX1_move_51 ?_
          refine j_iload_n E 1 rfl rfl dX1_move_52 ?_
          refine j_iload E 0 rfl dX1_move_53 ?_
          refine j_aload_n E 2 rfl rfl dX1_move_55 ?_
          refine j_get E 11 (wX_g11 ad cI cZ _) rfl 1 rfl in_X1_move_X1 (by decide) (List.mem_of_getElem? (i := 2) rfl) (fun _ h9 => h9) dX1_move_56 ?_
          refine j_iload_n E 3 rfl rfl dX1_move_59 ?_
          obtain ⟨b14, h⟩ := job_else h
          refine j_iald E 13 0 (wX_g13 ad cI cZ _) rfl b14 dX1_move_60 ?_
          refine j_iload_n E 4 rfl rfl dX1_move_61 ?_
          refine j_iadd E dX1_move_62 ?_
          refine j_aload_n E 2 rfl rfl dX1_move_63 ?_
          refine j_get E 11 (wX_g11 ad cI cZ _) rfl 2 rfl in_X1_move_X1 (by decide) (List.mem_of_getElem? (i := 3) rfl) (fun _ h9 => h9) dX1_move_64 ?_
          refine j_iload_n E 3 rfl rfl dX1_move_67 ?_
          obtain ⟨b15, h⟩ := job_else h
          refine j_iald E 14 0 (wX_g14 ad cI cZ _) rfl b15 dX1_move_68 ?_
          obtain ⟨r16, er16, h⟩ := jbd h
          refine j_callVv E (As := [.int x1, .int (-1), .int ((jag r2.2 13 a1) + a2), .int (jag r2.2 14 a1)]) (c_X1_put er16) (cwV 4 E.1.2.2.2.2 gX1_move_X1_put rfl rfl rfl (by decide +kernel) ⟨Nat.le_of_ble_eq_true rfl, Nat.le_of_ble_eq_true rfl⟩) (wX_g11 ad cI cZ _) rfl rfl rfl (Nat.le_of_ble_eq_true rfl) ⟨Nat.zero_le _, Nat.zero_le _⟩ dX1_move_69 ?_
          refine j_aload_n E 2 rfl rfl dX1_move_72 ?_
          refine j_iload_n E 3 rfl rfl dX1_move_73 ?_
          obtain ⟨r17, er17, h⟩ := jbd h
          refine j_callVv E (As := [.int a1]) (c_X1_drop er17) (cwV 1 E.1.2.2.2.2 gX1_move_X1_drop rfl rfl rfl (by decide +kernel) ⟨Nat.le_of_ble_eq_true rfl, Nat.le_of_ble_eq_true rfl⟩) (wX_g11 ad cI cZ _) rfl rfl rfl (Nat.le_of_ble_eq_true rfl) ⟨Nat.zero_le _, Nat.zero_le _⟩ dX1_move_74 ?_
          exact j_vret E hr (Option.some.inj h) dX1_move_77
      · have h := jif h c5
        exact j_vret E hr (Option.some.inj h) dX1_move_26
abbrev rm_X1_shift : Room := { frames := 3, cells := 0, slots := 0, locals := 69 }
def f_X1_shift_45 (K : jS → Int32 → Int32 → Int32 → Int32 → Option jS) : Nat → jS → Int32 → Int32 → Int32 → Int32 → Option jS
  | 0, _, _, _, _, _ => none
  | n + 1, st, v1, v2, v3, v4 =>
    if v4 < v3 then
      K st v1 v2 v3 v4
    else
    (f_X1_move st v4 v2).bind fun r5 =>
    jl (v4 + (-1)) fun x6 =>
    f_X1_shift_45 K n r5 v1 v2 v3 x6
def f_X1_shift_12 (K : jS → Int32 → Int32 → Int32 → Int32 → Option jS) : Nat → jS → Int32 → Int32 → Int32 → Int32 → Option jS
  | 0, _, _, _, _, _ => none
  | n + 1, st, v1, v2, v3, v4 =>
    if v4 ≥ 410 then
      K st v1 v2 v3 v4
    else
    (f_X1_move st v4 v2).bind fun r13 =>
    jl (v4 + 1) fun x14 =>
    f_X1_shift_12 K n r13 v1 v2 v3 x14
def f_X1_shift (st : jS) (a1 : Int32) (a2 : Int32) : Option jS :=
  jl (a1 * 10) fun x1 =>
  if a2 ≥ 0 then
    if a2 ≤ 0 then
      some st
    else
    f_X1_shift_45 (fun s11 y7 y8 y9 y10 =>
      some s11
      ) jFuel st a1 a2 x1 409
  else
  f_X1_shift_12 (fun s19 y15 y16 y17 y18 =>
    some s19
    ) jFuel st a1 a2 x1 x1
set_option maxHeartbeats 4000000 in
set_option maxRecDepth 100000 in
theorem w_X1_shift_45 {ad : Nat → Nat} {cI cZ : ClassId} {p : Program} {l : Launch} {e : Env} {s : State} {m : MethodId} {args : Array Value} {below : List Frame} {meth : Method} {c : Code} {D : va_G} {A : Nat → Prop} {o : jS} (E : jE p s m args meth c cX1_shift 5 RX1 wsX1_shift D (jT cI cZ) A) (hr : meth.sig.returnType = none) {K : jS → Int32 → Int32 → Int32 → Int32 → Option jS} (hK : ∀ (st : jS) (v1 : Int32) (v2 : Int32) (v3 : Int32) (v4 : Int32), K st v1 v2 v3 v4 = some o → J p l e (rm_X1_shift) s m args below meth c 5 D A (wX ad cI cZ) (jZV D (wX ad cI cZ) A below args s o) 0 0 st 64 [(0, .ref (ad 11)), (1, .int v1), (2, .int v2), (3, .int v3), (4, .int v4)] []) :
    ∀ (n : Nat) (st : jS) (v1 : Int32) (v2 : Int32) (v3 : Int32) (v4 : Int32), f_X1_shift_45 K n st v1 v2 v3 v4 = some o → J p l e (rm_X1_shift) s m args below meth c 5 D A (wX ad cI cZ) (jZV D (wX ad cI cZ) A below args s o) 0 0 st 45 [(0, .ref (ad 11)), (1, .int v1), (2, .int v2), (3, .int v3), (4, .int v4)] [] := by
  intro n
  induction n with
  | zero => intro st v1 v2 v3 v4 h; cases h
  | succ n ih =>
    intro st v1 v2 v3 v4 h
    rw [f_X1_shift_45] at h
    refine j_iload E 4 rfl dX1_shift_45 ?_
    refine j_iload_n E 3 rfl rfl dX1_shift_47 ?_
    refine j_icmp_lt E (tgt := 64) (by decide) dX1_shift_48 (fun c4 => ?_) (fun c4 => ?_)
    · have h := jit h c4
      refine j_sub [0, 1, 2, 3, 4] (lv' := [(0, .ref (ad 11)), (1, .int v1), (2, .int v2), (3, .int v3), (4, .int v4)]) rfl ?_
      exact hK _ _ _ _ _ h
    · have h := jif h c4
      refine j_aload_n E 0 rfl rfl dX1_shift_51 ?_
      refine j_iload E 4 rfl dX1_shift_52 ?_
      refine j_iload_n E 2 rfl rfl dX1_shift_54 ?_
      obtain ⟨r5, er5, h⟩ := jbd h
      refine j_callVv E (As := [.int v4, .int v2]) (c_X1_move er5) (cwV 2 E.1.2.2.2.2 gX1_shift_X1_move rfl rfl rfl (by decide +kernel) ⟨Nat.le_of_ble_eq_true rfl, Nat.le_of_ble_eq_true rfl⟩) (wX_g11 ad cI cZ _) rfl rfl rfl (Nat.le_of_ble_eq_true rfl) ⟨Nat.zero_le _, Nat.zero_le _⟩ dX1_shift_55 ?_
      obtain ⟨x6, ex6, h⟩ := jle h
      refine j_iinc E 4 rfl kc_m1 ex6 (by decide) (lv' := [(4, .int x6), (0, .ref (ad 11)), (1, .int v1), (2, .int v2), (3, .int v3)]) rfl dX1_shift_58 ?_
      refine j_goto E (tgt := 45) (by decide) dX1_shift_61 ?_
      refine j_sub [1, 2, 3, 4, 0] (lv' := [(0, .ref (ad 11)), (1, .int v1), (2, .int v2), (3, .int v3), (4, .int x6)]) rfl ?_
      exact ih _ _ _ _ _ h
set_option maxHeartbeats 4000000 in
set_option maxRecDepth 100000 in
theorem w_X1_shift_12 {ad : Nat → Nat} {cI cZ : ClassId} {p : Program} {l : Launch} {e : Env} {s : State} {m : MethodId} {args : Array Value} {below : List Frame} {meth : Method} {c : Code} {D : va_G} {A : Nat → Prop} {o : jS} (E : jE p s m args meth c cX1_shift 5 RX1 wsX1_shift D (jT cI cZ) A) (hr : meth.sig.returnType = none) {K : jS → Int32 → Int32 → Int32 → Int32 → Option jS} (hK : ∀ (st : jS) (v1 : Int32) (v2 : Int32) (v3 : Int32) (v4 : Int32), K st v1 v2 v3 v4 = some o → J p l e (rm_X1_shift) s m args below meth c 5 D A (wX ad cI cZ) (jZV D (wX ad cI cZ) A below args s o) 0 0 st 33 [(0, .ref (ad 11)), (1, .int v1), (2, .int v2), (3, .int v3), (4, .int v4)] []) :
    ∀ (n : Nat) (st : jS) (v1 : Int32) (v2 : Int32) (v3 : Int32) (v4 : Int32), f_X1_shift_12 K n st v1 v2 v3 v4 = some o → J p l e (rm_X1_shift) s m args below meth c 5 D A (wX ad cI cZ) (jZV D (wX ad cI cZ) A below args s o) 0 0 st 12 [(0, .ref (ad 11)), (1, .int v1), (2, .int v2), (3, .int v3), (4, .int v4)] [] := by
  intro n
  induction n with
  | zero => intro st v1 v2 v3 v4 h; cases h
  | succ n ih =>
    intro st v1 v2 v3 v4 h
    rw [f_X1_shift_12] at h
    refine j_iload E 4 rfl dX1_shift_12 ?_
    refine j_sipush E (ks_410) dX1_shift_14 ?_
    refine j_icmp_ge E (tgt := 33) (by decide) dX1_shift_17 (fun c12 => ?_) (fun c12 => ?_)
    · have h := jit h c12
      refine j_sub [0, 1, 2, 3, 4] (lv' := [(0, .ref (ad 11)), (1, .int v1), (2, .int v2), (3, .int v3), (4, .int v4)]) rfl ?_
      exact hK _ _ _ _ _ h
    · have h := jif h c12
      refine j_aload_n E 0 rfl rfl dX1_shift_20 ?_
      refine j_iload E 4 rfl dX1_shift_21 ?_
      refine j_iload_n E 2 rfl rfl dX1_shift_23 ?_
      obtain ⟨r13, er13, h⟩ := jbd h
      refine j_callVv E (As := [.int v4, .int v2]) (c_X1_move er13) (cwV 2 E.1.2.2.2.2 gX1_shift_X1_move rfl rfl rfl (by decide +kernel) ⟨Nat.le_of_ble_eq_true rfl, Nat.le_of_ble_eq_true rfl⟩) (wX_g11 ad cI cZ _) rfl rfl rfl (Nat.le_of_ble_eq_true rfl) ⟨Nat.zero_le _, Nat.zero_le _⟩ dX1_shift_24 ?_
      obtain ⟨x14, ex14, h⟩ := jle h
      refine j_iinc E 4 rfl kc_1 ex14 (by decide) (lv' := [(4, .int x14), (0, .ref (ad 11)), (1, .int v1), (2, .int v2), (3, .int v3)]) rfl dX1_shift_27 ?_
      refine j_goto E (tgt := 12) (by decide) dX1_shift_30 ?_
      refine j_sub [1, 2, 3, 4, 0] (lv' := [(0, .ref (ad 11)), (1, .int v1), (2, .int v2), (3, .int v3), (4, .int x14)]) rfl ?_
      exact ih _ _ _ _ _ h
set_option maxHeartbeats 4000000 in
set_option maxRecDepth 100000 in
theorem c_X1_shift {l : Launch} {D : va_G} {ad : Nat → Nat} {cI cZ : ClassId} {st : jS} {a1 : Int32} {a2 : Int32} {o : jS} (h : f_X1_shift st a1 a2 = some o) : CtV l D (jT cI cZ) (wX ad cI cZ) yX1_shift wsX1_shift (rm_X1_shift) [.ref (ad 11), .int a1, .int a2] st o := by
  refine ctV_of (o := o) (cc := cX1_shift) (nL := 5) (own := RX1) (by decide) rfl rfl (Nat.le_of_ble_eq_true rfl) (lv0 := [(0, .ref (ad 11)), (1, .int a1), (2, .int a2)]) rfl ?_
  intro p e s m args below meth c A E hr
  rw [f_X1_shift] at h
  refine j_iload_n E 1 rfl rfl dX1_shift_0 ?_
  refine j_bipush E (kb_10) dX1_shift_1 ?_
  refine j_imul E dX1_shift_3 ?_
  obtain ⟨x1, ex1, h⟩ := jle h
  refine j_topi ex1 ?_
  refine j_istore_n E rfl (by decide) (lv' := [(3, .int x1), (0, .ref (ad 11)), (1, .int a1), (2, .int a2)]) rfl dX1_shift_4 ?_
  refine j_iload_n E 3 rfl rfl dX1_shift_5 ?_
  refine j_if_ge E (tgt := 36) (by decide) dX1_shift_6 (fun c2 => ?_) (fun c2 => ?_)
  · have h := jit h c2
    refine j_iload_n E 3 rfl rfl dX1_shift_36 ?_
    refine j_if_le E (tgt := 64) (by decide) dX1_shift_37 (fun c3 => ?_) (fun c3 => ?_)
    · have h := jit h c3
      exact j_vret E hr (Option.some.inj h) dX1_shift_64
    · have h := jif h c3
      refine j_sipush E (ks_409) dX1_shift_40 ?_
      refine j_istore E (by decide) (lv' := [(4, .int 409), (3, .int x1), (0, .ref (ad 11)), (1, .int a1), (2, .int a2)]) rfl dX1_shift_43 ?_
      refine j_sub [2, 3, 4, 1, 0] (lv' := [(0, .ref (ad 11)), (1, .int a1), (2, .int a2), (3, .int x1), (4, .int 409)]) rfl ?_
      refine w_X1_shift_45 E hr (fun s11 y7 y8 y9 y10 h => ?_) _ _ _ _ _ _ h
      exact j_vret E hr (Option.some.inj h) dX1_shift_64
  · have h := jif h c2
    refine j_iload_n E 0 rfl rfl dX1_shift_9 ?_
    refine j_istore E (by decide) (lv' := [(4, .int x1), (3, .int x1), (0, .ref (ad 11)), (1, .int a1), (2, .int a2)]) rfl dX1_shift_10 ?_
    refine j_sub [2, 3, 4, 1, 0] (lv' := [(0, .ref (ad 11)), (1, .int a1), (2, .int a2), (3, .int x1), (4, .int x1)]) rfl ?_
    refine w_X1_shift_12 E hr (fun s19 y15 y16 y17 y18 h => ?_) _ _ _ _ _ _ h
    refine j_goto E (tgt := 64) (by decide) dX1_shift_33 ?_
    exact j_vret E hr (Option.some.inj h) dX1_shift_64
abbrev rm_X1_addToDigest : Room := { frames := 1, cells := 0, slots := 0, locals := 22 }
theorem in_X1_addToDigest_X1 : ∀ w ∈ u_ws RX1 TX1 3, w ∈ wsX1_addToDigest := fun w h => (List.mem_cons_of_mem _ (List.mem_append_right _ h))
def f_X1_addToDigest_5 (K : jS → Int64 → Int64 → Int32 → Option (Int64 × jS)) : Nat → jS → Int64 → Int64 → Int32 → Option (Int64 × jS)
  | 0, _, _, _, _ => none
  | n + 1, st, v1, v3, v5 =>
    if v5 ≥ 410 then
      K st v1 v3 v5
    else
    (f_X1_holds st v5).bind fun r2 =>
    if r2.1 = 0 then
      jl (v5 + 1) fun x4 =>
      f_X1_addToDigest_5 K n r2.2 v1 v3 x4
    else
    (f_X5_mix v3 (v5 / 10)).bind fun r5 =>
    (f_X5_mix r5 (v5 - v5 / 10 * 10)).bind fun r6 =>
    bif job v5 410 then none else
    (f_X5_mix r6 (jag r2.2 12 v5)).bind fun r8 =>
    bif job v5 410 then none else
    (f_X5_mix r8 (jag r2.2 13 v5)).bind fun r10 =>
    jl (v5 + 1) fun x11 =>
    f_X1_addToDigest_5 K n r2.2 v1 r10 x11
def f_X1_addToDigest (st : jS) (a1 : Int64) : Option (Int64 × jS) :=
  f_X1_addToDigest_5 (fun s15 y12 y13 y14 =>
    some (y13, s15)
    ) jFuel st a1 a1 0
set_option maxHeartbeats 4000000 in
set_option maxRecDepth 100000 in
theorem w_X1_addToDigest_5 {ad : Nat → Nat} {cI cZ : ClassId} {p : Program} {l : Launch} {e : Env} {s : State} {m : MethodId} {args : Array Value} {below : List Frame} {meth : Method} {c : Code} {D : va_G} {A : Nat → Prop} {o : (Int64 × jS)} (E : jE p s m args meth c cX1_addToDigest 6 RX1 wsX1_addToDigest D (jT cI cZ) A) (hr : meth.sig.returnType = (some .long)) {K : jS → Int64 → Int64 → Int32 → Option (Int64 × jS)} (hK : ∀ (st : jS) (v1 : Int64) (v3 : Int64) (v5 : Int32), K st v1 v3 v5 = some o → J p l e (rm_X1_addToDigest) s m args below meth c 6 D A (wX ad cI cZ) (jZL D (wX ad cI cZ) A below args s o) 0 0 st 72 [(0, .ref (ad 11)), (1, .long v1), (3, .long v3), (5, .int v5)] []) :
    ∀ (n : Nat) (st : jS) (v1 : Int64) (v3 : Int64) (v5 : Int32), f_X1_addToDigest_5 K n st v1 v3 v5 = some o → J p l e (rm_X1_addToDigest) s m args below meth c 6 D A (wX ad cI cZ) (jZL D (wX ad cI cZ) A below args s o) 0 0 st 5 [(0, .ref (ad 11)), (1, .long v1), (3, .long v3), (5, .int v5)] [] := by
  intro n
  induction n with
  | zero => intro st v1 v3 v5 h; cases h
  | succ n ih =>
    intro st v1 v3 v5 h
    rw [f_X1_addToDigest_5] at h
    refine j_iload E 3 rfl dX1_addToDigest_5 ?_
    refine j_sipush E (ks_410) dX1_addToDigest_7 ?_
    refine j_icmp_ge E (tgt := 72) (by decide) dX1_addToDigest_10 (fun c1 => ?_) (fun c1 => ?_)
    · have h := jit h c1
      refine j_sub [0, 1, 2, 3] (lv' := [(0, .ref (ad 11)), (1, .long v1), (3, .long v3), (5, .int v5)]) rfl ?_
      exact hK _ _ _ _ h
    · have h := jif h c1
      refine j_aload_n E 0 rfl rfl dX1_addToDigest_13 ?_
      refine j_iload E 3 rfl dX1_addToDigest_14 ?_
      obtain ⟨r2, er2, h⟩ := jbd h
      refine j_callVi E (As := [.int v5]) (c_X1_holds er2) (cwV 1 E.1.2.2.2.2 gX1_addToDigest_X1_holds rfl rfl rfl (by decide +kernel) ⟨Nat.le_of_ble_eq_true rfl, Nat.le_of_ble_eq_true rfl⟩) (wX_g11 ad cI cZ _) rfl rfl rfl (Nat.le_of_ble_eq_true rfl) ⟨Nat.zero_le _, Nat.zero_le _⟩ dX1_addToDigest_16 ?_
      refine j_if_eq E (tgt := 66) (by decide) dX1_addToDigest_19 (fun c3 => ?_) (fun c3 => ?_)
      · have h := jit h c3
        obtain ⟨x4, ex4, h⟩ := jle h
        refine j_iinc E 3 rfl kc_1 ex4 (by decide) (lv' := [(5, .int x4), (0, .ref (ad 11)), (1, .long v1), (3, .long v3)]) rfl dX1_addToDigest_66 ?_
        refine j_goto E (tgt := 5) (by decide) dX1_addToDigest_69 ?_
        refine j_sub [1, 2, 3, 0] (lv' := [(0, .ref (ad 11)), (1, .long v1), (3, .long v3), (5, .int x4)]) rfl ?_
        exact ih _ _ _ _ h
      · have h := jif h c3
        refine j_lload_n E 2 rfl rfl dX1_addToDigest_22 ?_
        refine j_iload E 3 rfl dX1_addToDigest_23 ?_
        refine j_bipush E (kb_10) dX1_addToDigest_25 ?_
        refine j_idiv E (by decide) dX1_addToDigest_27 ?_
        obtain ⟨r5, er5, h⟩ := jbd h
        refine j_callSNl E (As := [.long v3, .int (v5 / 10)]) (c_X5_mix er5) ⟨va_cnB 2 E.1.2.2.2.2 gX1_addToDigest_X5_mix_n39 rfl rfl rfl (E.2.2.2.1.2 _ (List.mem_of_getElem? (i := 3) rfl)) (E.1.2.2.2.2 _ (List.mem_of_getElem? (i := 9) rfl)) (by decide +kernel) ⟨Nat.le_of_ble_eq_true rfl, Nat.le_of_ble_eq_true rfl⟩, E.1.2.2.2.2 _ (List.mem_of_getElem? (i := 8) rfl), trivial⟩ rfl rfl (Nat.le_of_ble_eq_true rfl) ⟨Nat.zero_le _, Nat.zero_le _⟩ dX1_addToDigest_28 ?_
        refine j_lstore_n E rfl (by decide) (lv' := [(3, .long r5), (0, .ref (ad 11)), (1, .long v1), (5, .int v5)]) rfl dX1_addToDigest_31 ?_
        refine j_lload_n E 0 rfl rfl dX1_addToDigest_32 ?_
        refine j_iload E 3 rfl dX1_addToDigest_33 ?_
        refine j_bipush E (kb_10) dX1_addToDigest_35 ?_
        refine j_irem E (by decide) dX1_addToDigest_37 ?_
        obtain ⟨r6, er6, h⟩ := jbd h
        refine j_callSNl E (As := [.long r5, .int (v5 - v5 / 10 * 10)]) (c_X5_mix er6) ⟨va_cnB 2 E.1.2.2.2.2 gX1_addToDigest_X5_mix_n39 rfl rfl rfl (E.2.2.2.1.2 _ (List.mem_of_getElem? (i := 3) rfl)) (E.1.2.2.2.2 _ (List.mem_of_getElem? (i := 9) rfl)) (by decide +kernel) ⟨Nat.le_of_ble_eq_true rfl, Nat.le_of_ble_eq_true rfl⟩, E.1.2.2.2.2 _ (List.mem_of_getElem? (i := 8) rfl), trivial⟩ rfl rfl (Nat.le_of_ble_eq_true rfl) ⟨Nat.zero_le _, Nat.zero_le _⟩ dX1_addToDigest_38 ?_
        refine j_lstore_n E rfl (by decide) (lv' := [(3, .long r6), (0, .ref (ad 11)), (1, .long v1), (5, .int v5)]) rfl dX1_addToDigest_41 ?_
        refine j_lload_n E 0 rfl rfl dX1_addToDigest_42 ?_
        refine j_aload_n E 1 rfl rfl dX1_addToDigest_43 ?_
        refine j_get E 11 (wX_g11 ad cI cZ _) rfl 0 rfl in_X1_addToDigest_X1 (by decide) (List.mem_of_getElem? (i := 1) rfl) (fun _ h9 => h9) dX1_addToDigest_44 ?_
        refine j_iload E 3 rfl dX1_addToDigest_47 ?_
        obtain ⟨b7, h⟩ := job_else h
        refine j_iald E 12 0 (wX_g12 ad cI cZ _) rfl b7 dX1_addToDigest_49 ?_
        obtain ⟨r8, er8, h⟩ := jbd h
        refine j_callSNl E (As := [.long r6, .int (jag r2.2 12 v5)]) (c_X5_mix er8) ⟨va_cnB 2 E.1.2.2.2.2 gX1_addToDigest_X5_mix_n39 rfl rfl rfl (E.2.2.2.1.2 _ (List.mem_of_getElem? (i := 3) rfl)) (E.1.2.2.2.2 _ (List.mem_of_getElem? (i := 9) rfl)) (by decide +kernel) ⟨Nat.le_of_ble_eq_true rfl, Nat.le_of_ble_eq_true rfl⟩, E.1.2.2.2.2 _ (List.mem_of_getElem? (i := 8) rfl), trivial⟩ rfl rfl (Nat.le_of_ble_eq_true rfl) ⟨Nat.zero_le _, Nat.zero_le _⟩ dX1_addToDigest_50 ?_
        refine j_lstore_n E rfl (by decide) (lv' := [(3, .long r8), (0, .ref (ad 11)), (1, .long v1), (5, .int v5)]) rfl dX1_addToDigest_53 ?_
        refine j_lload_n E 0 rfl rfl dX1_addToDigest_54 ?_
        refine j_aload_n E 1 rfl rfl dX1_addToDigest_55 ?_
        refine j_get E 11 (wX_g11 ad cI cZ _) rfl 1 rfl in_X1_addToDigest_X1 (by decide) (List.mem_of_getElem? (i := 2) rfl) (fun _ h9 => h9) dX1_addToDigest_56 ?_
        refine j_iload E 3 rfl dX1_addToDigest_59 ?_
        obtain ⟨b9, h⟩ := job_else h
        refine j_iald E 13 0 (wX_g13 ad cI cZ _) rfl b9 dX1_addToDigest_61 ?_
        obtain ⟨r10, er10, h⟩ := jbd h
        refine j_callSNl E (As := [.long r8, .int (jag r2.2 13 v5)]) (c_X5_mix er10) ⟨va_cnB 2 E.1.2.2.2.2 gX1_addToDigest_X5_mix_n39 rfl rfl rfl (E.2.2.2.1.2 _ (List.mem_of_getElem? (i := 3) rfl)) (E.1.2.2.2.2 _ (List.mem_of_getElem? (i := 9) rfl)) (by decide +kernel) ⟨Nat.le_of_ble_eq_true rfl, Nat.le_of_ble_eq_true rfl⟩, E.1.2.2.2.2 _ (List.mem_of_getElem? (i := 8) rfl), trivial⟩ rfl rfl (Nat.le_of_ble_eq_true rfl) ⟨Nat.zero_le _, Nat.zero_le _⟩ dX1_addToDigest_62 ?_
        refine j_lstore_n E rfl (by decide) (lv' := [(3, .long r10), (0, .ref (ad 11)), (1, .long v1), (5, .int v5)]) rfl dX1_addToDigest_65 ?_
        obtain ⟨x11, ex11, h⟩ := jle h
        refine j_iinc E 3 rfl kc_1 ex11 (by decide) (lv' := [(5, .int x11), (3, .long r10), (0, .ref (ad 11)), (1, .long v1)]) rfl dX1_addToDigest_66 ?_
        refine j_goto E (tgt := 5) (by decide) dX1_addToDigest_69 ?_
        refine j_sub [2, 3, 1, 0] (lv' := [(0, .ref (ad 11)), (1, .long v1), (3, .long r10), (5, .int x11)]) rfl ?_
        exact ih _ _ _ _ h
set_option maxHeartbeats 4000000 in
set_option maxRecDepth 100000 in
theorem c_X1_addToDigest {l : Launch} {D : va_G} {ad : Nat → Nat} {cI cZ : ClassId} {st : jS} {a1 : Int64} {o : (Int64 × jS)} (h : f_X1_addToDigest st a1 = some o) : CtL l D (jT cI cZ) (wX ad cI cZ) yX1_addToDigest wsX1_addToDigest (rm_X1_addToDigest) [.ref (ad 11), .long a1] st o.1 o.2 := by
  refine ctL_of (o := o) (cc := cX1_addToDigest) (nL := 6) (own := RX1) (by decide) rfl rfl (Nat.le_of_ble_eq_true rfl) (lv0 := [(0, .ref (ad 11)), (1, .long a1)]) rfl ?_
  intro p e s m args below meth c A E hr
  rw [f_X1_addToDigest] at h
  refine j_lload_n E 1 rfl rfl dX1_addToDigest_0 ?_
  refine j_lstore_n E rfl (by decide) (lv' := [(3, .long a1), (0, .ref (ad 11)), (1, .long a1)]) rfl dX1_addToDigest_1 ?_
  refine j_iconst E (kc_0) dX1_addToDigest_2 ?_
  refine j_istore E (by decide) (lv' := [(5, .int 0), (3, .long a1), (0, .ref (ad 11)), (1, .long a1)]) rfl dX1_addToDigest_3 ?_
  refine j_sub [2, 3, 1, 0] (lv' := [(0, .ref (ad 11)), (1, .long a1), (3, .long a1), (5, .int 0)]) rfl ?_
  refine w_X1_addToDigest_5 E hr (fun s15 y12 y13 y14 h => ?_) _ _ _ _ _ h
  refine j_lload_n E 2 rfl rfl dX1_addToDigest_72 ?_
  exact j_lret E hr (Option.some.inj h) dX1_addToDigest_73
