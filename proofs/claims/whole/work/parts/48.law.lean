set_option maxRecDepth 20000 in
theorem law_jN {s : State} {args : Array Value} (hts : ∀ w ∈ lw_tbl, w.before args s = true) : jN s := ⟨List.forall_mem_cons.mpr ⟨va_Nw.of rfl (hts _ (List.mem_of_getElem? (i := 202) (by decide +kernel))), List.forall_mem_cons.mpr ⟨va_Nw.of rfl (hts _ (List.mem_of_getElem? (i := 204) (by decide +kernel))), List.forall_mem_cons.mpr ⟨va_Nw.of rfl (hts _ (List.mem_of_getElem? (i := 206) (by decide +kernel))), List.forall_mem_cons.mpr ⟨va_Nw.of rfl (hts _ (List.mem_of_getElem? (i := 208) (by decide +kernel))), List.forall_mem_cons.mpr ⟨va_Nw.of rfl (hts _ (List.mem_of_getElem? (i := 133) (by decide +kernel))), List.forall_mem_cons.mpr ⟨va_Nw.of rfl (hts _ (List.mem_of_getElem? (i := 136) (by decide +kernel))), List.forall_mem_cons.mpr ⟨va_Nw.of rfl (hts _ (List.mem_of_getElem? (i := 87) (by decide +kernel))), List.forall_mem_cons.mpr ⟨va_Nw.of rfl (hts _ (List.mem_of_getElem? (i := 118) (by decide +kernel))), List.forall_mem_cons.mpr ⟨va_Nw.of rfl (hts _ (List.mem_of_getElem? (i := 85) (by decide +kernel))), List.forall_mem_cons.mpr ⟨va_Nw.of rfl (hts _ (List.mem_of_getElem? (i := 166) (by decide +kernel))), List.forall_mem_cons.mpr ⟨va_Nw.of rfl (hts _ (List.mem_of_getElem? (i := 164) (by decide +kernel))), List.forall_mem_cons.mpr ⟨va_Nw.of rfl (hts _ (List.mem_of_getElem? (i := 138) (by decide +kernel))), List.forall_mem_cons.mpr ⟨va_Nw.of rfl (hts _ (List.mem_of_getElem? (i := 135) (by decide +kernel))), List.forall_mem_cons.mpr ⟨va_Nw.of rfl (hts _ (List.mem_of_getElem? (i := 132) (by decide +kernel))), List.forall_mem_cons.mpr ⟨va_Nw.of rfl (hts _ (List.mem_of_getElem? (i := 173) (by decide +kernel))), List.forall_mem_cons.mpr ⟨va_Nw.of rfl (hts _ (List.mem_of_getElem? (i := 160) (by decide +kernel))), List.forall_mem_cons.mpr ⟨va_Nw.of rfl (hts _ (List.mem_of_getElem? (i := 162) (by decide +kernel))), List.forall_mem_cons.mpr ⟨va_Nw.of rfl (hts _ (List.mem_of_getElem? (i := 168) (by decide +kernel))), List.forall_mem_cons.mpr ⟨va_Nw.of rfl (hts _ (List.mem_of_getElem? (i := 170) (by decide +kernel))), List.forall_mem_cons.mpr ⟨va_Nw.of rfl (hts _ (List.mem_of_getElem? (i := 81) (by decide +kernel))), List.forall_mem_cons.mpr ⟨va_Nw.of rfl (hts _ (List.mem_of_getElem? (i := 83) (by decide +kernel))), List.forall_mem_cons.mpr ⟨va_Nw.of rfl (hts _ (List.mem_of_getElem? (i := 79) (by decide +kernel))), fun _ h => absurd h List.not_mem_nil⟩⟩⟩⟩⟩⟩⟩⟩⟩⟩⟩⟩⟩⟩⟩⟩⟩⟩⟩⟩⟩⟩, List.forall_mem_cons.mpr ⟨va_Nw.of rfl (hts _ (List.mem_of_getElem? (i := 112) (by decide +kernel))), List.forall_mem_cons.mpr ⟨va_Nw.of rfl (hts _ (List.mem_of_getElem? (i := 516) (by decide +kernel))), List.forall_mem_cons.mpr ⟨va_Nw.of rfl (hts _ (List.mem_of_getElem? (i := 303) (by decide +kernel))), List.forall_mem_cons.mpr ⟨va_Nw.of rfl (hts _ (List.mem_of_getElem? (i := 316) (by decide +kernel))), List.forall_mem_cons.mpr ⟨va_Nw.of rfl (hts _ (List.mem_of_getElem? (i := 666) (by decide +kernel))), List.forall_mem_cons.mpr ⟨va_Nw.of rfl (hts _ (List.mem_of_getElem? (i := 667) (by decide +kernel))), List.forall_mem_cons.mpr ⟨va_Nw.of rfl (hts _ (List.mem_of_getElem? (i := 628) (by decide +kernel))), List.forall_mem_cons.mpr ⟨va_Nw.of rfl (hts _ (List.mem_of_getElem? (i := 582) (by decide +kernel))), List.forall_mem_cons.mpr ⟨va_Nw.of rfl (hts _ (List.mem_of_getElem? (i := 586) (by decide +kernel))), List.forall_mem_cons.mpr ⟨va_Nw.of rfl (hts _ (List.mem_of_getElem? (i := 311) (by decide +kernel))), fun _ h => absurd h List.not_mem_nil⟩⟩⟩⟩⟩⟩⟩⟩⟩⟩⟩
theorem law_str {s : State} {args : Array Value} {own tx : String} {k : Nat} (h1 : (Cond.stringRef own k tx).before args s = true) (h2 : (Cond.exactly (.string own k) "java/lang/String").before args s = true) : ∃ sa : Nat, vk_R own k tx sa s := by
  obtain ⟨b', cB, cellB, kB, hb, -⟩ := Cond.exactly_spec h2
  exact ⟨b', vk_R.of h1 hb⟩
set_option maxRecDepth 20000 in
set_option maxHeartbeats 4000000 in
theorem law_xN {s : State} {args : Array Value} (hts : ∀ w ∈ lw_tbl, w.before args s = true) (hg : ∀ w ∈ flatC (Jvm.Cond.and given_1 narrow_1), w.before args s = true) : xN s := ⟨List.forall_mem_cons.mpr ⟨(law_str (hts _ (List.mem_of_getElem? (i := 368) (by decide +kernel))) (hg _ (by decide +kernel))), List.forall_mem_cons.mpr ⟨(law_str (hts _ (List.mem_of_getElem? (i := 433) (by decide +kernel))) (hg _ (by decide +kernel))), List.forall_mem_cons.mpr ⟨(law_str (hts _ (List.mem_of_getElem? (i := 477) (by decide +kernel))) (hg _ (by decide +kernel))), List.forall_mem_cons.mpr ⟨(law_str (hts _ (List.mem_of_getElem? (i := 485) (by decide +kernel))) (hg _ (by decide +kernel))), List.forall_mem_cons.mpr ⟨(law_str (hts _ (List.mem_of_getElem? (i := 554) (by decide +kernel))) (hg _ (by decide +kernel))), List.forall_mem_cons.mpr ⟨(law_str (hts _ (List.mem_of_getElem? (i := 561) (by decide +kernel))) (hg _ (by decide +kernel))), List.forall_mem_cons.mpr ⟨(law_str (hts _ (List.mem_of_getElem? (i := 565) (by decide +kernel))) (hg _ (by decide +kernel))), List.forall_mem_cons.mpr ⟨(law_str (hts _ (List.mem_of_getElem? (i := 598) (by decide +kernel))) (hg _ (by decide +kernel))), List.forall_mem_cons.mpr ⟨(law_str (hts _ (List.mem_of_getElem? (i := 412) (by decide +kernel))) (hg _ (by decide +kernel))), List.forall_mem_cons.mpr ⟨(law_str (hts _ (List.mem_of_getElem? (i := 476) (by decide +kernel))) (hg _ (by decide +kernel))), List.forall_mem_cons.mpr ⟨(law_str (hts _ (List.mem_of_getElem? (i := 454) (by decide +kernel))) (hg _ (by decide +kernel))), fun _ h => absurd h List.not_mem_nil⟩⟩⟩⟩⟩⟩⟩⟩⟩⟩⟩, va_Nw.of rfl (hts _ (List.mem_of_getElem? (i := 329) (by decide +kernel))), va_Nw.of rfl (hts _ (List.mem_of_getElem? (i := 405) (by decide +kernel))), va_Nw.of rfl (hts _ (List.mem_of_getElem? (i := 447) (by decide +kernel))), List.forall_mem_cons.mpr ⟨va_Nw.of rfl (hts _ (List.mem_of_getElem? (i := 331) (by decide +kernel))), List.forall_mem_cons.mpr ⟨va_Nw.of rfl (hts _ (List.mem_of_getElem? (i := 333) (by decide +kernel))), List.forall_mem_cons.mpr ⟨va_Nw.of rfl (hts _ (List.mem_of_getElem? (i := 335) (by decide +kernel))), fun _ h => absurd h List.not_mem_nil⟩⟩⟩⟩
set_option maxRecDepth 20000 in
set_option maxHeartbeats 4000000 in
theorem law_xNc {s : State} {args : Array Value} (hg : ∀ w ∈ flatC (Jvm.Cond.and given_1 narrow_1), w.before args s = true) : xNc s := ⟨va_Nc.of (hg (.not (.castable "java/lang/IllegalStateException" "java/lang/IllegalArgumentException")) (by decide +kernel)), va_Nc.of (hg (.not (.castable "java/lang/IllegalStateException" "java/lang/IndexOutOfBoundsException")) (by decide +kernel)), va_Nc.of (hg (.not (.castable "java/lang/IllegalArgumentException" "java/lang/IndexOutOfBoundsException")) (by decide +kernel))⟩
set_option maxRecDepth 20000 in
set_option maxHeartbeats 4000000 in
theorem law_xZ {s : State} {args : Array Value} (hts : ∀ w ∈ lw_tbl, w.before args s = true) (hg : ∀ w ∈ flatC (Jvm.Cond.and given_1 narrow_1), w.before args s = true) : xZ (fun q => s.heap.size ≤ q) s s.heap := ⟨vx_Zqof (hts _ (List.mem_of_getElem? (i := 354) (by decide +kernel))) (hts _ (List.mem_of_getElem? (i := 53) (by decide +kernel))) (hg _ (by decide +kernel)) (fun a h => Nat.not_le.mpr h), vx_Zqof (hts _ (List.mem_of_getElem? (i := 356) (by decide +kernel))) (hts _ (List.mem_of_getElem? (i := 53) (by decide +kernel))) (hg _ (by decide +kernel)) (fun a h => Nat.not_le.mpr h)⟩
theorem law_arr {s : State} {args : Array Value} {ty : FieldType} (h : (Cond.arrayClass ty).before args s = true) : ∃ cA : ClassId, ArrOfT s cA ty ∧ s.vm.findClass ("[" ++ ty.toString) = some cA := by
  obtain ⟨cA, kA, comp, h1, h2, h3⟩ := Cond.arrayClass_spec h
  exact ⟨cA, fun n z => ⟨fun k h => (by cases h), kA, h2, comp, h3⟩, h1⟩
theorem law_stt {l : Launch} (h : l.flags = flags0) : l.stackTraces = false := by
  unfold Launch.stackTraces
  rw [h]
  decide +kernel
set_option maxHeartbeats 4000000 in
set_option maxRecDepth 100000 in
theorem law_loop {p : Program} {l : Launch} {e : Env} {s : State} {m : MethodId} {below : List Frame} {meth : Method} {c : Code} {D : va_G} {cI cZ cJ : ClassId} {b L : Nat} {xs : Nat → Int32} {Rel : jS → jS → Prop} (hstt : l.stackTraces = false) (hL : L ≤ 2560) (E : jE p s m #[Value.ref b] meth c cL_law 7 RL wsL_law D (jT3 cI cZ cJ) (fun q => s.heap.size ≤ q)) (hxn : xN s) (hxz : xZ (fun q => s.heap.size ≤ q) s s.heap) (hxc : xNc s) (hX : va_X b L xs s s.heap) (hbl : b < s.heap.size) (hr : meth.sig.returnType = ret) (HR : LawHyp Rel) {ax : Nat → Nat} {ao : Nat} : ∀ (n t : Nat), 5 * t ≤ L → L < 5 * t + 5 * n → ∀ (ad : Nat → Nat) (x ms : jS) (out : Nat → Int64), Rel x ms → J p l e room_1 s m #[Value.ref b] below meth c 7 D (fun q => s.heap.size ≤ q) (wL ax ao cI cZ cJ) (lw_Z below #[Value.ref b] s) (80 + 10 * t) (8000 + 1800 * t) ((x, out), (ad, ms)) 23 [(0, .ref b), (1, .ref (ax 0)), (2, .ref (ad 0)), (3, .ref ao), (4, .int (nI (5 * t)))] [] := by
  intro n
  induction n with
  | zero => intro t h1 h2; exfalso; omega
  | succ n ih =>
    intro t h1 h2 ad x ms out hR
    refine j_iload E 4 rfl dL_law_23 ?_
    refine j_aload_n E 0 rfl rfl dL_law_25 ?_
    refine j_slen E hX hbl (Nat.not_le.mpr hbl) dL_law_26 ?_
    refine j_iconst E (by decide : Int32.ofInt 5 = 5) dL_law_27 ?_
    refine j_isub E dL_law_28 ?_
    refine j_icmp_gt E (tgt := 1158) (by decide) dL_law_29 (fun c1 => ?_) (fun c1 => ?_)
    · refine j_iconst E (by decide : Int32.ofInt 1 = 1) dL_law_1158 ?_
      intro H locs ls hP hD hS hl
      refine va_forget (fun q hq => hS.2.2 q hq) ?_
      refine W.widen (k := 601024) (n := 7293034) (by omega) (by omega) ?_
      exact lw_ret E.1.1 E.1.2.1 hr E.2.1 dL_law_1159
    · have ht := jgo hL h1 c1
      refine j_aload_n E 0 rfl rfl dL_law_32 ?_
      refine j_iload E 4 rfl dL_law_33 ?_
      refine j_sld E hX hbl (Nat.not_le.mpr hbl) (js0 ht hL) dL_law_35 ?_
      refine j_bipush E (by decide : (Int8.ofInt 31).toInt32 = 31) dL_law_36 ?_
      refine j_iand E dL_law_38 ?_
      obtain ⟨z, hz⟩ : ∃ z, xs (nI (5 * t)).toNatClampNeg &&& 31 = z := ⟨_, rfl⟩
      refine j_topi hz ?_
      have hnext : ∀ (ad : Nat → Nat) (x ms : jS) (out : Nat → Int64), Rel x ms → J p l e room_1 s m #[Value.ref b] below meth c 7 D (fun q => s.heap.size ≤ q) (wL ax ao cI cZ cJ) (lw_Z below #[Value.ref b] s) (80 + 10 * (t + 1)) (8000 + 1800 * (t + 1)) ((x, out), (ad, ms)) 1152 [(0, .ref b), (1, .ref (ax 0)), (2, .ref (ad 0)), (3, .ref ao), (4, .int (nI (5 * t)))] [] := by
        intro ad x ms out hR
        refine j_iinc E 4 rfl (by decide : Int32.ofInt 5 = 5) (v := nI (5 * (t + 1))) (by rw [show (5 : Int32) = nI 5 from rfl, nI_add]; rfl) (by decide) (lv' := [(4, .int (nI (5 * (t + 1)))), (0, .ref b), (1, .ref (ax 0)), (2, .ref (ad 0)), (3, .ref ao)]) rfl dL_law_1152 ?_
        refine j_goto E (tgt := 23) (by decide) dL_law_1155 ?_
        refine j_sub [1, 2, 3, 4, 0] (lv' := [(0, .ref b), (1, .ref (ax 0)), (2, .ref (ad 0)), (3, .ref ao), (4, .int (nI (5 * (t + 1))))]) rfl ?_
        exact ih (t + 1) (by omega) (by omega) ad x ms out hR
      by_cases z0 : z = 0
      · refine j_tableIn E dL_law_39 (by rw [z0]; decide) (by rw [z0]; decide) (by rw [z0]; rfl) (tgt := 140) (by decide) ?_
        exact law_c0 hstt hL E hxn hxz hxc hX hbl HR ht hnext hR
      by_cases z1 : z = 1
      · refine j_tableIn E dL_law_39 (by rw [z1]; decide) (by rw [z1]; decide) (by rw [z1]; rfl) (tgt := 196) (by decide) ?_
        exact law_c1 hstt hL E hxn hxz hxc hX hbl HR ht hnext hR
      by_cases z2 : z = 2
      · refine j_tableIn E dL_law_39 (by rw [z2]; decide) (by rw [z2]; decide) (by rw [z2]; rfl) (tgt := 264) (by decide) ?_
        exact law_c2 hstt hL E hxn hxz hxc hX hbl HR ht hnext hR
      by_cases z3 : z = 3
      · refine j_tableIn E dL_law_39 (by rw [z3]; decide) (by rw [z3]; decide) (by rw [z3]; rfl) (tgt := 320) (by decide) ?_
        exact law_c3 hstt hL E hxn hxz hxc hX hbl HR ht hnext hR
      by_cases z4 : z = 4
      · refine j_tableIn E dL_law_39 (by rw [z4]; decide) (by rw [z4]; decide) (by rw [z4]; rfl) (tgt := 400) (by decide) ?_
        exact law_c4 hstt hL E hxn hxz hxc hX hbl HR ht hnext hR
      by_cases z5 : z = 5
      · refine j_tableIn E dL_law_39 (by rw [z5]; decide) (by rw [z5]; decide) (by rw [z5]; rfl) (tgt := 468) (by decide) ?_
        exact law_c5 hstt hL E hxn hxz hxc hX hbl HR ht hnext hR
      by_cases z6 : z = 6
      · refine j_tableIn E dL_law_39 (by rw [z6]; decide) (by rw [z6]; decide) (by rw [z6]; rfl) (tgt := 536) (by decide) ?_
        exact law_c6 hstt hL E hxn hxz hxc hX hbl HR ht hnext hR
      by_cases z7 : z = 7
      · refine j_tableIn E dL_law_39 (by rw [z7]; decide) (by rw [z7]; decide) (by rw [z7]; rfl) (tgt := 549) (by decide) ?_
        exact law_c7 hstt hL E hxn hxz hxc hX hbl HR ht hnext hR
      by_cases z8 : z = 8
      · refine j_tableIn E dL_law_39 (by rw [z8]; decide) (by rw [z8]; decide) (by rw [z8]; rfl) (tgt := 612) (by decide) ?_
        exact law_c8 hstt hL E hxn hxz hxc hX hbl HR ht hnext hR
      by_cases z9 : z = 9
      · refine j_tableIn E dL_law_39 (by rw [z9]; decide) (by rw [z9]; decide) (by rw [z9]; rfl) (tgt := 675) (by decide) ?_
        exact law_c9 hstt hL E hxn hxz hxc hX hbl HR ht hnext hR
      by_cases z10 : z = 10
      · refine j_tableIn E dL_law_39 (by rw [z10]; decide) (by rw [z10]; decide) (by rw [z10]; rfl) (tgt := 787) (by decide) ?_
        exact law_c10 hstt hL E hxn hxz hxc hX hbl HR ht hnext hR
      by_cases z11 : z = 11
      · refine j_tableIn E dL_law_39 (by rw [z11]; decide) (by rw [z11]; decide) (by rw [z11]; rfl) (tgt := 800) (by decide) ?_
        exact law_c11 hstt hL E hxn hxz hxc hX hbl HR ht hnext hR
      by_cases z12 : z = 12
      · refine j_tableIn E dL_law_39 (by rw [z12]; decide) (by rw [z12]; decide) (by rw [z12]; rfl) (tgt := 856) (by decide) ?_
        exact law_c12 hstt hL E hxn hxz hxc hX hbl HR ht hnext hR
      by_cases z13 : z = 13
      · refine j_tableIn E dL_law_39 (by rw [z13]; decide) (by rw [z13]; decide) (by rw [z13]; rfl) (tgt := 924) (by decide) ?_
        exact law_c13 hstt hL E hxn hxz hxc hX hbl HR ht hnext hR
      by_cases z14 : z = 14
      · refine j_tableIn E dL_law_39 (by rw [z14]; decide) (by rw [z14]; decide) (by rw [z14]; rfl) (tgt := 937) (by decide) ?_
        exact law_c14 hstt hL E hxn hxz hxc hX hbl HR ht hnext hR
      by_cases z15 : z = 15
      · refine j_tableIn E dL_law_39 (by rw [z15]; decide) (by rw [z15]; decide) (by rw [z15]; rfl) (tgt := 950) (by decide) ?_
        exact law_c15 hstt hL E hxn hxz hxc hX hbl HR ht hnext hR
      by_cases z16 : z = 16
      · refine j_tableIn E dL_law_39 (by rw [z16]; decide) (by rw [z16]; decide) (by rw [z16]; rfl) (tgt := 963) (by decide) ?_
        exact law_c16 hstt hL E hxn hxz hxc hX hbl HR ht hnext hR
      by_cases z17 : z = 17
      · refine j_tableIn E dL_law_39 (by rw [z17]; decide) (by rw [z17]; decide) (by rw [z17]; rfl) (tgt := 976) (by decide) ?_
        exact law_c17 hstt hL E hxn hxz hxc hX hbl HR ht hnext hR
      by_cases z18 : z = 18
      · refine j_tableIn E dL_law_39 (by rw [z18]; decide) (by rw [z18]; decide) (by rw [z18]; rfl) (tgt := 989) (by decide) ?_
        exact law_c18 hstt hL E hxn hxz hxc hX hbl HR ht hnext hR
      by_cases z19 : z = 19
      · refine j_tableIn E dL_law_39 (by rw [z19]; decide) (by rw [z19]; decide) (by rw [z19]; rfl) (tgt := 1057) (by decide) ?_
        exact law_c19 hstt hL E hxn hxz hxc hX hbl HR ht hnext hR
      by_cases z20 : z = 20
      · refine j_tableIn E dL_law_39 (by rw [z20]; decide) (by rw [z20]; decide) (by rw [z20]; rfl) (tgt := 1125) (by decide) ?_
        exact law_c20 hstt hL E hxn hxz hxc hX hbl HR ht hnext hR
      by_cases z21 : z = 21
      · refine j_tableIn E dL_law_39 (by rw [z21]; decide) (by rw [z21]; decide) (by rw [z21]; rfl) (tgt := 1138) (by decide) ?_
        exact law_c21 hstt hL E hxn hxz hxc hX hbl HR ht hnext hR
      refine j_tableOut E dL_law_39 (jOut0_21 z0 z1 z2 z3 z4 z5 z6 z7 z8 z9 z10 z11 z12 z13 z14 z15 z16 z17 z18 z19 z20 z21) (tgt := 1152) (by decide) ?_
      refine j_widen (k := 80 + 10 * (t + 1)) (n := 8000 + 1800 * (t + 1)) (by omega) (by omega) ?_
      exact hnext _ _ _ _ hR
def stX0 : jS := ((fun k => if k = 5 then (jfill 10 (-1) (fun _ => 0)) else if k = 12 then (jfill 410 (-3) (fun _ => 0)) else if k = 13 then (jfill 410 (-1) (fun _ => 0)) else if k = 23 then (jfill 410 (-1) (fun _ => 0)) else fun _ => 0), (fun k => if k = 6 then -1 else 0))
def stM0 : jS := ((fun k => if k = 4 then (upd (upd (upd (upd (upd (upd (upd (upd (upd (upd (fun _ => 0) (0 : Int32).toNatClampNeg (-1)) (1 : Int32).toNatClampNeg (-1)) (2 : Int32).toNatClampNeg (-1)) (3 : Int32).toNatClampNeg (-1)) (4 : Int32).toNatClampNeg (-1)) (5 : Int32).toNatClampNeg (-1)) (6 : Int32).toNatClampNeg (-1)) (7 : Int32).toNatClampNeg (-1)) (8 : Int32).toNatClampNeg (-1)) (9 : Int32).toNatClampNeg (-1)) else fun _ => 0), (fun k => if k = 9 then -1 else 0))
theorem j_wnewJ {p : Program} {l : Launch} {e : Env} {R : Room} {s : State} {m : MethodId} {args : Array Value} {below : List Frame} {meth : Method} {c : Code} {cells slots : Nat} {Q : State → Prop} {cc : ByteArray} {nL : Nat} {own : String} {Ts : List Cond} {D : va_G} {A : Nat → Prop} {pc : Nat} {lv : List (Nat × Value)} {stk : List Value} {w : va_W} {cI cZ cJ : ClassId} (E : jE p s m args meth c cc nL own Ts D (jT3 cI cZ cJ) A) {n : Int32} (N' : Nat) (hn : ¬ n < 0) (hN : n.toNatClampNeg = N') (hby : N' * componentBytes (.long : FieldType) ≤ 536870912) (harr : Cond.arrayClass .long ∈ Ts) (hR : cells + 1 ≤ R.cells ∧ slots + N' ≤ R.slots) (hd : decode cc pc = .ok (.newarray .long, 2)) (kk : ∀ q : Nat, J p l e R s m args below meth c nL D A wId Q (cells + 1) (slots + N') (w ++ [(q, .inl (cJ, N', .inr (.inl (fun _ => 0))))]) (pc + 2) lv (.ref q :: stk)) : J p l e R s m args below meth c nL D A wId Q cells slots w pc lv (.int n :: stk) := by
  intro H locs ls hP hD hS hl
  refine va_newa (atype := .long) (ty := .long) (a0 := (N', .inr (.inl (fun _ => 0)))) E.1.1 E.1.2.1 (E.1.2.2.2.2 _ harr) rfl E.2.2.1 hP hD hS E.2.2.2.2 (fun _ => rfl) hn hN hby hR.1 hR.2 hd (fun q cA H1 hK1 hP1 hD1 hS1 => ?_)
  have e1 : s.vm.findClass ("[" ++ (.long : FieldType).toString) = some cA := (hK1.2 3 (cA, .long) rfl).2
  have e2 : s.vm.findClass ("[" ++ (.long : FieldType).toString) = some cJ := (E.2.2.1.2 2 (cJ, .long) rfl).2
  obtain rfl : cA = cJ := Option.some.inj (e1.symm.trans e2)
  exact kk q H1 locs ls hP1 hD1 hS1 hl
theorem ctC_tys {l : Launch} {D : va_G} {tys tys' : List (ClassId × FieldType)} {y : MethodName} {ws : List Cond} {rm : Room} {mc ms : Nat} {av : List Value} {w0 : va_W} {P : va_W → Prop} (is : List Nat) (hs : is.filterMap (fun i => tys'[i]?) = tys) (h : CtC l D tys y ws rm mc ms av w0 P) : CtC l D tys' y ws rm mc ms av w0 P := by
  intro sz
  intro p e ha hc hk s m args below hf happ hpre htr
  obtain ⟨h1, h2, h3, h4, h5, h6⟩ := hpre
  exact h sz p e ha hc hk s m args below hf happ ⟨h1, h2, h3, h4.sub is hs, h5, h6⟩ htr
set_option maxHeartbeats 4000000 in
set_option maxRecDepth 100000 in
theorem whole_start_open {Rel : jS → jS → Prop} (HR : LawHyp Rel) (HR0 : Rel stX0 stM0) {p : Program} {e : Env} {s : State} {m : MethodId} {below : List Frame} {meth : Method} {c : Code} (l : Launch) (hflags : l.flags = flags0) {b L : Nat} {xs : Nat → Int32} (hL : L ≤ 2560) (C0 : lw_At p s m meth c b L xs) : W p l e room_1 s m #[Value.ref b] below meth c s.heap [] 0 0 (lw_Z below #[Value.ref b] s) (entryFrame m ([Value.ref b] : List Value).toArray 7) := by
  obtain ⟨hx, hb, hr, hml, hown, hts, hX, hbl, hlocks, hgv⟩ := id C0
  have hg := flat_of_before _ hgv
  have htw : ∀ w ∈ wsL_law, w.before #[Value.ref b] s = true := fun w h => hts w (wsL_law_in w h)
  have hstt := law_stt hflags
  obtain ⟨c0, iS0, hKn0⟩ := u_known (C := RX0) (T := TX0) (N := 8) (n := 8) htw inlX0 (htw (.instantiable RX0 8) (List.mem_append_left _ (List.mem_append_left _ (List.mem_append_left _ (List.mem_of_getElem? (i := 15) rfl)))))
  obtain ⟨c1, iS1, hKn1⟩ := u_known (C := RX1) (T := TX1) (N := 3) (n := 3) htw inlX1 (htw (.instantiable RX1 3) (List.mem_append_left _ (List.mem_append_left _ (List.mem_append_left _ (List.mem_of_getElem? (i := 23) rfl)))))
  obtain ⟨c2, iS2, hKn2⟩ := u_known (C := RX2) (T := TX2) (N := 10) (n := 10) htw inlX2 (htw (.instantiable RX2 10) (List.mem_append_left _ (List.mem_append_left _ (List.mem_append_left _ (List.mem_of_getElem? (i := 66) rfl)))))
  obtain ⟨c3, iS3, hKn3⟩ := u_known (C := RX3) (T := TX3) (N := 9) (n := 9) htw inlX3 (htw (.instantiable RX3 9) (List.mem_append_left _ (List.mem_append_left _ (List.mem_append_left _ (List.mem_of_getElem? (i := 27) rfl)))))
  obtain ⟨c4, iS4, hKn4⟩ := u_known (C := RX4) (T := TX4) (N := 2) (n := 2) htw inlX4 (htw (.instantiable RX4 2) (List.mem_append_left _ (List.mem_append_left _ (List.mem_append_left _ (List.mem_of_getElem? (i := 19) rfl)))))
  obtain ⟨c5, iS5, hKn5⟩ := u_known (C := RX5) (T := TX5) (N := 4) (n := 4) htw inlX5 (htw (.instantiable RX5 4) (List.mem_append_left _ (List.mem_append_left _ (List.mem_append_left _ (List.mem_of_getElem? (i := 1) rfl)))))
  obtain ⟨c6, iS6, hKn6⟩ := u_known (C := RX6) (T := TX6) (N := 29) (n := 29) htw inlX6 (htw (.instantiable RX6 29) (List.mem_append_left _ (List.mem_append_left _ (List.mem_append_left _ (List.mem_of_getElem? (i := 4) rfl)))))
  obtain ⟨dC, dI, hKc⟩ : ∃ (dC : Nat → ClassId) (dI : Nat → Nat → Nat), ∀ (k : Nat) (q : vw_C), vwCl[k]? = some q → u_Kn s q.1 q.2.1 q.2.2 (dC k) (dI k) := by
    refine ⟨fun k => if k = 0 then c0 else if k = 1 then c1 else if k = 2 then c2 else if k = 3 then c3 else if k = 4 then c4 else if k = 5 then c5 else c6, fun k => if k = 0 then iS0 else if k = 1 then iS1 else if k = 2 then iS2 else if k = 3 then iS3 else if k = 4 then iS4 else if k = 5 then iS5 else iS6, ?_⟩
    intro k q hq
    match k, hq with
    | 0, hq => cases hq; exact hKn0
    | 1, hq => cases hq; exact hKn1
    | 2, hq => cases hq; exact hKn2
    | 3, hq => cases hq; exact hKn3
    | 4, hq => cases hq; exact hKn4
    | 5, hq => cases hq; exact hKn5
    | 6, hq => cases hq; exact hKn6
    | k + 7, hq => simp [vwCl] at hq
  obtain ⟨cI, aI, fI⟩ := law_arr (htw (.arrayClass .int) (List.mem_append_left _ (List.mem_append_left _ (List.mem_append_left _ (List.mem_of_getElem? (i := 34) rfl)))))
  obtain ⟨cZ, aZ, fZ⟩ := law_arr (htw (.arrayClass .boolean) (List.mem_append_left _ (List.mem_append_left _ (List.mem_append_left _ (List.mem_of_getElem? (i := 40) rfl)))))
  obtain ⟨cJ, aJ, fJ⟩ := law_arr (htw (.arrayClass .long) (List.mem_append_left _ (List.mem_append_left _ (List.mem_append_left _ (List.mem_of_getElem? (i := 6) rfl)))))
  have hK : va_K (dC, dI) vwCl (jT3 cI cZ cJ) s := ⟨hKc, fun k q hq => by
    match k, hq with
    | 0, hq => cases hq; exact ⟨aI, fI⟩
    | 1, hq => cases hq; exact ⟨aZ, fZ⟩
    | 2, hq => cases hq; exact ⟨aJ, fJ⟩
    | k + 3, hq => simp at hq⟩
  have E : jE p s m #[Value.ref b] meth c cL_law 7 RL wsL_law (dC, dI) (jT3 cI cZ cJ) (fun q => s.heap.size ≤ q) := ⟨⟨hx, hb, hml, hown, htw⟩, hlocks, hK, law_jN hts, fun _ h => h⟩
  have hxn := law_xN hts hg
  have hxz := law_xZ hts hg
  have hxc := law_xNc hg
  have hP : va_P (dC, dI) vwCl (wId []) s.heap := fun k q h => by simp at h
  have hD : va_D (fun q : Nat => s.heap.size ≤ q) (wId []) := ⟨fun i j p q h => by simp at h, fun k q h => by simp at h⟩
  have hl := lv_entry ([.ref b]) (n := 7) (Nat.le_of_ble_eq_true rfl)
  rw [lg_entry_eq]
  suffices h9 : J p l e room_1 s m #[Value.ref b] below meth c 7 (dC, dI) (fun q => s.heap.size ≤ q) wId (lw_Z below #[Value.ref b] s) 0 0 [] 0 [(0, .ref b)] [] from h9 s.heap [] _ hP hD va_S.rf hl
  refine j_wnew E (ci := 5) (fs := [.null, .null, .null, .null]) inlX5 tyX5_ok (List.mem_append_left _ (List.mem_append_left _ (List.mem_append_left _ (List.mem_of_getElem? (i := 0) rfl)))) (List.mem_append_left _ (List.mem_append_left _ (List.mem_append_left _ (List.mem_of_getElem? (i := 1) rfl)))) (List.mem_append_left _ (List.mem_append_left _ (List.mem_append_left _ (List.mem_of_getElem? (i := 2) rfl)))) rfl (fun j hj => by match j, hj with | 0, _ => rfl | 1, _ => rfl | 2, _ => rfl | 3, _ => rfl | (j + 4), hj => exact absurd hj (by omega)) ⟨Nat.le_of_ble_eq_true rfl, Nat.le_of_ble_eq_true rfl⟩ dL_law_0 (fun hx => ?_)
  refine j_st (st' := [(hx, .inr (5, [.null, .null, .null, .null]))]) rfl ?_
  refine j_dup E rfl dL_law_3 ?_
  refine j_wcallI E (As := []) (wr := []) [0] [] (ctC_tys [0, 1] rfl c_X5_init) (cwI 0 E.1.2.2.2.2 gL_law_X5_init rfl rfl rfl (E.1.2.2.2.2 _ (List.mem_append_left _ (List.mem_append_left _ (List.mem_append_left _ (List.mem_of_getElem? (i := 2) rfl))))) (E.1.2.2.2.2 _ (List.mem_append_left _ (List.mem_append_left _ (List.mem_append_left _ (List.mem_of_getElem? (i := 8) rfl))))) (E.1.2.2.2.2 _ (List.mem_append_left _ (List.mem_append_left _ (List.mem_append_left _ (List.mem_of_getElem? (i := 9) rfl))))) rfl (by decide +kernel) ⟨Nat.le_of_ble_eq_true rfl, Nat.le_of_ble_eq_true rfl⟩) rfl rfl rfl rfl rfl (by decide) rfl rfl (Nat.le_of_ble_eq_true rfl) ⟨Nat.le_of_ble_eq_true rfl, Nat.le_of_ble_eq_true rfl⟩ dL_law_4 (fun u hu => ?_)
  obtain ⟨q1, q2, q3, q4, q5, q6, q7, q8, q9, q10, q11, q12, q13, q14, q15, q16, q17, q18, q19, q20, q21, q22, q23, q24, rfl⟩ := hu
  refine j_cw (ws' := [(hx, .inr (5, [.ref q1, .ref q8, .ref q10, .ref q14])), (q1, .inr (0, [.ref q2, .ref q3, .ref q4, .ref q5, .int 0, .ref q6, .int 0, .ref q7])), (q2, .inl (cI, 80, .inl (fun _ => 0))), (q3, .inl (cI, 80, .inl (fun _ => 0))), (q4, .inl (cI, 80, .inl (fun _ => 0))), (q5, .inl (cI, 10, .inl (jfill 10 (-1) (fun _ => 0)))), (q6, .inl (cZ, 80, .inl (fun _ => 0))), (q14, .inr (3, [.ref q1, .ref q8, .ref q10, .ref q15, .int 0, .int 0, .int 0, .int (-1), .int 0])), (q7, .inl (cI, 80, .inl (fun _ => 0))), (q8, .inr (4, [.ref q9, .int 0])), (q9, .inl (cI, 40, .inl (fun _ => 0))), (q10, .inr (1, [.ref q11, .ref q12, .ref q13])), (q11, .inl (cI, 410, .inl (jfill 410 (-3) (fun _ => 0)))), (q12, .inl (cI, 410, .inl (jfill 410 (-1) (fun _ => 0)))), (q13, .inl (cI, 410, .inl (fun _ => 0))), (q15, .inr (2, [.ref q16, .ref q17, .ref q18, .ref q19, .ref q20, .ref q21, .ref q22, .ref q23, .ref q24, .int 0])), (q16, .inl (cI, 101, .inl (fun _ => 0))), (q17, .inl (cI, 101, .inl (fun _ => 0))), (q18, .inl (cI, 101, .inl (fun _ => 0))), (q19, .inl (cZ, 101, .inl (fun _ => 0))), (q20, .inl (cI, 101, .inl (fun _ => 0))), (q21, .inl (cI, 101, .inl (fun _ => 0))), (q22, .inl (cI, 101, .inl (fun _ => 0))), (q23, .inl (cI, 410, .inl (jfill 410 (-1) (fun _ => 0)))), (q24, .inl (cI, 41, .inl (fun _ => 0)))]) [0, 1, 2, 3, 4, 5, 6, 14, 7, 8, 9, 10, 11, 12, 13, 15, 16, 17, 18, 19, 20, 21, 22, 23, 24] (by decide) rfl rfl ?_
  refine j_astore_n E rfl (by decide) (lv' := [(1, .ref hx), (0, .ref b)]) rfl dL_law_7 ?_
  refine j_wnew E (ci := 6) (fs := [.int 0, .int 0, .null, .null, .null, .null, .int 0, .null, .null, .null, .null, .null, .int 0, .null, .null, .null, .null, .null, .null, .null, .int 0, .int 0, .int 0, .int 0, .int 0, .int 0, .null, .null, .null]) inlX6 tyX6_ok (List.mem_append_left _ (List.mem_append_left _ (List.mem_append_left _ (List.mem_of_getElem? (i := 3) rfl)))) (List.mem_append_left _ (List.mem_append_left _ (List.mem_append_left _ (List.mem_of_getElem? (i := 4) rfl)))) (List.mem_append_left _ (List.mem_append_left _ (List.mem_append_left _ (List.mem_of_getElem? (i := 5) rfl)))) rfl (fun j hj => by match j, hj with | 0, _ => rfl | 1, _ => rfl | 2, _ => rfl | 3, _ => rfl | 4, _ => rfl | 5, _ => rfl | 6, _ => rfl | 7, _ => rfl | 8, _ => rfl | 9, _ => rfl | 10, _ => rfl | 11, _ => rfl | 12, _ => rfl | 13, _ => rfl | 14, _ => rfl | 15, _ => rfl | 16, _ => rfl | 17, _ => rfl | 18, _ => rfl | 19, _ => rfl | 20, _ => rfl | 21, _ => rfl | 22, _ => rfl | 23, _ => rfl | 24, _ => rfl | 25, _ => rfl | 26, _ => rfl | 27, _ => rfl | 28, _ => rfl | (j + 29), hj => exact absurd hj (by omega)) ⟨Nat.le_of_ble_eq_true rfl, Nat.le_of_ble_eq_true rfl⟩ dL_law_8 (fun hm => ?_)
  refine j_st (st' := [(hx, .inr (5, [.ref q1, .ref q8, .ref q10, .ref q14])), (q1, .inr (0, [.ref q2, .ref q3, .ref q4, .ref q5, .int 0, .ref q6, .int 0, .ref q7])), (q2, .inl (cI, 80, .inl (fun _ => 0))), (q3, .inl (cI, 80, .inl (fun _ => 0))), (q4, .inl (cI, 80, .inl (fun _ => 0))), (q5, .inl (cI, 10, .inl (jfill 10 (-1) (fun _ => 0)))), (q6, .inl (cZ, 80, .inl (fun _ => 0))), (q14, .inr (3, [.ref q1, .ref q8, .ref q10, .ref q15, .int 0, .int 0, .int 0, .int (-1), .int 0])), (q7, .inl (cI, 80, .inl (fun _ => 0))), (q8, .inr (4, [.ref q9, .int 0])), (q9, .inl (cI, 40, .inl (fun _ => 0))), (q10, .inr (1, [.ref q11, .ref q12, .ref q13])), (q11, .inl (cI, 410, .inl (jfill 410 (-3) (fun _ => 0)))), (q12, .inl (cI, 410, .inl (jfill 410 (-1) (fun _ => 0)))), (q13, .inl (cI, 410, .inl (fun _ => 0))), (q15, .inr (2, [.ref q16, .ref q17, .ref q18, .ref q19, .ref q20, .ref q21, .ref q22, .ref q23, .ref q24, .int 0])), (q16, .inl (cI, 101, .inl (fun _ => 0))), (q17, .inl (cI, 101, .inl (fun _ => 0))), (q18, .inl (cI, 101, .inl (fun _ => 0))), (q19, .inl (cZ, 101, .inl (fun _ => 0))), (q20, .inl (cI, 101, .inl (fun _ => 0))), (q21, .inl (cI, 101, .inl (fun _ => 0))), (q22, .inl (cI, 101, .inl (fun _ => 0))), (q23, .inl (cI, 410, .inl (jfill 410 (-1) (fun _ => 0)))), (q24, .inl (cI, 41, .inl (fun _ => 0))), (hm, .inr (6, [.int 0, .int 0, .null, .null, .null, .null, .int 0, .null, .null, .null, .null, .null, .int 0, .null, .null, .null, .null, .null, .null, .null, .int 0, .int 0, .int 0, .int 0, .int 0, .int 0, .null, .null, .null]))]) rfl ?_
  refine j_dup E rfl dL_law_11 ?_
  refine j_wcallI E (As := []) (wr := [(hx, .inr (5, [.ref q1, .ref q8, .ref q10, .ref q14])), (q1, .inr (0, [.ref q2, .ref q3, .ref q4, .ref q5, .int 0, .ref q6, .int 0, .ref q7])), (q2, .inl (cI, 80, .inl (fun _ => 0))), (q3, .inl (cI, 80, .inl (fun _ => 0))), (q4, .inl (cI, 80, .inl (fun _ => 0))), (q5, .inl (cI, 10, .inl (jfill 10 (-1) (fun _ => 0)))), (q6, .inl (cZ, 80, .inl (fun _ => 0))), (q14, .inr (3, [.ref q1, .ref q8, .ref q10, .ref q15, .int 0, .int 0, .int 0, .int (-1), .int 0])), (q7, .inl (cI, 80, .inl (fun _ => 0))), (q8, .inr (4, [.ref q9, .int 0])), (q9, .inl (cI, 40, .inl (fun _ => 0))), (q10, .inr (1, [.ref q11, .ref q12, .ref q13])), (q11, .inl (cI, 410, .inl (jfill 410 (-3) (fun _ => 0)))), (q12, .inl (cI, 410, .inl (jfill 410 (-1) (fun _ => 0)))), (q13, .inl (cI, 410, .inl (fun _ => 0))), (q15, .inr (2, [.ref q16, .ref q17, .ref q18, .ref q19, .ref q20, .ref q21, .ref q22, .ref q23, .ref q24, .int 0])), (q16, .inl (cI, 101, .inl (fun _ => 0))), (q17, .inl (cI, 101, .inl (fun _ => 0))), (q18, .inl (cI, 101, .inl (fun _ => 0))), (q19, .inl (cZ, 101, .inl (fun _ => 0))), (q20, .inl (cI, 101, .inl (fun _ => 0))), (q21, .inl (cI, 101, .inl (fun _ => 0))), (q22, .inl (cI, 101, .inl (fun _ => 0))), (q23, .inl (cI, 410, .inl (jfill 410 (-1) (fun _ => 0)))), (q24, .inl (cI, 41, .inl (fun _ => 0)))]) [25] [0, 1, 2, 3, 4, 5, 6, 7, 8, 9, 10, 11, 12, 13, 14, 15, 16, 17, 18, 19, 20, 21, 22, 23, 24] (ctC_tys [0, 1] rfl c_X6_init) (cwI 0 E.1.2.2.2.2 gL_law_X6_init rfl rfl rfl (E.1.2.2.2.2 _ (List.mem_append_left _ (List.mem_append_left _ (List.mem_append_left _ (List.mem_of_getElem? (i := 5) rfl))))) (E.1.2.2.2.2 _ (List.mem_append_left _ (List.mem_append_left _ (List.mem_append_left _ (List.mem_of_getElem? (i := 92) rfl))))) (E.1.2.2.2.2 _ (List.mem_append_left _ (List.mem_append_left _ (List.mem_append_left _ (List.mem_of_getElem? (i := 93) rfl))))) rfl (by decide +kernel) ⟨Nat.le_of_ble_eq_true rfl, Nat.le_of_ble_eq_true rfl⟩) rfl rfl rfl rfl rfl (by decide) rfl rfl (Nat.le_of_ble_eq_true rfl) ⟨Nat.le_of_ble_eq_true rfl, Nat.le_of_ble_eq_true rfl⟩ dL_law_12 (fun u hu => ?_)
  obtain ⟨r1, r2, r3, r4, r5, r6, r7, r8, r9, r10, r11, r12, r13, r14, r15, r16, r17, r18, r19, rfl⟩ := hu
  refine j_st (st' := [(hx, .inr (5, [.ref q1, .ref q8, .ref q10, .ref q14])), (q1, .inr (0, [.ref q2, .ref q3, .ref q4, .ref q5, .int 0, .ref q6, .int 0, .ref q7])), (q2, .inl (cI, 80, .inl (fun _ => 0))), (q3, .inl (cI, 80, .inl (fun _ => 0))), (q4, .inl (cI, 80, .inl (fun _ => 0))), (q5, .inl (cI, 10, .inl (jfill 10 (-1) (fun _ => 0)))), (q6, .inl (cZ, 80, .inl (fun _ => 0))), (q14, .inr (3, [.ref q1, .ref q8, .ref q10, .ref q15, .int 0, .int 0, .int 0, .int (-1), .int 0])), (q7, .inl (cI, 80, .inl (fun _ => 0))), (q8, .inr (4, [.ref q9, .int 0])), (q9, .inl (cI, 40, .inl (fun _ => 0))), (q10, .inr (1, [.ref q11, .ref q12, .ref q13])), (q11, .inl (cI, 410, .inl (jfill 410 (-3) (fun _ => 0)))), (q12, .inl (cI, 410, .inl (jfill 410 (-1) (fun _ => 0)))), (q13, .inl (cI, 410, .inl (fun _ => 0))), (q15, .inr (2, [.ref q16, .ref q17, .ref q18, .ref q19, .ref q20, .ref q21, .ref q22, .ref q23, .ref q24, .int 0])), (q16, .inl (cI, 101, .inl (fun _ => 0))), (q17, .inl (cI, 101, .inl (fun _ => 0))), (q18, .inl (cI, 101, .inl (fun _ => 0))), (q19, .inl (cZ, 101, .inl (fun _ => 0))), (q20, .inl (cI, 101, .inl (fun _ => 0))), (q21, .inl (cI, 101, .inl (fun _ => 0))), (q22, .inl (cI, 101, .inl (fun _ => 0))), (q23, .inl (cI, 410, .inl (jfill 410 (-1) (fun _ => 0)))), (q24, .inl (cI, 41, .inl (fun _ => 0))), (hm, .inr (6, [.int 0, .int 0, .ref r1, .ref r2, .ref r3, .ref r4, .int 0, .ref r5, .ref r6, .ref r7, .ref r8, .ref r9, .int 0, .ref r10, .ref r11, .ref r12, .ref r13, .ref r14, .ref r15, .ref r16, .int 0, .int 0, .int 0, .int 0, .int 0, .int (-1), .ref r17, .ref r18, .ref r19])), (r1, .inl (cI, 80, .inl (fun _ => 0))), (r2, .inl (cI, 80, .inl (fun _ => 0))), (r3, .inl (cI, 80, .inl (fun _ => 0))), (r4, .inl (cI, 10, .inl (upd (upd (upd (upd (upd (upd (upd (upd (upd (upd (fun _ => 0) (0 : Int32).toNatClampNeg (-1)) (1 : Int32).toNatClampNeg (-1)) (2 : Int32).toNatClampNeg (-1)) (3 : Int32).toNatClampNeg (-1)) (4 : Int32).toNatClampNeg (-1)) (5 : Int32).toNatClampNeg (-1)) (6 : Int32).toNatClampNeg (-1)) (7 : Int32).toNatClampNeg (-1)) (8 : Int32).toNatClampNeg (-1)) (9 : Int32).toNatClampNeg (-1)))), (r5, .inl (cI, 40, .inl (fun _ => 0))), (r6, .inl (cZ, 410, .inl (fun _ => 0))), (r7, .inl (cI, 410, .inl (fun _ => 0))), (r8, .inl (cI, 410, .inl (fun _ => 0))), (r9, .inl (cI, 410, .inl (fun _ => 0))), (r10, .inl (cI, 102, .inl (fun _ => 0))), (r11, .inl (cI, 102, .inl (fun _ => 0))), (r12, .inl (cI, 102, .inl (fun _ => 0))), (r13, .inl (cZ, 102, .inl (fun _ => 0))), (r14, .inl (cZ, 102, .inl (fun _ => 0))), (r15, .inl (cI, 102, .inl (fun _ => 0))), (r16, .inl (cI, 102, .inl (fun _ => 0))), (r17, .inl (cZ, 10, .inl (fun _ => 0))), (r18, .inl (cZ, 80, .inl (fun _ => 0))), (r19, .inl (cI, 80, .inl (fun _ => 0)))]) rfl ?_
  refine j_astore_n E rfl (by decide) (lv' := [(2, .ref hm), (1, .ref hx), (0, .ref b)]) rfl dL_law_15 ?_
  refine j_iconst E (by decide : Int32.ofInt 1 = 1) dL_law_16 ?_
  refine j_wnewJ E 1 (by decide) (by decide) (Nat.le_of_ble_eq_true rfl) (List.mem_append_left _ (List.mem_append_left _ (List.mem_append_left _ (List.mem_of_getElem? (i := 6) rfl)))) ⟨Nat.le_of_ble_eq_true rfl, Nat.le_of_ble_eq_true rfl⟩ dL_law_17 (fun qo => ?_)
  refine j_cw (ws' := [(hx, .inr (5, [.ref q1, .ref q8, .ref q10, .ref q14])), (q1, .inr (0, [.ref q2, .ref q3, .ref q4, .ref q5, .int 0, .ref q6, .int 0, .ref q7])), (q2, .inl (cI, 80, .inl (fun _ => 0))), (q3, .inl (cI, 80, .inl (fun _ => 0))), (q4, .inl (cI, 80, .inl (fun _ => 0))), (q5, .inl (cI, 10, .inl (jfill 10 (-1) (fun _ => 0)))), (q6, .inl (cZ, 80, .inl (fun _ => 0))), (q14, .inr (3, [.ref q1, .ref q8, .ref q10, .ref q15, .int 0, .int 0, .int 0, .int (-1), .int 0])), (q7, .inl (cI, 80, .inl (fun _ => 0))), (q8, .inr (4, [.ref q9, .int 0])), (q9, .inl (cI, 40, .inl (fun _ => 0))), (q10, .inr (1, [.ref q11, .ref q12, .ref q13])), (q11, .inl (cI, 410, .inl (jfill 410 (-3) (fun _ => 0)))), (q12, .inl (cI, 410, .inl (jfill 410 (-1) (fun _ => 0)))), (q13, .inl (cI, 410, .inl (fun _ => 0))), (q15, .inr (2, [.ref q16, .ref q17, .ref q18, .ref q19, .ref q20, .ref q21, .ref q22, .ref q23, .ref q24, .int 0])), (q16, .inl (cI, 101, .inl (fun _ => 0))), (q17, .inl (cI, 101, .inl (fun _ => 0))), (q18, .inl (cI, 101, .inl (fun _ => 0))), (q19, .inl (cZ, 101, .inl (fun _ => 0))), (q20, .inl (cI, 101, .inl (fun _ => 0))), (q21, .inl (cI, 101, .inl (fun _ => 0))), (q22, .inl (cI, 101, .inl (fun _ => 0))), (q23, .inl (cI, 410, .inl (jfill 410 (-1) (fun _ => 0)))), (q24, .inl (cI, 41, .inl (fun _ => 0))), (qo, .inl (cJ, 1, .inr (.inl (fun _ => 0)))), (hm, .inr (6, [.int 0, .int 0, .ref r1, .ref r2, .ref r3, .ref r4, .int 0, .ref r5, .ref r6, .ref r7, .ref r8, .ref r9, .int 0, .ref r10, .ref r11, .ref r12, .ref r13, .ref r14, .ref r15, .ref r16, .int 0, .int 0, .int 0, .int 0, .int 0, .int (-1), .ref r17, .ref r18, .ref r19])), (r1, .inl (cI, 80, .inl (fun _ => 0))), (r2, .inl (cI, 80, .inl (fun _ => 0))), (r3, .inl (cI, 80, .inl (fun _ => 0))), (r4, .inl (cI, 10, .inl (upd (upd (upd (upd (upd (upd (upd (upd (upd (upd (fun _ => 0) (0 : Int32).toNatClampNeg (-1)) (1 : Int32).toNatClampNeg (-1)) (2 : Int32).toNatClampNeg (-1)) (3 : Int32).toNatClampNeg (-1)) (4 : Int32).toNatClampNeg (-1)) (5 : Int32).toNatClampNeg (-1)) (6 : Int32).toNatClampNeg (-1)) (7 : Int32).toNatClampNeg (-1)) (8 : Int32).toNatClampNeg (-1)) (9 : Int32).toNatClampNeg (-1)))), (r5, .inl (cI, 40, .inl (fun _ => 0))), (r6, .inl (cZ, 410, .inl (fun _ => 0))), (r7, .inl (cI, 410, .inl (fun _ => 0))), (r8, .inl (cI, 410, .inl (fun _ => 0))), (r9, .inl (cI, 410, .inl (fun _ => 0))), (r10, .inl (cI, 102, .inl (fun _ => 0))), (r11, .inl (cI, 102, .inl (fun _ => 0))), (r12, .inl (cI, 102, .inl (fun _ => 0))), (r13, .inl (cZ, 102, .inl (fun _ => 0))), (r14, .inl (cZ, 102, .inl (fun _ => 0))), (r15, .inl (cI, 102, .inl (fun _ => 0))), (r16, .inl (cI, 102, .inl (fun _ => 0))), (r17, .inl (cZ, 10, .inl (fun _ => 0))), (r18, .inl (cZ, 80, .inl (fun _ => 0))), (r19, .inl (cI, 80, .inl (fun _ => 0)))]) [0, 1, 2, 3, 4, 5, 6, 7, 8, 9, 10, 11, 12, 13, 14, 15, 16, 17, 18, 19, 20, 21, 22, 23, 24, 45, 25, 26, 27, 28, 29, 30, 31, 32, 33, 34, 35, 36, 37, 38, 39, 40, 41, 42, 43, 44] (by decide) rfl rfl ?_
  refine j_astore_n E rfl (by decide) (lv' := [(3, .ref qo), (2, .ref hm), (1, .ref hx), (0, .ref b)]) rfl dL_law_19 ?_
  refine j_iconst E (by decide : Int32.ofInt 0 = 0) dL_law_20 ?_
  refine j_istore E (by decide) (lv' := [(4, .int 0), (3, .ref qo), (2, .ref hm), (1, .ref hx), (0, .ref b)]) rfl dL_law_21 ?_
  refine j_sub [4, 3, 2, 1, 0] (lv' := [(0, .ref b), (1, .ref hx), (2, .ref hm), (3, .ref qo), (4, .int 0)]) rfl ?_
  refine j_widen (k := 80 + 10 * 0) (n := 8000 + 1800 * 0) (Nat.le_of_ble_eq_true rfl) (Nat.le_of_ble_eq_true rfl) ?_
  refine j_wf (wf' := wL (fun k => [hx, q1, q2, q3, q4, q5, q6, q14, q7, q8, q9, q10, q11, q12, q13, q15, q16, q17, q18, q19, q20, q21, q22, q23, q24].getD k 0) qo cI cZ cJ) (st' := ((stX0, fun _ => 0), ((fun k => [hm, r1, r2, r3, r4, r5, r6, r7, r8, r9, r10, r11, r12, r13, r14, r15, r16, r17, r18, r19].getD k 0), stM0))) rfl ?_
  exact law_loop hstt hL E hxn hxz hxc hX hbl hr HR (L + 1) 0 (Nat.zero_le _) (by omega) (fun k => [hm, r1, r2, r3, r4, r5, r6, r7, r8, r9, r10, r11, r12, r13, r14, r15, r16, r17, r18, r19].getD k 0) stX0 stM0 (fun _ => 0) HR0
