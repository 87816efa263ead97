/-! Methods that may throw: k = 0, the answer; k = 1, 2, 3: an exception of the class xcls k. -/
def xcls (k : Nat) : String := if k = 1 then "java/lang/IllegalArgumentException" else if k = 2 then "java/lang/IllegalStateException" else "java/lang/IndexOutOfBoundsException"
def xStr : List (Nat × String) := [(41, "kind is not 0 or 1"), (57, "low and high are no range of bytes"), (66, "kind is not 4 or 5"), (68, "kind is not 6 to 9"), (92, "there are no such bytes to replace"), (99, "a new byte is not 32 to 126"), (107, "the text would have more than 40 bytes"), (124, "there is no such place"), (177, "there are 80 expressions"), (182, "there is no such expression"), (184, "there is no such rule")]
def xDec : List String := ["java/lang/RuntimeException", "java/lang/Exception", Bundle.tN]
def xN (U : State) : Prop := (∀ q ∈ xStr, ∃ sa : Nat, vk_R RX5 q.1 q.2 sa U) ∧ va_Nw (.castable (xcls 1) (xcls 1)) U ∧ va_Nw (.castable (xcls 2) (xcls 2)) U ∧ va_Nw (.castable (xcls 3) (xcls 3)) U ∧ ∀ Y ∈ xDec, va_Nw (.declares (Bundle.initS Y)) U
theorem xN.warm {s U : State} (hW : s.WarmedH U.vm) (h : xN s) : xN U := ⟨fun q hq => (h.1 q hq).elim fun sa hs => ⟨sa, vk_R.warm hW hs⟩, va_Nw.warmC hW h.2.1, va_Nw.warmC hW h.2.2.1, va_Nw.warmC hW h.2.2.2.1, fun Y hY => va_Nw.warmD hW (h.2.2.2.2 Y hY)⟩
theorem xN.same {s U : State} (hv : s.vm = U.vm) (h : xN s) : xN U := ⟨fun q hq => (h.1 q hq).elim fun sa hs => ⟨sa, vk_R.same hv.symm hs⟩, va_Nw.same rfl hv h.2.1, va_Nw.same rfl hv h.2.2.1, va_Nw.same rfl hv h.2.2.2.1, fun Y hY => va_Nw.same rfl hv (h.2.2.2.2 Y hY)⟩
def xZ (A : Nat → Prop) (U : State) (H : Heap) : Prop := vx_Zq Bundle.tN "UNASSIGNED_STACK" Bundle.steD A U H ∧ vx_Zq Bundle.tN "SUPPRESSED_SENTINEL" Bundle.listD A U H
theorem xZ.moved {A : Nat → Prop} {u U : State} {H : Heap} (hvm : u.vm.Alike U.vm) (h : xZ A u H) : xZ A U H := ⟨h.1.moved hvm, h.2.moved hvm⟩
theorem xZ.kept {A : Nat → Prop} {U : State} {H H1 : Heap} (h : xZ A U H) (hq : ∀ a : Nat, a < H.size → ¬ A a → H1[a]? = H[a]?) : xZ A U H1 := ⟨h.1.kept hq, h.2.kept hq⟩
theorem xZ.narrow {A B : Nat → Prop} {U : State} {H : Heap} (h : xZ A U H) (hAB : ∀ q, B q → A q) : xZ B U H := ⟨h.1.narrow hAB, h.2.narrow hAB⟩
def xPc {S : Type} (D : va_G) (tys : List (ClassId × FieldType)) (wf : S → va_W) (av : List Value) (sz : Nat) (st : S) : Array Value → State → Prop :=
  va_Pc av (fun U => U.heap.size = sz ∧ va_P D vwCl (wf st) U.heap ∧ va_K D vwCl tys U ∧ jN U ∧ va_D (fun _ => True) (wf st) ∧ xN U ∧ xZ (va_A (wf st) sz) U U.heap)
theorem xPc.blind {S : Type} {D : va_G} {tys : List (ClassId × FieldType)} {wf : S → va_W} {av : List Value} {sz : Nat} {st : S} : FrameBlind (xPc D tys wf av sz st) := by
  intro a U g mk q
  obtain ⟨q0, q1, qP, qK, qN, qD, qX, qZ⟩ := q
  exact ⟨q0, q1, qP, va_K.moved (u := U) (U := U.calling g mk a) (Vm.Alike.refl U.vm) qK, jN.same (s := U) (U := U.calling g mk a) rfl qN, qD, xN.same (s := U) (U := U.calling g mk a) rfl qX, xZ.moved (u := U) (U := U.calling g mk a) (Vm.Alike.refl U.vm) qZ⟩
def xXC {S : Type} (D : va_G) (wf : S → va_W) (A : Nat → Prop) (k : Nat) (u0 : S) : String → State → State → Prop := vx_X (fun u : S => k ≠ 0 ∧ u = u0) (fun E u t => E = xcls k ∧ jB D wf A u t) A
def xQI {S : Type} (D : va_G) (wf : S → va_W) (A : Nat → Prop) (o : Nat × Int32 × S) : Array Value → State → Outcome → State → Prop := va_Qi (fun r u => o.1 = 0 ∧ r = o.2.1 ∧ u = o.2.2) (jB D wf A) A
def xQV {S : Type} (D : va_G) (wf : S → va_W) (A : Nat → Prop) (o : Nat × S) : Array Value → State → Outcome → State → Prop := va_Qv (fun u => o.1 = 0 ∧ u = o.2) (jB D wf A) A
def CxI {S : Type} (l : Launch) (D : va_G) (tys : List (ClassId × FieldType)) (wf : S → va_W) (y : MethodName) (ws : List Cond) (rm : Room) (mc ms : Nat) (av : List Value) (st : S) (o : Nat × Int32 × S) : Prop :=
  ∀ sz : Nat, vx_Met l y ws rm (xPc D tys wf av sz st) (xQI D wf (va_A (wf st) sz) o) (xXC D wf (va_A (wf st) sz) o.1 o.2.2) mc ms (va_A (wf st) sz)
def CxV {S : Type} (l : Launch) (D : va_G) (tys : List (ClassId × FieldType)) (wf : S → va_W) (y : MethodName) (ws : List Cond) (rm : Room) (mc ms : Nat) (av : List Value) (st : S) (o : Nat × S) : Prop :=
  ∀ sz : Nat, vx_Met l y ws rm (xPc D tys wf av sz st) (xQV D wf (va_A (wf st) sz) o) (xXC D wf (va_A (wf st) sz) o.1 o.2) mc ms (va_A (wf st) sz)
def jXI {S : Type} (D : va_G) (wf : S → va_W) (A : Nat → Prop) (below : List Frame) (args : Array Value) (s : State) (mc ms : Nat) (o : Nat × Int32 × S) : State → Prop := vx_MQ below (xQI D wf A o) (xXC D wf A o.1 o.2.2) args s mc ms A
def jXV {S : Type} (D : va_G) (wf : S → va_W) (A : Nat → Prop) (below : List Frame) (args : Array Value) (s : State) (mc ms : Nat) (o : Nat × S) : State → Prop := vx_MQ below (xQV D wf A o) (xXC D wf A o.1 o.2) args s mc ms A
def jEX (p : Program) (l : Launch) (s : State) (m : MethodId) (args : Array Value) (meth : Method) (c : Code) (cc : ByteArray) (nL : Nat) (own : String) (Ts : List Cond) (D : va_G) (tys : List (ClassId × FieldType)) (A : Nat → Prop) : Prop :=
  jE p s m args meth c cc nL own Ts D tys A ∧ (∀ x ∈ c.exceptionTable.toList, False) ∧ l.stackTraces = false ∧ xN s ∧ xZ A s s.heap
set_option maxRecDepth 20000 in
theorem xg_1 : ∀ w ∈ Cond.classLink RX5 39 "java/lang/IllegalArgumentException" :: Cond.initialized "java/lang/IllegalArgumentException" :: vx_atS RX5 43 "java/lang/IllegalArgumentException" ["java/lang/RuntimeException", "java/lang/Exception"], vx_ot w = true := by decide +kernel
set_option maxRecDepth 20000 in
theorem xb_1 : ∀ w ∈ (vx_atS RX5 43 "java/lang/IllegalArgumentException" ["java/lang/RuntimeException", "java/lang/Exception"]).filter (fun w => !goodWord w), w ∈ (Cond.castable "java/lang/IllegalArgumentException" "java/lang/IllegalArgumentException" :: xDec.map (fun Y => Cond.declares (Bundle.initS Y))) := by decide +kernel
theorem xc_1 {s : State} {args : Array Value} (h : xN s) : ∀ w ∈ (Cond.castable "java/lang/IllegalArgumentException" "java/lang/IllegalArgumentException" :: xDec.map (fun Y => Cond.declares (Bundle.initS Y))), w.before args s = true := vx_c (va_Nw.use rfl (show va_Nw (.castable (xcls 1) (xcls 1)) s from h.2.1)) (fun w hw => by
  obtain ⟨Y, hY, rfl⟩ := List.mem_map.mp hw
  exact va_Nw.use rfl (h.2.2.2.2 Y hY))
set_option maxRecDepth 20000 in
theorem xg_2 : ∀ w ∈ Cond.classLink RX5 105 "java/lang/IllegalStateException" :: Cond.initialized "java/lang/IllegalStateException" :: vx_atS RX5 109 "java/lang/IllegalStateException" ["java/lang/RuntimeException", "java/lang/Exception"], vx_ot w = true := by decide +kernel
set_option maxRecDepth 20000 in
theorem xb_2 : ∀ w ∈ (vx_atS RX5 109 "java/lang/IllegalStateException" ["java/lang/RuntimeException", "java/lang/Exception"]).filter (fun w => !goodWord w), w ∈ (Cond.castable "java/lang/IllegalStateException" "java/lang/IllegalStateException" :: xDec.map (fun Y => Cond.declares (Bundle.initS Y))) := by decide +kernel
theorem xc_2 {s : State} {args : Array Value} (h : xN s) : ∀ w ∈ (Cond.castable "java/lang/IllegalStateException" "java/lang/IllegalStateException" :: xDec.map (fun Y => Cond.declares (Bundle.initS Y))), w.before args s = true := vx_c (va_Nw.use rfl (show va_Nw (.castable (xcls 2) (xcls 2)) s from h.2.2.1)) (fun w hw => by
  obtain ⟨Y, hY, rfl⟩ := List.mem_map.mp hw
  exact va_Nw.use rfl (h.2.2.2.2 Y hY))
set_option maxRecDepth 20000 in
theorem xg_3 : ∀ w ∈ Cond.classLink RX5 90 "java/lang/IndexOutOfBoundsException" :: Cond.initialized "java/lang/IndexOutOfBoundsException" :: vx_atS RX5 94 "java/lang/IndexOutOfBoundsException" ["java/lang/RuntimeException", "java/lang/Exception"], vx_ot w = true := by decide +kernel
set_option maxRecDepth 20000 in
theorem xb_3 : ∀ w ∈ (vx_atS RX5 94 "java/lang/IndexOutOfBoundsException" ["java/lang/RuntimeException", "java/lang/Exception"]).filter (fun w => !goodWord w), w ∈ (Cond.castable "java/lang/IndexOutOfBoundsException" "java/lang/IndexOutOfBoundsException" :: xDec.map (fun Y => Cond.declares (Bundle.initS Y))) := by decide +kernel
theorem xc_3 {s : State} {args : Array Value} (h : xN s) : ∀ w ∈ (Cond.castable "java/lang/IndexOutOfBoundsException" "java/lang/IndexOutOfBoundsException" :: xDec.map (fun Y => Cond.declares (Bundle.initS Y))), w.before args s = true := vx_c (va_Nw.use rfl (show va_Nw (.castable (xcls 3) (xcls 3)) s from h.2.2.2.1)) (fun w hw => by
  obtain ⟨Y, hY, rfl⟩ := List.mem_map.mp hw
  exact va_Nw.use rfl (h.2.2.2.2 Y hY))
section JX1
variable {p : Program} {l : Launch} {e : Env} {R : Room} {s : State} {m : MethodId} {args : Array Value} {below : List Frame} {meth : Method} {c : Code} {cells slots mc ms : Nat} {Q : State → Prop} {cc : ByteArray} {nL : Nat} {own : String} {Ts : List Cond} {D : va_G} {tys : List (ClassId × FieldType)} {A : Nat → Prop} {S : Type} {wf : S → va_W} {st st' : S} {pc : Nat} {lv lv' : List (Nat × Value)} {stk : List Value}
theorem j_xiret (E : jEX p l s m args meth c cc nL own Ts D tys A) {v : Int32} {o : Nat × Int32 × S} {ty : FieldType} (hr : meth.sig.returnType = some ty) (hn : narrow ty (.int v) = .int v) (ho : (0, v, st) = o) (hcs : cells ≤ mc ∧ slots ≤ ms) (hd : decode cc pc = .ok (.ireturn, 1)) : J p l e R s m args below meth c nL D A wf (jXI D wf A below args s mc ms o) cells slots st pc lv [.int v] := by
  intro H locs ls hP hD hS hl
  subst ho
  refine W.widen (k := mc) (n := ms) hcs.1 hcs.2 (vx_ret ?_)
  exact W.zret E.1.1.1 E.1.1.2.1 hr hn (fun t ht hW => ⟨⟨v, st, rfl, ⟨rfl, rfl, rfl⟩, by rw [ht]; exact hP, hD⟩, hS.F ht⟩) hS.2.2 hd (hlocks := E.1.2.1)
theorem j_xvret (E : jEX p l s m args meth c cc nL own Ts D tys A) {o : Nat × S} (hr : meth.sig.returnType = none) (ho : (0, st) = o) (hcs : cells ≤ mc ∧ slots ≤ ms) (hd : decode cc pc = .ok (.return_, 1)) : J p l e R s m args below meth c nL D A wf (jXV D wf A below args s mc ms o) cells slots st pc lv [] := by
  intro H locs ls hP hD hS hl
  subst ho
  refine W.widen (k := mc) (n := ms) hcs.1 hcs.2 (vx_ret ?_)
  exact W.vret E.1.1.1 E.1.1.2.1 hr (fun t ht hW => ⟨⟨st, rfl, ⟨rfl, rfl⟩, by rw [ht]; exact hP, hD⟩, hS.F ht⟩) hS.2.2 hd (hlocks := E.1.2.1)
theorem j_xthrowI1 (E : jEX p l s m args meth c cc nL RX5 Ts D tys A) {o : Nat × Int32 × S} {is : Nat} {text : String} (hk : Cond.classLink RX5 39 "java/lang/IllegalArgumentException" ∈ Ts) (hini : Cond.initialized "java/lang/IllegalArgumentException" ∈ Ts) (hat : ∀ w ∈ (vx_atS RX5 43 "java/lang/IllegalArgumentException" ["java/lang/RuntimeException", "java/lang/Exception"]).filter goodWord, w ∈ Ts) (hstr : (is, text) ∈ xStr) (ho : (1, 0, st) = o) (hR : 5 < R.frames ∧ (stk.map fun v => v.category).sum + 82 ≤ R.locals ∧ cells + 1 ≤ R.cells ∧ slots + 6 ≤ R.slots) (hcs : cells + 1 ≤ mc ∧ slots + 6 ≤ ms) (d0 : decode cc pc = .ok (.new 39, 3)) (d3 : decode cc (pc + 3) = .ok (.dup, 1)) (d4 : decode cc (pc + 4) = .ok (.ldc is, 2)) (d6 : decode cc (pc + 6) = .ok (.invokespecial 43, 3)) (d9 : decode cc (pc + 9) = .ok (.athrow, 1)) : J p l e R s m args below meth c nL D A wf (jXI D wf A below args s mc ms o) cells slots st pc lv stk := by
  intro H locs ls hP hD hS hl
  subst ho
  obtain ⟨sa, hsa⟩ := E.2.2.2.1.1 _ hstr
  refine vx_throwS (A := A) (names := ["java/lang/RuntimeException", "java/lang/Exception"]) (cls := "java/lang/IllegalArgumentException") E.1.1.1 E.1.1.2.1 E.2.2.1 E.1.1.2.2.2.1 (by decide) (by decide) (E.1.1.2.2.2.2 _ hk) (E.1.1.2.2.2.2 _ hini) hsa (vx_hat (fun w h => E.1.1.2.2.2.2 w (hat w h)) xb_1 (xc_1 E.2.2.2.1)) xg_1 E.2.2.2.2.1 E.2.2.2.2.2 hS (hl.1.trans E.1.1.2.2.1.symm) d0 d3 d4 d6 d9 (fun x hx => (E.2.1 x hx).elim) hR.1 hR.2.1 hR.2.2.1 hR.2.2.2 E.1.2.1 ?_ hS.2.2 hcs.1 hcs.2
  intro t hvm hz hkept
  refine ⟨st, ⟨Nat.succ_ne_zero _, rfl⟩, ⟨rfl, hP.kept (fun k q hk => hkept q.1 (hP k q hk).lt), hD⟩, Nat.le_trans hS.1 hz, fun q h1 h2 => ?_⟩
  rw [hkept q (Nat.lt_of_lt_of_le h1 hS.1)]
  exact hS.2.1 q h1 h2
theorem j_xthrowV1 (E : jEX p l s m args meth c cc nL RX5 Ts D tys A) {o : Nat × S} {is : Nat} {text : String} (hk : Cond.classLink RX5 39 "java/lang/IllegalArgumentException" ∈ Ts) (hini : Cond.initialized "java/lang/IllegalArgumentException" ∈ Ts) (hat : ∀ w ∈ (vx_atS RX5 43 "java/lang/IllegalArgumentException" ["java/lang/RuntimeException", "java/lang/Exception"]).filter goodWord, w ∈ Ts) (hstr : (is, text) ∈ xStr) (ho : (1, st) = o) (hR : 5 < R.frames ∧ (stk.map fun v => v.category).sum + 82 ≤ R.locals ∧ cells + 1 ≤ R.cells ∧ slots + 6 ≤ R.slots) (hcs : cells + 1 ≤ mc ∧ slots + 6 ≤ ms) (d0 : decode cc pc = .ok (.new 39, 3)) (d3 : decode cc (pc + 3) = .ok (.dup, 1)) (d4 : decode cc (pc + 4) = .ok (.ldc is, 2)) (d6 : decode cc (pc + 6) = .ok (.invokespecial 43, 3)) (d9 : decode cc (pc + 9) = .ok (.athrow, 1)) : J p l e R s m args below meth c nL D A wf (jXV D wf A below args s mc ms o) cells slots st pc lv stk := by
  intro H locs ls hP hD hS hl
  subst ho
  obtain ⟨sa, hsa⟩ := E.2.2.2.1.1 _ hstr
  refine vx_throwS (A := A) (names := ["java/lang/RuntimeException", "java/lang/Exception"]) (cls := "java/lang/IllegalArgumentException") E.1.1.1 E.1.1.2.1 E.2.2.1 E.1.1.2.2.2.1 (by decide) (by decide) (E.1.1.2.2.2.2 _ hk) (E.1.1.2.2.2.2 _ hini) hsa (vx_hat (fun w h => E.1.1.2.2.2.2 w (hat w h)) xb_1 (xc_1 E.2.2.2.1)) xg_1 E.2.2.2.2.1 E.2.2.2.2.2 hS (hl.1.trans E.1.1.2.2.1.symm) d0 d3 d4 d6 d9 (fun x hx => (E.2.1 x hx).elim) hR.1 hR.2.1 hR.2.2.1 hR.2.2.2 E.1.2.1 ?_ hS.2.2 hcs.1 hcs.2
  intro t hvm hz hkept
  refine ⟨st, ⟨Nat.succ_ne_zero _, rfl⟩, ⟨rfl, hP.kept (fun k q hk => hkept q.1 (hP k q hk).lt), hD⟩, Nat.le_trans hS.1 hz, fun q h1 h2 => ?_⟩
  rw [hkept q (Nat.lt_of_lt_of_le h1 hS.1)]
  exact hS.2.1 q h1 h2
theorem j_xthrowI2 (E : jEX p l s m args meth c cc nL RX5 Ts D tys A) {o : Nat × Int32 × S} {is : Nat} {text : String} (hk : Cond.classLink RX5 105 "java/lang/IllegalStateException" ∈ Ts) (hini : Cond.initialized "java/lang/IllegalStateException" ∈ Ts) (hat : ∀ w ∈ (vx_atS RX5 109 "java/lang/IllegalStateException" ["java/lang/RuntimeException", "java/lang/Exception"]).filter goodWord, w ∈ Ts) (hstr : (is, text) ∈ xStr) (ho : (2, 0, st) = o) (hR : 5 < R.frames ∧ (stk.map fun v => v.category).sum + 82 ≤ R.locals ∧ cells + 1 ≤ R.cells ∧ slots + 6 ≤ R.slots) (hcs : cells + 1 ≤ mc ∧ slots + 6 ≤ ms) (d0 : decode cc pc = .ok (.new 105, 3)) (d3 : decode cc (pc + 3) = .ok (.dup, 1)) (d4 : decode cc (pc + 4) = .ok (.ldc is, 2)) (d6 : decode cc (pc + 6) = .ok (.invokespecial 109, 3)) (d9 : decode cc (pc + 9) = .ok (.athrow, 1)) : J p l e R s m args below meth c nL D A wf (jXI D wf A below args s mc ms o) cells slots st pc lv stk := by
  intro H locs ls hP hD hS hl
  subst ho
  obtain ⟨sa, hsa⟩ := E.2.2.2.1.1 _ hstr
  refine vx_throwS (A := A) (names := ["java/lang/RuntimeException", "java/lang/Exception"]) (cls := "java/lang/IllegalStateException") E.1.1.1 E.1.1.2.1 E.2.2.1 E.1.1.2.2.2.1 (by decide) (by decide) (E.1.1.2.2.2.2 _ hk) (E.1.1.2.2.2.2 _ hini) hsa (vx_hat (fun w h => E.1.1.2.2.2.2 w (hat w h)) xb_2 (xc_2 E.2.2.2.1)) xg_2 E.2.2.2.2.1 E.2.2.2.2.2 hS (hl.1.trans E.1.1.2.2.1.symm) d0 d3 d4 d6 d9 (fun x hx => (E.2.1 x hx).elim) hR.1 hR.2.1 hR.2.2.1 hR.2.2.2 E.1.2.1 ?_ hS.2.2 hcs.1 hcs.2
  intro t hvm hz hkept
  refine ⟨st, ⟨Nat.succ_ne_zero _, rfl⟩, ⟨rfl, hP.kept (fun k q hk => hkept q.1 (hP k q hk).lt), hD⟩, Nat.le_trans hS.1 hz, fun q h1 h2 => ?_⟩
  rw [hkept q (Nat.lt_of_lt_of_le h1 hS.1)]
  exact hS.2.1 q h1 h2
theorem j_xthrowV2 (E : jEX p l s m args meth c cc nL RX5 Ts D tys A) {o : Nat × S} {is : Nat} {text : String} (hk : Cond.classLink RX5 105 "java/lang/IllegalStateException" ∈ Ts) (hini : Cond.initialized "java/lang/IllegalStateException" ∈ Ts) (hat : ∀ w ∈ (vx_atS RX5 109 "java/lang/IllegalStateException" ["java/lang/RuntimeException", "java/lang/Exception"]).filter goodWord, w ∈ Ts) (hstr : (is, text) ∈ xStr) (ho : (2, st) = o) (hR : 5 < R.frames ∧ (stk.map fun v => v.category).sum + 82 ≤ R.locals ∧ cells + 1 ≤ R.cells ∧ slots + 6 ≤ R.slots) (hcs : cells + 1 ≤ mc ∧ slots + 6 ≤ ms) (d0 : decode cc pc = .ok (.new 105, 3)) (d3 : decode cc (pc + 3) = .ok (.dup, 1)) (d4 : decode cc (pc + 4) = .ok (.ldc is, 2)) (d6 : decode cc (pc + 6) = .ok (.invokespecial 109, 3)) (d9 : decode cc (pc + 9) = .ok (.athrow, 1)) : J p l e R s m args below meth c nL D A wf (jXV D wf A below args s mc ms o) cells slots st pc lv stk := by
  intro H locs ls hP hD hS hl
  subst ho
  obtain ⟨sa, hsa⟩ := E.2.2.2.1.1 _ hstr
  refine vx_throwS (A := A) (names := ["java/lang/RuntimeException", "java/lang/Exception"]) (cls := "java/lang/IllegalStateException") E.1.1.1 E.1.1.2.1 E.2.2.1 E.1.1.2.2.2.1 (by decide) (by decide) (E.1.1.2.2.2.2 _ hk) (E.1.1.2.2.2.2 _ hini) hsa (vx_hat (fun w h => E.1.1.2.2.2.2 w (hat w h)) xb_2 (xc_2 E.2.2.2.1)) xg_2 E.2.2.2.2.1 E.2.2.2.2.2 hS (hl.1.trans E.1.1.2.2.1.symm) d0 d3 d4 d6 d9 (fun x hx => (E.2.1 x hx).elim) hR.1 hR.2.1 hR.2.2.1 hR.2.2.2 E.1.2.1 ?_ hS.2.2 hcs.1 hcs.2
  intro t hvm hz hkept
  refine ⟨st, ⟨Nat.succ_ne_zero _, rfl⟩, ⟨rfl, hP.kept (fun k q hk => hkept q.1 (hP k q hk).lt), hD⟩, Nat.le_trans hS.1 hz, fun q h1 h2 => ?_⟩
  rw [hkept q (Nat.lt_of_lt_of_le h1 hS.1)]
  exact hS.2.1 q h1 h2
theorem j_xthrowI3 (E : jEX p l s m args meth c cc nL RX5 Ts D tys A) {o : Nat × Int32 × S} {is : Nat} {text : String} (hk : Cond.classLink RX5 90 "java/lang/IndexOutOfBoundsException" ∈ Ts) (hini : Cond.initialized "java/lang/IndexOutOfBoundsException" ∈ Ts) (hat : ∀ w ∈ (vx_atS RX5 94 "java/lang/IndexOutOfBoundsException" ["java/lang/RuntimeException", "java/lang/Exception"]).filter goodWord, w ∈ Ts) (hstr : (is, text) ∈ xStr) (ho : (3, 0, st) = o) (hR : 5 < R.frames ∧ (stk.map fun v => v.category).sum + 82 ≤ R.locals ∧ cells + 1 ≤ R.cells ∧ slots + 6 ≤ R.slots) (hcs : cells + 1 ≤ mc ∧ slots + 6 ≤ ms) (d0 : decode cc pc = .ok (.new 90, 3)) (d3 : decode cc (pc + 3) = .ok (.dup, 1)) (d4 : decode cc (pc + 4) = .ok (.ldc is, 2)) (d6 : decode cc (pc + 6) = .ok (.invokespecial 94, 3)) (d9 : decode cc (pc + 9) = .ok (.athrow, 1)) : J p l e R s m args below meth c nL D A wf (jXI D wf A below args s mc ms o) cells slots st pc lv stk := by
  intro H locs ls hP hD hS hl
  subst ho
  obtain ⟨sa, hsa⟩ := E.2.2.2.1.1 _ hstr
  refine vx_throwS (A := A) (names := ["java/lang/RuntimeException", "java/lang/Exception"]) (cls := "java/lang/IndexOutOfBoundsException") E.1.1.1 E.1.1.2.1 E.2.2.1 E.1.1.2.2.2.1 (by decide) (by decide) (E.1.1.2.2.2.2 _ hk) (E.1.1.2.2.2.2 _ hini) hsa (vx_hat (fun w h => E.1.1.2.2.2.2 w (hat w h)) xb_3 (xc_3 E.2.2.2.1)) xg_3 E.2.2.2.2.1 E.2.2.2.2.2 hS (hl.1.trans E.1.1.2.2.1.symm) d0 d3 d4 d6 d9 (fun x hx => (E.2.1 x hx).elim) hR.1 hR.2.1 hR.2.2.1 hR.2.2.2 E.1.2.1 ?_ hS.2.2 hcs.1 hcs.2
  intro t hvm hz hkept
  refine ⟨st, ⟨Nat.succ_ne_zero _, rfl⟩, ⟨rfl, hP.kept (fun k q hk => hkept q.1 (hP k q hk).lt), hD⟩, Nat.le_trans hS.1 hz, fun q h1 h2 => ?_⟩
  rw [hkept q (Nat.lt_of_lt_of_le h1 hS.1)]
  exact hS.2.1 q h1 h2
theorem j_xthrowV3 (E : jEX p l s m args meth c cc nL RX5 Ts D tys A) {o : Nat × S} {is : Nat} {text : String} (hk : Cond.classLink RX5 90 "java/lang/IndexOutOfBoundsException" ∈ Ts) (hini : Cond.initialized "java/lang/IndexOutOfBoundsException" ∈ Ts) (hat : ∀ w ∈ (vx_atS RX5 94 "java/lang/IndexOutOfBoundsException" ["java/lang/RuntimeException", "java/lang/Exception"]).filter goodWord, w ∈ Ts) (hstr : (is, text) ∈ xStr) (ho : (3, st) = o) (hR : 5 < R.frames ∧ (stk.map fun v => v.category).sum + 82 ≤ R.locals ∧ cells + 1 ≤ R.cells ∧ slots + 6 ≤ R.slots) (hcs : cells + 1 ≤ mc ∧ slots + 6 ≤ ms) (d0 : decode cc pc = .ok (.new 90, 3)) (d3 : decode cc (pc + 3) = .ok (.dup, 1)) (d4 : decode cc (pc + 4) = .ok (.ldc is, 2)) (d6 : decode cc (pc + 6) = .ok (.invokespecial 94, 3)) (d9 : decode cc (pc + 9) = .ok (.athrow, 1)) : J p l e R s m args below meth c nL D A wf (jXV D wf A below args s mc ms o) cells slots st pc lv stk := by
  intro H locs ls hP hD hS hl
  subst ho
  obtain ⟨sa, hsa⟩ := E.2.2.2.1.1 _ hstr
  refine vx_throwS (A := A) (names := ["java/lang/RuntimeException", "java/lang/Exception"]) (cls := "java/lang/IndexOutOfBoundsException") E.1.1.1 E.1.1.2.1 E.2.2.1 E.1.1.2.2.2.1 (by decide) (by decide) (E.1.1.2.2.2.2 _ hk) (E.1.1.2.2.2.2 _ hini) hsa (vx_hat (fun w h => E.1.1.2.2.2.2 w (hat w h)) xb_3 (xc_3 E.2.2.2.1)) xg_3 E.2.2.2.2.1 E.2.2.2.2.2 hS (hl.1.trans E.1.1.2.2.1.symm) d0 d3 d4 d6 d9 (fun x hx => (E.2.1 x hx).elim) hR.1 hR.2.1 hR.2.2.1 hR.2.2.2 E.1.2.1 ?_ hS.2.2 hcs.1 hcs.2
  intro t hvm hz hkept
  refine ⟨st, ⟨Nat.succ_ne_zero _, rfl⟩, ⟨rfl, hP.kept (fun k q hk => hkept q.1 (hP k q hk).lt), hD⟩, Nat.le_trans hS.1 hz, fun q h1 h2 => ?_⟩
  rw [hkept q (Nat.lt_of_lt_of_le h1 hS.1)]
  exact hS.2.1 q h1 h2
theorem j_xcallVI (E : jEX p l s m args meth c cc nL own Ts D tys A) {y : MethodName} {bytes : ByteArray} {maxL index n mk sk : Nat} {ret : Option FieldType} {ws : List Cond} {rm : Room} {As rest : List Value} {o : Nat × S} {oo : Nat × Int32 × S} {b ci q0 : Nat} {C : String} {T : u_T} {N : Nat} {fs : List Value} (hM : CxV l D tys wf y ws rm mk sk (.ref b :: As) st o) (cw : CallW R s args own C index y bytes maxL ret ws rm mk sk n) (he : (wf st)[q0]? = some (b, .inr (ci, fs))) (hc : vwCl[ci]? = some (C, T, N)) (hn : As.length = n) (hstk : stk = As.reverse ++ .ref b :: rest) (hW : (rest.map fun v => v.category).sum ≤ 8) (hR : cells + mk ≤ R.cells ∧ slots + sk ≤ R.slots) (hcs : cells + mk ≤ mc ∧ slots + sk ≤ ms) (hd : decode cc pc = .ok (.invokevirtual index, 3)) (hx : o.1 ≠ 0 → (o.1, 0, o.2) = oo) (kk : o.1 = 0 → J p l e R s m args below meth c nL D A wf (jXI D wf A below args s mc ms oo) (cells + mk) (slots + sk) o.2 (pc + 3) lv rest) : J p l e R s m args below meth c nL D A wf (jXI D wf A below args s mc ms oo) cells slots st pc lv stk := by
  intro H locs ls hP hD hS hl
  refine vx_callv (vx_runV (As := As) (rest := rest) E.1.1 (hM H.size) cw ⟨xPc.blind, va_recv E.1.2.2.1 hP hc he, fun U hU hW => ⟨rfl, by rw [hU], by rw [hU]; exact hP, va_K.moved hW.alike E.1.2.2.1, E.1.2.2.2.1.warm hW, hD.weaken (fun _ _ _ _ => trivial), E.2.2.2.1.warm hW, by rw [hU]; exact ((E.2.2.2.2.kept hS.2.1).moved hW.alike).narrow (jFree E.1 hD hS)⟩⟩ rfl hn hl.1 hstk (lv_room hW) hd hR) hS (fun q _ h => jFree E.1 hD hS q h) (jFree E.1 hD hS) (fun q _ h => jFree E.1 hD hS q h) (fun E9 ce q9 u t H1 locs1 ht hvm hpx hBX hz1 hk1 hS1 hce hcv hcl => ?_) (fun u t H1 locs1 ht hvm hw hB hz1 hk1 hS1 => ?_)
  · obtain ⟨hne, rfl⟩ := hpx
    obtain ⟨hE9, hP1, hD1⟩ := hBX
    rw [ht] at hP1
    have ho := hx hne
    subst ho
    refine vx_out (fun x hx => (E.2.1 x hx).elim) E.1.2.1 hce hcv hcl (fun t2 ht2 hvm2 => ?_) hS1.2.2 hcs.1 hcs.2
    exact ⟨_, ⟨hne, rfl⟩, ⟨hE9, by rw [ht2]; exact hP1, hD1.weaken fun _ _ _ h => jFree E.1 hD hS _ h⟩, hS1.F ht2⟩
  · obtain ⟨h0, rfl⟩ := hw
    obtain ⟨hP1, hD1⟩ := hB
    rw [ht] at hP1
    exact kk h0 H1 locs1 ls hP1 (hD1.weaken fun _ _ _ h => jFree E.1 hD hS _ h) hS1 hl
theorem j_xcallSI (E : jEX p l s m args meth c cc nL own Ts D tys A) {y : MethodName} {bytes : ByteArray} {maxL index n mk sk : Nat} {ret : Option FieldType} {ws : List Cond} {rm : Room} {As rest : List Value} {o : Nat × S} {oo : Nat × Int32 × S} (hM : CxV l D tys wf y ws rm mk sk As st o) (cw : CallB R s args own index y bytes maxL ret ws rm mk sk n ∧ (Cond.static y).before args s = true) (hn : As.length = n) (hstk : stk = As.reverse ++ rest) (hW : (rest.map fun v => v.category).sum ≤ 8) (hR : cells + mk ≤ R.cells ∧ slots + sk ≤ R.slots) (hcs : cells + mk ≤ mc ∧ slots + sk ≤ ms) (hd : decode cc pc = .ok (.invokestatic index, 3)) (hx : o.1 ≠ 0 → (o.1, 0, o.2) = oo) (kk : o.1 = 0 → J p l e R s m args below meth c nL D A wf (jXI D wf A below args s mc ms oo) (cells + mk) (slots + sk) o.2 (pc + 3) lv rest) : J p l e R s m args below meth c nL D A wf (jXI D wf A below args s mc ms oo) cells slots st pc lv stk := by
  intro H locs ls hP hD hS hl
  refine vx_callv (vx_runS (As := As) (rest := rest) E.1.1 (hM H.size) cw ⟨xPc.blind, fun U hU hW => ⟨rfl, by rw [hU], by rw [hU]; exact hP, va_K.moved hW.alike E.1.2.2.1, E.1.2.2.2.1.warm hW, hD.weaken (fun _ _ _ _ => trivial), E.2.2.2.1.warm hW, by rw [hU]; exact ((E.2.2.2.2.kept hS.2.1).moved hW.alike).narrow (jFree E.1 hD hS)⟩⟩ rfl hn hl.1 hstk (lv_room hW) hd hR) hS (fun q _ h => jFree E.1 hD hS q h) (jFree E.1 hD hS) (fun q _ h => jFree E.1 hD hS q h) (fun E9 ce q9 u t H1 locs1 ht hvm hpx hBX hz1 hk1 hS1 hce hcv hcl => ?_) (fun u t H1 locs1 ht hvm hw hB hz1 hk1 hS1 => ?_)
  · obtain ⟨hne, rfl⟩ := hpx
    obtain ⟨hE9, hP1, hD1⟩ := hBX
    rw [ht] at hP1
    have ho := hx hne
    subst ho
    refine vx_out (fun x hx => (E.2.1 x hx).elim) E.1.2.1 hce hcv hcl (fun t2 ht2 hvm2 => ?_) hS1.2.2 hcs.1 hcs.2
    exact ⟨_, ⟨hne, rfl⟩, ⟨hE9, by rw [ht2]; exact hP1, hD1.weaken fun _ _ _ h => jFree E.1 hD hS _ h⟩, hS1.F ht2⟩
  · obtain ⟨h0, rfl⟩ := hw
    obtain ⟨hP1, hD1⟩ := hB
    rw [ht] at hP1
    exact kk h0 H1 locs1 ls hP1 (hD1.weaken fun _ _ _ h => jFree E.1 hD hS _ h) hS1 hl
theorem j_xcallVV (E : jEX p l s m args meth c cc nL own Ts D tys A) {y : MethodName} {bytes : ByteArray} {maxL index n mk sk : Nat} {ret : Option FieldType} {ws : List Cond} {rm : Room} {As rest : List Value} {o : Nat × S} {oo : Nat × S} {b ci q0 : Nat} {C : String} {T : u_T} {N : Nat} {fs : List Value} (hM : CxV l D tys wf y ws rm mk sk (.ref b :: As) st o) (cw : CallW R s args own C index y bytes maxL ret ws rm mk sk n) (he : (wf st)[q0]? = some (b, .inr (ci, fs))) (hc : vwCl[ci]? = some (C, T, N)) (hn : As.length = n) (hstk : stk = As.reverse ++ .ref b :: rest) (hW : (rest.map fun v => v.category).sum ≤ 8) (hR : cells + mk ≤ R.cells ∧ slots + sk ≤ R.slots) (hcs : cells + mk ≤ mc ∧ slots + sk ≤ ms) (hd : decode cc pc = .ok (.invokevirtual index, 3)) (hx : o.1 ≠ 0 → (o.1, o.2) = oo) (kk : o.1 = 0 → J p l e R s m args below meth c nL D A wf (jXV D wf A below args s mc ms oo) (cells + mk) (slots + sk) o.2 (pc + 3) lv rest) : J p l e R s m args below meth c nL D A wf (jXV D wf A below args s mc ms oo) cells slots st pc lv stk := by
  intro H locs ls hP hD hS hl
  refine vx_callv (vx_runV (As := As) (rest := rest) E.1.1 (hM H.size) cw ⟨xPc.blind, va_recv E.1.2.2.1 hP hc he, fun U hU hW => ⟨rfl, by rw [hU], by rw [hU]; exact hP, va_K.moved hW.alike E.1.2.2.1, E.1.2.2.2.1.warm hW, hD.weaken (fun _ _ _ _ => trivial), E.2.2.2.1.warm hW, by rw [hU]; exact ((E.2.2.2.2.kept hS.2.1).moved hW.alike).narrow (jFree E.1 hD hS)⟩⟩ rfl hn hl.1 hstk (lv_room hW) hd hR) hS (fun q _ h => jFree E.1 hD hS q h) (jFree E.1 hD hS) (fun q _ h => jFree E.1 hD hS q h) (fun E9 ce q9 u t H1 locs1 ht hvm hpx hBX hz1 hk1 hS1 hce hcv hcl => ?_) (fun u t H1 locs1 ht hvm hw hB hz1 hk1 hS1 => ?_)
  · obtain ⟨hne, rfl⟩ := hpx
    obtain ⟨hE9, hP1, hD1⟩ := hBX
    rw [ht] at hP1
    have ho := hx hne
    subst ho
    refine vx_out (fun x hx => (E.2.1 x hx).elim) E.1.2.1 hce hcv hcl (fun t2 ht2 hvm2 => ?_) hS1.2.2 hcs.1 hcs.2
    exact ⟨_, ⟨hne, rfl⟩, ⟨hE9, by rw [ht2]; exact hP1, hD1.weaken fun _ _ _ h => jFree E.1 hD hS _ h⟩, hS1.F ht2⟩
  · obtain ⟨h0, rfl⟩ := hw
    obtain ⟨hP1, hD1⟩ := hB
    rw [ht] at hP1
    exact kk h0 H1 locs1 ls hP1 (hD1.weaken fun _ _ _ h => jFree E.1 hD hS _ h) hS1 hl
theorem j_xcallSV (E : jEX p l s m args meth c cc nL own Ts D tys A) {y : MethodName} {bytes : ByteArray} {maxL index n mk sk : Nat} {ret : Option FieldType} {ws : List Cond} {rm : Room} {As rest : List Value} {o : Nat × S} {oo : Nat × S} (hM : CxV l D tys wf y ws rm mk sk As st o) (cw : CallB R s args own index y bytes maxL ret ws rm mk sk n ∧ (Cond.static y).before args s = true) (hn : As.length = n) (hstk : stk = As.reverse ++ rest) (hW : (rest.map fun v => v.category).sum ≤ 8) (hR : cells + mk ≤ R.cells ∧ slots + sk ≤ R.slots) (hcs : cells + mk ≤ mc ∧ slots + sk ≤ ms) (hd : decode cc pc = .ok (.invokestatic index, 3)) (hx : o.1 ≠ 0 → (o.1, o.2) = oo) (kk : o.1 = 0 → J p l e R s m args below meth c nL D A wf (jXV D wf A below args s mc ms oo) (cells + mk) (slots + sk) o.2 (pc + 3) lv rest) : J p l e R s m args below meth c nL D A wf (jXV D wf A below args s mc ms oo) cells slots st pc lv stk := by
  intro H locs ls hP hD hS hl
  refine vx_callv (vx_runS (As := As) (rest := rest) E.1.1 (hM H.size) cw ⟨xPc.blind, fun U hU hW => ⟨rfl, by rw [hU], by rw [hU]; exact hP, va_K.moved hW.alike E.1.2.2.1, E.1.2.2.2.1.warm hW, hD.weaken (fun _ _ _ _ => trivial), E.2.2.2.1.warm hW, by rw [hU]; exact ((E.2.2.2.2.kept hS.2.1).moved hW.alike).narrow (jFree E.1 hD hS)⟩⟩ rfl hn hl.1 hstk (lv_room hW) hd hR) hS (fun q _ h => jFree E.1 hD hS q h) (jFree E.1 hD hS) (fun q _ h => jFree E.1 hD hS q h) (fun E9 ce q9 u t H1 locs1 ht hvm hpx hBX hz1 hk1 hS1 hce hcv hcl => ?_) (fun u t H1 locs1 ht hvm hw hB hz1 hk1 hS1 => ?_)
  · obtain ⟨hne, rfl⟩ := hpx
    obtain ⟨hE9, hP1, hD1⟩ := hBX
    rw [ht] at hP1
    have ho := hx hne
    subst ho
    refine vx_out (fun x hx => (E.2.1 x hx).elim) E.1.2.1 hce hcv hcl (fun t2 ht2 hvm2 => ?_) hS1.2.2 hcs.1 hcs.2
    exact ⟨_, ⟨hne, rfl⟩, ⟨hE9, by rw [ht2]; exact hP1, hD1.weaken fun _ _ _ h => jFree E.1 hD hS _ h⟩, hS1.F ht2⟩
  · obtain ⟨h0, rfl⟩ := hw
    obtain ⟨hP1, hD1⟩ := hB
    rw [ht] at hP1
    exact kk h0 H1 locs1 ls hP1 (hD1.weaken fun _ _ _ h => jFree E.1 hD hS _ h) hS1 hl
end JX1
section JX2
variable {l : Launch} {D : va_G} {tys : List (ClassId × FieldType)} {S : Type} {wf : S → va_W}
theorem cxI_of {ty : FieldType} {y : MethodName} {ws ws' : List Cond} {rm : Room} {mc ms : Nat} {cc : ByteArray} {nL : Nat} {own : String} {av : List Value} {st : S} {o : Nat × Int32 × S} {lv0 : List (Nat × Value)} (hstt : l.stackTraces = false) (hy : plainName y.cls = true) (hw : ws = Cond.code y cc nL (some ty) :: ws') (hown : y.cls = own) (hlen : (lg_sl av).length ≤ nL) (hlv : lv_args 0 av = lv0)
    (body : ∀ (p : Program) (e : Env) (s : State) (m : MethodId) (args : Array Value) (below : List Frame) (meth : Method) (c : Code) (A : Nat → Prop), jEX p l s m args meth c cc nL own ws D tys A → meth.sig.returnType = (some ty) → J p l e rm s m args below meth c nL D A wf (jXI D wf A below args s mc ms o) 0 0 st 0 lv0 []) : CxI l D tys wf y ws rm mc ms av st o := by
  intro sz
  refine vx_ofW (cc := cc) (maxL := nL) (ret := (some ty)) hy hw ?_
  intro p e s m args below meth c s₁ B hml htab hv
  obtain ⟨rfl, hsz, hP, hK, hN, hD0, hX, hZ⟩ := hv
  subst hsz
  have hts := atoms_spec (ws := ws) B.pre
  have hown' : s.vm.findClass own = some m.cls := by rw [← hown]; exact findClass_of_methodNamed B.named
  have hD := hD0.self (sz := s.heap.size)
  have hl := lv_entry av (n := nL) hlen
  rw [lg_entry_eq]
  exact body p e s m _ below meth c _ ⟨⟨⟨B.exec, B.bytes, hml, hown', hts⟩, B.notSynchronized, hK, hN, fun q h => Or.inr h⟩, htab, hstt, hX, hZ⟩ B.returns s.heap [] _ hP hD va_S.rf (hlv ▸ hl)
theorem cxV_of  {y : MethodName} {ws ws' : List Cond} {rm : Room} {mc ms : Nat} {cc : ByteArray} {nL : Nat} {own : String} {av : List Value} {st : S} {o : Nat × S} {lv0 : List (Nat × Value)} (hstt : l.stackTraces = false) (hy : plainName y.cls = true) (hw : ws = Cond.code y cc nL none :: ws') (hown : y.cls = own) (hlen : (lg_sl av).length ≤ nL) (hlv : lv_args 0 av = lv0)
    (body : ∀ (p : Program) (e : Env) (s : State) (m : MethodId) (args : Array Value) (below : List Frame) (meth : Method) (c : Code) (A : Nat → Prop), jEX p l s m args meth c cc nL own ws D tys A → meth.sig.returnType = none → J p l e rm s m args below meth c nL D A wf (jXV D wf A below args s mc ms o) 0 0 st 0 lv0 []) : CxV l D tys wf y ws rm mc ms av st o := by
  intro sz
  refine vx_ofW (cc := cc) (maxL := nL) (ret := none) hy hw ?_
  intro p e s m args below meth c s₁ B hml htab hv
  obtain ⟨rfl, hsz, hP, hK, hN, hD0, hX, hZ⟩ := hv
  subst hsz
  have hts := atoms_spec (ws := ws) B.pre
  have hown' : s.vm.findClass own = some m.cls := by rw [← hown]; exact findClass_of_methodNamed B.named
  have hD := hD0.self (sz := s.heap.size)
  have hl := lv_entry av (n := nL) hlen
  rw [lg_entry_eq]
  exact body p e s m _ below meth c _ ⟨⟨⟨B.exec, B.bytes, hml, hown', hts⟩, B.notSynchronized, hK, hN, fun q h => Or.inr h⟩, htab, hstt, hX, hZ⟩ B.returns s.heap [] _ hP hD va_S.rf (hlv ▸ hl)
end JX2
