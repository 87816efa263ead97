/-! The law's worlds: the class, the row 'out', the reference, one behind the other; calls into a part of them; catching. -/
section LJ0
theorem va_preP {D : va_G} {cl : List vw_C} {a b : va_W} {H : Heap} (h : va_P D cl (a ++ b) H) : va_P D cl a H := fun k q hk => h k q (by rw [List.getElem?_append_left (List.getElem?_eq_some_iff.mp hk).1]; exact hk)
theorem va_sufP {D : va_G} {cl : List vw_C} {a b : va_W} {H : Heap} (h : va_P D cl (a ++ b) H) : va_P D cl b H := fun k q hk => h (a.length + k) q (by rw [List.getElem?_append_right (Nat.le_add_right _ _), Nat.add_sub_cancel_left]; exact hk)
theorem va_preD {A : Nat → Prop} {a b : va_W} (h : va_D A (a ++ b)) : va_D A a := by
  have e : ∀ (k : Nat) (q : Nat × va_E), a[k]? = some q → (a ++ b)[k]? = some q := fun k q hk => by rw [List.getElem?_append_left (List.getElem?_eq_some_iff.mp hk).1]; exact hk
  exact ⟨fun i j x y hx hy hxy => h.1 i j x y (e i x hx) (e j y hy) hxy, fun k q hk => h.2 k q (e k q hk)⟩
theorem va_sufD {A : Nat → Prop} {a b : va_W} (h : va_D A (a ++ b)) : va_D A b := by
  have e : ∀ (k : Nat) (q : Nat × va_E), b[k]? = some q → (a ++ b)[a.length + k]? = some q := fun k q hk => by rw [List.getElem?_append_right (Nat.le_add_right _ _), Nat.add_sub_cancel_left]; exact hk
  exact ⟨fun i j x y hx hy hxy => by have := h.1 _ _ x y (e i x hx) (e j y hy) hxy; omega, fun k q hk => h.2 _ q (e k q hk)⟩
theorem va_crossD {A : Nat → Prop} {a b : va_W} (h : va_D A (a ++ b)) {i j : Nat} {x y : Nat × va_E} (hx : a[i]? = some x) (hy : b[j]? = some y) : x.1 ≠ y.1 := by
  intro he
  have hi := (List.getElem?_eq_some_iff.mp hx).1
  have := h.1 i (a.length + j) x y (by rw [List.getElem?_append_left hi]; exact hx) (by rw [List.getElem?_append_right (Nat.le_add_right _ _), Nat.add_sub_cancel_left]; exact hy) he
  omega
/-- a callee at the front -/
theorem va_joinPre {A : Nat → Prop} {D : va_G} {cl : List vw_C} {a b a1 : va_W} {H H1 : Heap} (hP : va_P D cl (a ++ b) H) (hD : va_D A (a ++ b)) (hk : ∀ q : Nat, q < H.size → ¬ va_A a H.size q → H1[q]? = H[q]?) (hF : ∀ q, va_A a H.size q → A q) (hP1 : va_P D cl a1 H1) (hD1 : va_D (va_A a H.size) a1) : va_P D cl (a1 ++ b) H1 ∧ va_D A (a1 ++ b) := by
  have apart : ∀ (k : Nat) (q : Nat × va_E), b[k]? = some q → q.1 < H.size ∧ ¬ va_A a H.size q.1 := by
    intro k q hq
    have hl := (va_sufP hP k q hq).lt
    refine ⟨hl, fun h => ?_⟩
    rcases h with ⟨k2, e, h⟩ | h
    · exact va_crossD hD h hq rfl
    · omega
  refine ⟨va_P.app hP1 (fun k q hq => (va_sufP hP k q hq).kept (hk q.1 (apart k q hq).1 (apart k q hq).2)), va_D.app (hD1.weaken (fun k q _ h => hF q.1 h)) (va_sufD hD) (fun i j x y hx hy hxy => ?_)⟩
  exact (apart j y hy).2 (by rw [← hxy]; exact hD1.2 i x hx)
/-- a callee at the back -/
theorem va_joinSuf {A : Nat → Prop} {D : va_G} {cl : List vw_C} {a b b1 : va_W} {H H1 : Heap} (hP : va_P D cl (a ++ b) H) (hD : va_D A (a ++ b)) (hk : ∀ q : Nat, q < H.size → ¬ va_A b H.size q → H1[q]? = H[q]?) (hF : ∀ q, va_A b H.size q → A q) (hP1 : va_P D cl b1 H1) (hD1 : va_D (va_A b H.size) b1) : va_P D cl (a ++ b1) H1 ∧ va_D A (a ++ b1) := by
  have apart : ∀ (k : Nat) (q : Nat × va_E), a[k]? = some q → q.1 < H.size ∧ ¬ va_A b H.size q.1 := by
    intro k q hq
    have hl := (va_preP hP k q hq).lt
    refine ⟨hl, fun h => ?_⟩
    rcases h with ⟨k2, e, h⟩ | h
    · exact va_crossD hD hq h rfl
    · omega
  refine ⟨va_P.app (fun k q hq => (va_preP hP k q hq).kept (hk q.1 (apart k q hq).1 (apart k q hq).2)) hP1, va_D.app (va_preD hD) (hD1.weaken (fun k q _ h => hF q.1 h)) (fun i j x y hx hy hxy => ?_)⟩
  exact (apart i x hx).2 (by rw [hxy]; exact hD1.2 j y hy)
theorem va_freeOf {A : Nat → Prop} {a : va_W} {H0 H : Heap} {locs : List Loc} (hD : va_D A a) (hS : va_S A H0 H locs) (hA : ∀ q, H0.size ≤ q → A q) : ∀ q, va_A a H.size q → A q := by
  intro q h
  rcases h with ⟨k, e, h⟩ | h
  · exact hD.2 k (q, e) h
  · exact hA q (Nat.le_trans hS.1 h)
abbrev jT3 (cI cZ cJ : ClassId) : List (ClassId × FieldType) := [(cI, .int), (cZ, .boolean), (cJ, .long)]
abbrev jSP : Type := jS × (Nat → Int64)
abbrev jSL : Type := jSP × jS2
abbrev wO (ao : Nat) (cJ : ClassId) (f : Nat → Int64) : va_W := [(ao, .inl (cJ, 1, .inr (.inl f)))]
abbrev wP (ax : Nat → Nat) (ao : Nat) (cI cZ cJ : ClassId) (u : jSP) : va_W := wX ax cI cZ u.1 ++ wO ao cJ u.2
abbrev wL (ax : Nat → Nat) (ao : Nat) (cI cZ cJ : ClassId) (u : jSL) : va_W := wP ax ao cI cZ cJ u.1 ++ wM2 cI cZ u.2
theorem wP_out (ax : Nat → Nat) (ao : Nat) (cI cZ cJ : ClassId) (u : jSP) : (wP ax ao cI cZ cJ u)[25]? = some (ao, .inl (cJ, 1, .inr (.inl u.2))) := rfl
theorem wP_set (ax : Nat → Nat) (ao : Nat) (cI cZ cJ : ClassId) (u : jSP) (f : Nat → Int64) : (wP ax ao cI cZ cJ u).set 25 (ao, .inl (cJ, 1, .inr (.inl f))) = wP ax ao cI cZ cJ (u.1, f) := rfl
theorem wL_out (ax : Nat → Nat) (ao : Nat) (cI cZ cJ : ClassId) (u : jSL) : (wL ax ao cI cZ cJ u)[25]? = some (ao, .inl (cJ, 1, .inr (.inl u.1.2))) := rfl
def xNc (U : State) : Prop := va_Nc (xcls 2) (xcls 1) U ∧ va_Nc (xcls 2) (xcls 3) U ∧ va_Nc (xcls 1) (xcls 3) U
theorem xNc.moved {u U : State} (hvm : u.vm.Alike U.vm) (h : xNc u) : xNc U := ⟨h.1.moved hvm, h.2.1.moved hvm, h.2.2.moved hvm⟩
def wPc {S : Type} (D : va_G) (tys : List (ClassId × FieldType)) (wf : S → va_W) (av : List Value) (sz : Nat) (st : S) : Array Value → State → Prop :=
  va_Pc av (fun U => U.heap.size = sz ∧ va_P D vwCl (wf st) U.heap ∧ va_K D vwCl tys U ∧ jN U ∧ va_D (fun _ => True) (wf st) ∧ xN U ∧ xZ (va_A (wf st) sz) U U.heap ∧ xNc U)
theorem wPc.blind {S : Type} {D : va_G} {tys : List (ClassId × FieldType)} {wf : S → va_W} {av : List Value} {sz : Nat} {st : S} : FrameBlind (wPc D tys wf av sz st) := by
  intro a U g mk q
  obtain ⟨q0, q1, qP, qK, qN, qD, qX, qZ, qC⟩ := q
  exact ⟨q0, q1, qP, va_K.moved (u := U) (U := U.calling g mk a) (Vm.Alike.refl U.vm) qK, jN.same (s := U) (U := U.calling g mk a) rfl qN, qD, xN.same (s := U) (U := U.calling g mk a) rfl qX, xZ.moved (u := U) (U := U.calling g mk a) (Vm.Alike.refl U.vm) qZ, xNc.moved (u := U) (U := U.calling g mk a) (Vm.Alike.refl U.vm) qC⟩
/-- a wrapper of the law: it answers -/
def CtW (l : Launch) (D : va_G) (ax : Nat → Nat) (ao : Nat) (cI cZ cJ : ClassId) (y : MethodName) (ws : List Cond) (rm : Room) (mc ms : Nat) (av : List Value) (st : jSP) (o : Int32 × jSP) : Prop :=
  ∀ sz : Nat, Met l y ws rm (wPc D (jT3 cI cZ cJ) (wP ax ao cI cZ cJ) av sz st) (va_Qi (fun r (u : jSP) => r = o.1 ∧ u = o.2) (jB D (wP ax ao cI cZ cJ) (va_A (wP ax ao cI cZ cJ st) sz)) (va_A (wP ax ao cI cZ cJ st) sz)) mc ms (va_A (wP ax ao cI cZ cJ st) sz)
def jZW (D : va_G) (ax : Nat → Nat) (ao : Nat) (cI cZ cJ : ClassId) (A : Nat → Prop) (below : List Frame) (args : Array Value) (s : State) (mc ms : Nat) (o : Int32 × jSP) : State → Prop := MQ below (va_Qi (fun r (u : jSP) => r = o.1 ∧ u = o.2) (jB D (wP ax ao cI cZ cJ) A) A) args s mc ms A
/-- thrown at pc, an object of the class E9 -/
def JT {S : Type} (p : Program) (l : Launch) (e : Env) (R : Room) (s : State) (m : MethodId) (args : Array Value) (below : List Frame) (meth : Method) (c : Code) (nL : Nat) (D : va_G) (A : Nat → Prop) (wf : S → va_W) (Q : State → Prop) (cells slots : Nat) (E9 : String) (st : S) (pc : Nat) (lv : List (Nat × Value)) (stk : List Value) : Prop :=
  ∀ (H : Heap) (locs : List Loc) (ls : Array Slot) (q : Nat) (ce : Cell), va_P D vwCl (wf st) H → va_D A (wf st) → va_S A s.heap H locs → lv_has ls nL lv → H[q]? = some ce → ce.vm = .none → s.vm.findClass E9 = some ce.cls → vx_W p l e R s m args below meth c H locs cells slots Q (F0 m pc ls stk) q
theorem jMet_ofWH {l : Launch} {y : MethodName} {ws ws' : List Cond} {rm : Room} {Pc : Array Value → State → Prop} {Qc : Array Value → State → Outcome → State → Prop} {mc ms : Nat} {free : Addr → Prop} {cc : ByteArray} {maxL : Nat} {ret : Option FieldType} {hh : List (Nat × Nat × Nat × Nat)}
    (hy : plainName y.cls = true) (hw : ws = Cond.codeWith y cc maxL ret hh :: ws')
    (body : ∀ p e s m args below meth c s₁, BodyLoose p l y (headSpec ws rm) cc maxL ret e s m args below meth c s₁ → c.maxLocals = maxL → c.exceptionTable.toList = tableOf hh → Pc args s →
      W p l e (headSpec ws rm).room s m args below meth c s.heap [] 0 0 (MQ below Qc args s mc ms free) (entryFrame m args maxL)) : Met l y ws rm Pc Qc mc ms free := by
  refine MetFree.of_bodyS (code := cc) (maxLocals := maxL) (ret := ret) hy ?_ ?_
  · intro args s m h hn
    obtain ⟨m9, meth, c, hn9, h1, h2, h3, h4, -, h5, h6, -⟩ := Cond.codeWith_spec (atoms_spec (ws := ws) h _ (by rw [hw]; exact List.mem_cons_self))
    cases hn.symm.trans hn9
    exact ⟨meth, c, h1, h2, h3, h4, h5, h6⟩
  · intro p e s m args below meth c s₁ B hml hP _
    have hh0 : s₁.heap = s.heap := by rw [B.state]; rfl
    have htab : c.exceptionTable.toList = tableOf hh := vx_table (x := y) B (atoms_spec (ws := ws) B.pre _ (by rw [hw]; exact List.mem_cons_self))
    obtain ⟨t, a1, o, b1, b2, b3⟩ := body p e s m args below meth c s₁ B hml htab hP s₁ hh0 (Stand.of_body B)
    exact ⟨t, o, a1, b1, b2, ⟨b3.1, b3.2⟩⟩
end LJ0
section LJ1
variable {p : Program} {l : Launch} {e : Env} {R : Room} {s : State} {m : MethodId} {args : Array Value} {below : List Frame} {meth : Method} {c : Code} {cells slots mc ms : Nat} {Q : State → Prop} {cc : ByteArray} {nL : Nat} {own : String} {Ts : List Cond} {D : va_G} {A : Nat → Prop} {pc : Nat} {lv : List (Nat × Value)} {stk : List Value} {cI cZ cJ : ClassId} {ax : Nat → Nat} {ao : Nat}
theorem j_wret {tys : List (ClassId × FieldType)} (E : jE p s m args meth c cc nL own Ts D tys A) {v : Int32} {st : jSP} {o : Int32 × jSP} (hr : meth.sig.returnType = some .int) (hcs : cells ≤ mc ∧ slots ≤ ms) (ho : (v, st) = o) (hd : decode cc pc = .ok (.ireturn, 1)) : J p l e R s m args below meth c nL D A (wP ax ao cI cZ cJ) (jZW D ax ao cI cZ cJ A below args s mc ms o) cells slots st pc lv [.int v] := by
  intro H locs ls hP hD hS hl
  subst ho
  refine W.widen (k := mc) (n := ms) hcs.1 hcs.2 ?_
  exact W.zret E.1.1 E.1.2.1 hr rfl (fun t ht hW => ⟨⟨v, st, rfl, ⟨rfl, rfl⟩, by rw [ht]; exact hP, hD⟩, hS.F ht⟩) hS.2.2 hd (hlocks := E.2.1)
theorem j_lastP (E : jE p s m args meth c cc nL own Ts D (jT3 cI cZ cJ) A) {st : jSP} {x : Int64} {i : Int32} (hin : vp_in i 1) (hd : decode cc pc = .ok (.lastore, 1)) (kk : J p l e R s m args below meth c nL D A (wP ax ao cI cZ cJ) Q cells slots (st.1, vp_updL st.2 i.toNatClampNeg x) (pc + 1) lv stk) : J p l e R s m args below meth c nL D A (wP ax ao cI cZ cJ) Q cells slots st pc lv (.long x :: .int i :: .ref ao :: stk) :=
  fun H locs ls hP hD hS hl => va_last E.1.1 E.1.2.1 E.2.2.1 hP hD hS 25 2 (wP_out ax ao cI cZ cJ st) rfl hin hd (fun H1 locs1 hP1 hD1 hS1 => kk H1 locs1 ls (wP_set ax ao cI cZ cJ st _ ▸ hP1) (wP_set ax ao cI cZ cJ st _ ▸ hD1) hS1 hl)
theorem j_laldL (E : jE p s m args meth c cc nL own Ts D (jT3 cI cZ cJ) A) {st : jSL} {i : Int32} (hin : vp_in i 1) (hd : decode cc pc = .ok (.laload, 1)) (kk : J p l e R s m args below meth c nL D A (wL ax ao cI cZ cJ) Q cells slots st (pc + 1) lv (.long (st.1.2 i.toNatClampNeg) :: stk)) : J p l e R s m args below meth c nL D A (wL ax ao cI cZ cJ) Q cells slots st pc lv (.int i :: .ref ao :: stk) :=
  fun H locs ls hP hD hS hl => va_lald E.1.1 E.1.2.1 E.2.2.1 hP 25 2 (wL_out ax ao cI cZ cJ st) rfl hin hd (kk H locs ls hP hD hS hl)
theorem j_catch {S : Type} {wf : S → va_W} {st : S} {tys : List (ClassId × FieldType)} (E : jE p s m args meth c cc nL own Ts D tys A) {E9 name : String} (pre : List ExceptionTableEntry) (x : ExceptionTableEntry) (suf : List ExceptionTableEntry) (hsplit : c.exceptionTable.toList = pre ++ x :: suf) (hpass : ∀ z ∈ pre, covers z pc = false ∨ (z.catchType ≠ 0 ∧ ∃ nm : String, (Cond.classLink own z.catchType nm).before args s = true ∧ va_Nc E9 nm s)) (hx : covers x pc = true) (h0 : x.catchType ≠ 0) (hlink : Cond.classLink own x.catchType name ∈ Ts) (hcast : va_Nw (.castable E9 name) s) (kk : ∀ q : Nat, J p l e R s m args below meth c nL D A wf Q cells slots st x.handlerPc lv [.ref q]) : JT p l e R s m args below meth c nL D A wf Q cells slots E9 st pc lv stk :=
  fun H locs ls q ce hP hD hS hl hce hcv hcl => vx_catch E.1.2.2.2.1 pre x suf hsplit hpass hx h0 (E.1.2.2.2.2 _ hlink) (va_Nw.use rfl hcast) hce hcv hcl (kk q H locs ls hP hD hS hl)
theorem j_xcallH (E : jE p s m args meth c cc nL own Ts D (jT3 cI cZ cJ) A) (hxn : xN s) (hxz : xZ A s s.heap) {y : MethodName} {bytes : ByteArray} {maxL index n mk sk : Nat} {ret : Option FieldType} {ws : List Cond} {rm : Room} {As rest : List Value} {o : Nat × Int32 × jS} {st : jSP} (hM : CxI l D (jT cI cZ) (wX ax cI cZ) y ws rm mk sk (.ref (ax 0) :: As) st.1 o) (cw : CallW R s args own RX5 index y bytes maxL ret ws rm mk sk n) (hn : As.length = n) (hstk : stk = As.reverse ++ .ref (ax 0) :: rest) (hW : (rest.map fun v => v.category).sum ≤ 8) (hR : cells + mk ≤ R.cells ∧ slots + sk ≤ R.slots) (hd : decode cc pc = .ok (.invokevirtual index, 3)) (kx : o.1 ≠ 0 → JT p l e R s m args below meth c nL D A (wP ax ao cI cZ cJ) Q (cells + mk) (slots + sk) (xcls o.1) (o.2.2, st.2) pc lv rest) (kk : o.1 = 0 → J p l e R s m args below meth c nL D A (wP ax ao cI cZ cJ) Q (cells + mk) (slots + sk) (o.2.2, st.2) (pc + 3) lv (.int o.2.1 :: rest)) : J p l e R s m args below meth c nL D A (wP ax ao cI cZ cJ) Q cells slots st pc lv stk := by
  intro H locs ls hP hD hS hl
  have hPc : va_P D vwCl (wX ax cI cZ st.1) H := va_preP hP
  have hDc : va_D A (wX ax cI cZ st.1) := va_preD hD
  have hFc := va_freeOf hDc hS E.2.2.2.2
  have hKc : va_K D vwCl (jT cI cZ) s := E.2.2.1.sub [0, 1] rfl
  refine vx_calli (vx_runV (As := As) (rest := rest) E.1 (hM H.size) cw ⟨xPc.blind, va_recv (ci := 5) hKc hPc rfl (wX_g0 ax cI cZ st.1), fun U hU hW => ⟨rfl, by rw [hU], by rw [hU]; exact hPc, va_K.moved hW.alike hKc, E.2.2.2.1.warm hW, hDc.weaken (fun _ _ _ _ => trivial), hxn.warm hW, by rw [hU]; exact ((hxz.kept hS.2.1).moved hW.alike).narrow hFc⟩⟩ rfl hn hl.1 hstk (lv_room hW) hd hR) hS (fun q _ h => hFc q h) hFc (fun q _ h => hFc q h) (fun E9 ce q9 u t H1 locs1 ht hvm hpx hBX hz1 hk1 hS1 hce hcv hcl => ?_) (fun r u t H1 locs1 ht hvm hw hB hz1 hk1 hS1 => ?_)
  · obtain ⟨hne, rfl⟩ := hpx
    obtain ⟨hE9, hP1, hD1⟩ := hBX
    rw [ht] at hP1
    subst hE9
    obtain ⟨hP2, hD2⟩ := va_joinPre hP hD hk1 hFc hP1 hD1
    exact kx hne H1 locs1 ls q9 ce hP2 hD2 hS1 hl hce hcv hcl
  · obtain ⟨h0, rfl, rfl⟩ := hw
    obtain ⟨hP1, hD1⟩ := hB
    rw [ht] at hP1
    obtain ⟨hP2, hD2⟩ := va_joinPre hP hD hk1 hFc hP1 hD1
    exact kk h0 H1 locs1 ls hP2 hD2 hS1 hl
theorem j_callW (E : jE p s m args meth c cc nL own Ts D (jT3 cI cZ cJ) A) (hxn : xN s) (hxz : xZ A s s.heap) (hxc : xNc s) {y : MethodName} {bytes : ByteArray} {maxL index n mk sk : Nat} {ret : Option FieldType} {hh : List (Nat × Nat × Nat × Nat)} {ws : List Cond} {rm : Room} {As rest : List Value} {o : Int32 × jSP} {st : jSL} (hM : CtW l D ax ao cI cZ cJ y ws rm mk sk As st.1 o) (cw : vx_CSW R s args own index y bytes maxL ret hh ws rm mk sk n) (hn : As.length = n) (hstk : stk = As.reverse ++ rest) (hW : (rest.map fun v => v.category).sum ≤ 8) (hR : cells + mk ≤ R.cells ∧ slots + sk ≤ R.slots) (hd : decode cc pc = .ok (.invokestatic index, 3)) (kk : J p l e R s m args below meth c nL D A (wL ax ao cI cZ cJ) Q (cells + mk) (slots + sk) (o.2, st.2) (pc + 3) lv (.int o.1 :: rest)) : J p l e R s m args below meth c nL D A (wL ax ao cI cZ cJ) Q cells slots st pc lv stk := by
  intro H locs ls hP hD hS hl
  have hPc : va_P D vwCl (wP ax ao cI cZ cJ st.1) H := va_preP hP
  have hDc : va_D A (wP ax ao cI cZ cJ st.1) := va_preD hD
  have hFc := va_freeOf hDc hS E.2.2.2.2
  refine va_calli (vx_runSW (As := As) (rest := rest) E.1 (hM H.size) cw ⟨wPc.blind, fun U hU hW => ⟨rfl, by rw [hU], by rw [hU]; exact hPc, va_K.moved hW.alike E.2.2.1, E.2.2.2.1.warm hW, hDc.weaken (fun _ _ _ _ => trivial), hxn.warm hW, by rw [hU]; exact ((hxz.kept hS.2.1).moved hW.alike).narrow hFc, hxc.moved hW.alike⟩⟩ rfl hn hl.1 hstk (lv_room hW) hd hR) hS (fun q _ h => hFc q h) hFc (fun r u t H1 locs1 ht hvm hw hB hz1 hk1 hS1 => ?_)
  obtain ⟨rfl, rfl⟩ := hw
  obtain ⟨hP1, hD1⟩ := hB
  rw [ht] at hP1
  obtain ⟨hP2, hD2⟩ := va_joinPre hP hD hk1 hFc hP1 hD1
  exact kk H1 locs1 ls hP2 hD2 hS1 hl
theorem j_callXi (E : jE p s m args meth c cc nL own Ts D (jT3 cI cZ cJ) A) {y : MethodName} {bytes : ByteArray} {maxL index n : Nat} {ret : Option FieldType} {ws : List Cond} {rm : Room} {As rest : List Value} {r0 : Int32} {u0 : jS} {st : jSL} (hM : CtI l D (jT cI cZ) (wX ax cI cZ) y ws rm (.ref (ax 0) :: As) st.1.1 r0 u0) (cw : CallW R s args own RX5 index y bytes maxL ret ws rm 0 0 n) (hn : As.length = n) (hstk : stk = As.reverse ++ .ref (ax 0) :: rest) (hW : (rest.map fun v => v.category).sum ≤ 8) (hR : cells + 0 ≤ R.cells ∧ slots + 0 ≤ R.slots) (hd : decode cc pc = .ok (.invokevirtual index, 3)) (kk : J p l e R s m args below meth c nL D A (wL ax ao cI cZ cJ) Q cells slots ((u0, st.1.2), st.2) (pc + 3) lv (.int r0 :: rest)) : J p l e R s m args below meth c nL D A (wL ax ao cI cZ cJ) Q cells slots st pc lv stk := by
  intro H locs ls hP hD hS hl
  have hP9 : va_P D vwCl (wX ax cI cZ st.1.1 ++ (wO ao cJ st.1.2 ++ wM2 cI cZ st.2)) H := by rw [← List.append_assoc]; exact hP
  have hD9 : va_D A (wX ax cI cZ st.1.1 ++ (wO ao cJ st.1.2 ++ wM2 cI cZ st.2)) := by rw [← List.append_assoc]; exact hD
  have hPc : va_P D vwCl (wX ax cI cZ st.1.1) H := va_preP hP9
  have hDc : va_D A (wX ax cI cZ st.1.1) := va_preD hD9
  have hFc := va_freeOf hDc hS E.2.2.2.2
  have hKc : va_K D vwCl (jT cI cZ) s := E.2.2.1.sub [0, 1] rfl
  refine va_calli (va_runV (As := As) (rest := rest) E.1 (hM H.size) cw ⟨jPc.blind, va_recv (ci := 5) hKc hPc rfl (wX_g0 ax cI cZ st.1.1), fun U hU hW => ⟨rfl, by rw [hU], by rw [hU]; exact hPc, va_K.moved hW.alike hKc, E.2.2.2.1.warm hW, hDc.weaken (fun _ _ _ _ => trivial)⟩⟩ rfl hn hl.1 hstk (lv_room hW) hd hR) hS (fun q _ h => hFc q h) hFc (fun r u t H1 locs1 ht hvm hw hB hz1 hk1 hS1 => ?_)
  obtain ⟨rfl, rfl⟩ := hw
  obtain ⟨hP1, hD1⟩ := hB
  rw [ht] at hP1
  obtain ⟨hP2, hD2⟩ := va_joinPre hP9 hD9 hk1 hFc hP1 hD1
  exact kk H1 locs1 ls (by show va_P D vwCl ((wX ax cI cZ u ++ wO ao cJ st.1.2) ++ wM2 cI cZ st.2) H1; rw [List.append_assoc]; exact hP2) (by show va_D A ((wX ax cI cZ u ++ wO ao cJ st.1.2) ++ wM2 cI cZ st.2); rw [List.append_assoc]; exact hD2) hS1 hl
theorem j_callMi (E : jE p s m args meth c cc nL own Ts D (jT3 cI cZ cJ) A) {y : MethodName} {bytes : ByteArray} {maxL index n : Nat} {ret : Option FieldType} {ws : List Cond} {rm : Room} {As rest : List Value} {r0 : Int32} {u0 : jS} {st : jSL} (hM : CtI l D (jT cI cZ) (wM st.2.1 cI cZ) y ws rm (.ref (st.2.1 0) :: As) st.2.2 r0 u0) (cw : CallW R s args own RX6 index y bytes maxL ret ws rm 0 0 n) (hn : As.length = n) (hstk : stk = As.reverse ++ .ref (st.2.1 0) :: rest) (hW : (rest.map fun v => v.category).sum ≤ 8) (hR : cells + 0 ≤ R.cells ∧ slots + 0 ≤ R.slots) (hd : decode cc pc = .ok (.invokevirtual index, 3)) (kk : J p l e R s m args below meth c nL D A (wL ax ao cI cZ cJ) Q cells slots (st.1, (st.2.1, u0)) (pc + 3) lv (.int r0 :: rest)) : J p l e R s m args below meth c nL D A (wL ax ao cI cZ cJ) Q cells slots st pc lv stk := by
  intro H locs ls hP hD hS hl
  have hPc : va_P D vwCl (wM st.2.1 cI cZ st.2.2) H := va_sufP hP
  have hDc : va_D A (wM st.2.1 cI cZ st.2.2) := va_sufD hD
  have hFc := va_freeOf hDc hS E.2.2.2.2
  have hKc : va_K D vwCl (jT cI cZ) s := E.2.2.1.sub [0, 1] rfl
  refine va_calli (va_runV (As := As) (rest := rest) E.1 (hM H.size) cw ⟨jPc.blind, va_recv (ci := 6) hKc hPc rfl (wM_g0 st.2.1 cI cZ st.2.2), fun U hU hW => ⟨rfl, by rw [hU], by rw [hU]; exact hPc, va_K.moved hW.alike hKc, E.2.2.2.1.warm hW, hDc.weaken (fun _ _ _ _ => trivial)⟩⟩ rfl hn hl.1 hstk (lv_room hW) hd hR) hS (fun q _ h => hFc q h) hFc (fun r u t H1 locs1 ht hvm hw hB hz1 hk1 hS1 => ?_)
  obtain ⟨rfl, rfl⟩ := hw
  obtain ⟨hP1, hD1⟩ := hB
  rw [ht] at hP1
  obtain ⟨hP2, hD2⟩ := va_joinSuf hP hD hk1 hFc hP1 hD1
  exact kk H1 locs1 ls hP2 hD2 hS1 hl
theorem j_callXl (E : jE p s m args meth c cc nL own Ts D (jT3 cI cZ cJ) A) {y : MethodName} {bytes : ByteArray} {maxL index n : Nat} {ret : Option FieldType} {ws : List Cond} {rm : Room} {As rest : List Value} {r0 : Int64} {u0 : jS} {st : jSL} (hM : CtL l D (jT cI cZ) (wX ax cI cZ) y ws rm (.ref (ax 0) :: As) st.1.1 r0 u0) (cw : CallW R s args own RX5 index y bytes maxL ret ws rm 0 0 n) (hn : As.length = n) (hstk : stk = As.reverse ++ .ref (ax 0) :: rest) (hW : (rest.map fun v => v.category).sum ≤ 8) (hR : cells + 0 ≤ R.cells ∧ slots + 0 ≤ R.slots) (hd : decode cc pc = .ok (.invokevirtual index, 3)) (kk : J p l e R s m args below meth c nL D A (wL ax ao cI cZ cJ) Q cells slots ((u0, st.1.2), st.2) (pc + 3) lv (.long r0 :: rest)) : J p l e R s m args below meth c nL D A (wL ax ao cI cZ cJ) Q cells slots st pc lv stk := by
  intro H locs ls hP hD hS hl
  have hP9 : va_P D vwCl (wX ax cI cZ st.1.1 ++ (wO ao cJ st.1.2 ++ wM2 cI cZ st.2)) H := by rw [← List.append_assoc]; exact hP
  have hD9 : va_D A (wX ax cI cZ st.1.1 ++ (wO ao cJ st.1.2 ++ wM2 cI cZ st.2)) := by rw [← List.append_assoc]; exact hD
  have hPc : va_P D vwCl (wX ax cI cZ st.1.1) H := va_preP hP9
  have hDc : va_D A (wX ax cI cZ st.1.1) := va_preD hD9
  have hFc := va_freeOf hDc hS E.2.2.2.2
  have hKc : va_K D vwCl (jT cI cZ) s := E.2.2.1.sub [0, 1] rfl
  refine va_calll (va_runV (As := As) (rest := rest) E.1 (hM H.size) cw ⟨jPc.blind, va_recv (ci := 5) hKc hPc rfl (wX_g0 ax cI cZ st.1.1), fun U hU hW => ⟨rfl, by rw [hU], by rw [hU]; exact hPc, va_K.moved hW.alike hKc, E.2.2.2.1.warm hW, hDc.weaken (fun _ _ _ _ => trivial)⟩⟩ rfl hn hl.1 hstk (lv_room hW) hd hR) hS (fun q _ h => hFc q h) hFc (fun r u t H1 locs1 ht hvm hw hB hz1 hk1 hS1 => ?_)
  obtain ⟨rfl, rfl⟩ := hw
  obtain ⟨hP1, hD1⟩ := hB
  rw [ht] at hP1
  obtain ⟨hP2, hD2⟩ := va_joinPre hP9 hD9 hk1 hFc hP1 hD1
  exact kk H1 locs1 ls (by show va_P D vwCl ((wX ax cI cZ u ++ wO ao cJ st.1.2) ++ wM2 cI cZ st.2) H1; rw [List.append_assoc]; exact hP2) (by show va_D A ((wX ax cI cZ u ++ wO ao cJ st.1.2) ++ wM2 cI cZ st.2); rw [List.append_assoc]; exact hD2) hS1 hl
theorem j_callMl (E : jE p s m args meth c cc nL own Ts D (jT3 cI cZ cJ) A) {y : MethodName} {bytes : ByteArray} {maxL index n : Nat} {ret : Option FieldType} {ws : List Cond} {rm : Room} {As rest : List Value} {r0 : Int64} {u0 : jS} {st : jSL} (hM : CtL l D (jT cI cZ) (wM st.2.1 cI cZ) y ws rm (.ref (st.2.1 0) :: As) st.2.2 r0 u0) (cw : CallW R s args own RX6 index y bytes maxL ret ws rm 0 0 n) (hn : As.length = n) (hstk : stk = As.reverse ++ .ref (st.2.1 0) :: rest) (hW : (rest.map fun v => v.category).sum ≤ 8) (hR : cells + 0 ≤ R.cells ∧ slots + 0 ≤ R.slots) (hd : decode cc pc = .ok (.invokevirtual index, 3)) (kk : J p l e R s m args below meth c nL D A (wL ax ao cI cZ cJ) Q cells slots (st.1, (st.2.1, u0)) (pc + 3) lv (.long r0 :: rest)) : J p l e R s m args below meth c nL D A (wL ax ao cI cZ cJ) Q cells slots st pc lv stk := by
  intro H locs ls hP hD hS hl
  have hPc : va_P D vwCl (wM st.2.1 cI cZ st.2.2) H := va_sufP hP
  have hDc : va_D A (wM st.2.1 cI cZ st.2.2) := va_sufD hD
  have hFc := va_freeOf hDc hS E.2.2.2.2
  have hKc : va_K D vwCl (jT cI cZ) s := E.2.2.1.sub [0, 1] rfl
  refine va_calll (va_runV (As := As) (rest := rest) E.1 (hM H.size) cw ⟨jPc.blind, va_recv (ci := 6) hKc hPc rfl (wM_g0 st.2.1 cI cZ st.2.2), fun U hU hW => ⟨rfl, by rw [hU], by rw [hU]; exact hPc, va_K.moved hW.alike hKc, E.2.2.2.1.warm hW, hDc.weaken (fun _ _ _ _ => trivial)⟩⟩ rfl hn hl.1 hstk (lv_room hW) hd hR) hS (fun q _ h => hFc q h) hFc (fun r u t H1 locs1 ht hvm hw hB hz1 hk1 hS1 => ?_)
  obtain ⟨rfl, rfl⟩ := hw
  obtain ⟨hP1, hD1⟩ := hB
  rw [ht] at hP1
  obtain ⟨hP2, hD2⟩ := va_joinSuf hP hD hk1 hFc hP1 hD1
  exact kk H1 locs1 ls hP2 hD2 hS1 hl
theorem j_callMN (E : jE p s m args meth c cc nL own Ts D (jT3 cI cZ cJ) A) {y : MethodName} {bytes : ByteArray} {maxL index n mk sk : Nat} {ret : Option FieldType} {ws : List Cond} {rm : Room} {As rest : List Value} {o : Int32 × jS} {st : jSL} (hM : CtN l D cI cZ y ws rm mk sk (.ref (st.2.1 0) :: As) st.2 (st.2.1 0) o) (cw : CallW R s args own RX6 index y bytes maxL ret ws rm mk sk n) (hn : As.length = n) (hstk : stk = As.reverse ++ .ref (st.2.1 0) :: rest) (hW : (rest.map fun v => v.category).sum ≤ 8) (hR : cells + mk ≤ R.cells ∧ slots + sk ≤ R.slots) (hd : decode cc pc = .ok (.invokevirtual index, 3)) (kk : ∀ ad1 : Nat → Nat, ad1 0 = st.2.1 0 → J p l e R s m args below meth c nL D A (wL ax ao cI cZ cJ) Q (cells + mk) (slots + sk) (st.1, (ad1, o.2)) (pc + 3) lv (.int o.1 :: rest)) : J p l e R s m args below meth c nL D A (wL ax ao cI cZ cJ) Q cells slots st pc lv stk := by
  intro H locs ls hP hD hS hl
  have hPc : va_P D vwCl (wM2 cI cZ st.2) H := va_sufP hP
  have hDc : va_D A (wM2 cI cZ st.2) := va_sufD hD
  have hFc := va_freeOf hDc hS E.2.2.2.2
  have hKc : va_K D vwCl (jT cI cZ) s := E.2.2.1.sub [0, 1] rfl
  refine va_calli (va_runV (As := As) (rest := rest) E.1 (hM H.size) cw ⟨jPc.blind, va_recv (ci := 6) hKc hPc rfl (wM_g0 st.2.1 cI cZ st.2.2), fun U hU hW => ⟨rfl, by rw [hU], by rw [hU]; exact hPc, va_K.moved hW.alike hKc, E.2.2.2.1.warm hW, hDc.weaken (fun _ _ _ _ => trivial)⟩⟩ rfl hn hl.1 hstk (lv_room hW) hd hR) hS (fun q _ h => hFc q h) hFc (fun r u t H1 locs1 ht hvm hw hB hz1 hk1 hS1 => ?_)
  obtain ⟨ad1, u2⟩ := u
  obtain ⟨rfl, hu2, hb1⟩ := hw
  have hu2 : u2 = o.2 := hu2
  subst hu2
  obtain ⟨hP1, hD1⟩ := hB
  rw [ht] at hP1
  obtain ⟨hP2, hD2⟩ := va_joinSuf hP hD hk1 hFc hP1 hD1
  exact kk ad1 hb1 H1 locs1 ls hP2 hD2 hS1 hl
end LJ1
theorem ctW_of {l : Launch} {D : va_G} {ax : Nat → Nat} {ao : Nat} {cI cZ cJ : ClassId} {y : MethodName} {ws ws' : List Cond} {rm : Room} {mc ms : Nat} {cc : ByteArray} {nL : Nat} {own : String} {hh : List (Nat × Nat × Nat × Nat)} {av : List Value} {st : jSP} {o : Int32 × jSP} {lv0 : List (Nat × Value)} (hy : plainName y.cls = true) (hw : ws = Cond.codeWith y cc nL (some .int) hh :: ws') (hown : y.cls = own) (hlen : (lg_sl av).length ≤ nL) (hlv : lv_args 0 av = lv0)
    (body : ∀ (p : Program) (e : Env) (s : State) (m : MethodId) (args : Array Value) (below : List Frame) (meth : Method) (c : Code) (A : Nat → Prop), jE p s m args meth c cc nL own ws D (jT3 cI cZ cJ) A → meth.sig.returnType = some .int → c.exceptionTable.toList = tableOf hh → xN s → xZ A s s.heap → xNc s → J p l e rm s m args below meth c nL D A (wP ax ao cI cZ cJ) (jZW D ax ao cI cZ cJ A below args s mc ms o) 0 0 st 0 lv0 []) : CtW l D ax ao cI cZ cJ y ws rm mc ms av st o := by
  intro sz
  refine jMet_ofWH (cc := cc) (maxL := nL) (ret := some .int) hy hw ?_
  intro p e s m args below meth c s₁ B hml htab hv
  obtain ⟨rfl, hsz, hP, hK, hN, hD0, hX, hZ, hC⟩ := hv
  subst hsz
  have hts := atoms_spec (ws := ws) B.pre
  have hown' : s.vm.findClass own = some m.cls := by rw [← hown]; exact findClass_of_methodNamed B.named
  have hD := hD0.self (sz := s.heap.size)
  have hl := lv_entry av (n := nL) hlen
  rw [lg_entry_eq]
  exact body p e s m _ below meth c _ ⟨⟨B.exec, B.bytes, hml, hown', hts⟩, B.notSynchronized, hK, hN, fun q h => Or.inr h⟩ B.returns htab hX hZ hC s.heap [] _ hP hD va_S.rf (hlv ▸ hl)
