/-! Constructors: worlds are written out (wId); new cells come at the end. -/
abbrev wId : va_W → va_W := fun z => z
def CtC (l : Launch) (D : va_G) (tys : List (ClassId × FieldType)) (y : MethodName) (ws : List Cond) (rm : Room) (mc ms : Nat) (av : List Value) (w0 : va_W) (P : va_W → Prop) : Prop :=
  ∀ sz : Nat, Met l y ws rm (jPc D tys wId av sz w0) (va_Qv P (jB D wId (va_A w0 sz)) (va_A w0 sz)) mc ms (va_A w0 sz)
def jZC (D : va_G) (A : Nat → Prop) (below : List Frame) (args : Array Value) (s : State) (mc ms : Nat) (P : va_W → Prop) : State → Prop := MQ below (va_Qv P (jB D wId A) A) args s mc ms A
section JC1
variable {p : Program} {l : Launch} {e : Env} {R : Room} {s : State} {m : MethodId} {args : Array Value} {below : List Frame} {meth : Method} {c : Code} {cells slots mc ms : Nat} {Q : State → Prop} {cc : ByteArray} {nL : Nat} {own : String} {Ts : List Cond} {D : va_G} {tys : List (ClassId × FieldType)} {A : Nat → Prop} {pc : Nat} {lv : List (Nat × Value)} {stk : List Value} {w w' : va_W}
theorem j_cret (E : jE p s m args meth c cc nL own Ts D tys A) {P : va_W → Prop} (hr : meth.sig.returnType = none) (hp : P w) (hcs : cells ≤ mc ∧ slots ≤ ms) (hd : decode cc pc = .ok (.return_, 1)) : J p l e R s m args below meth c nL D A wId (jZC D A below args s mc ms P) cells slots w pc lv [] := by
  intro H locs ls hP hD hS hl
  refine W.widen (k := mc) (n := ms) hcs.1 hcs.2 ?_
  exact W.vret E.1.1 E.1.2.1 hr (fun t ht hW => ⟨⟨w, rfl, hp, by rw [ht]; exact hP, hD⟩, hS.F ht⟩) hS.2.2 hd (hlocks := E.2.1)
theorem j_cw {ws' : va_W} (is : List Nat) (hn : va_nd is = true) (h1 : is.filterMap (fun i => w[i]?) = ws') (h2 : is.map (fun i => w[i]?) = ws'.map some) (kk : J p l e R s m args below meth c nL D A wId Q cells slots ws' pc lv stk) : J p l e R s m args below meth c nL D A wId Q cells slots w pc lv stk :=
  fun H locs ls hP hD hS hl => kk H locs ls (va_P.sub hP is h1) (va_D.sub hD is hn h2) hS hl
theorem j_objInit (E : jE p s m args meth c cc nL own Ts D tys A) {idx a : Nat} (hlink : Cond.methodLink own idx Lib.objectInit ∈ Ts) (hinst : Cond.instanceMethod Lib.objectInit ∈ Ts) (hcode : Cond.code Lib.objectInit ⟨#[0xb1]⟩ 1 none ∈ Ts) (hfr : 1 ≤ R.frames) (hlo : 2 * (F0 m pc (#[] : Array Slot) (.ref a :: stk)).monitorRoom + (stk.map fun v => v.category).sum + 12 ≤ R.locals) (hd : decode cc pc = .ok (.invokespecial idx, 3)) (kk : J p l e R s m args below meth c nL D A wId Q cells slots w (pc + 3) lv stk) : J p l e R s m args below meth c nL D A wId Q cells slots w pc lv (.ref a :: stk) :=
  fun H locs ls hP hD hS hl => W.objInit E.1.1 E.1.2.1 E.1.2.2.2.1 (E.1.2.2.2.2 _ hlink) (E.1.2.2.2.2 _ hinst) (E.1.2.2.2.2 _ hcode) rfl (by rw [E.1.2.2.1]; exact hl.1) rfl hd hfr hlo (kk H locs ls hP hD hS hl)
theorem j_wnewI {cI cZ : ClassId} (E : jE p s m args meth c cc nL own Ts D (jT cI cZ) A) {n : Int32} (N' : Nat) (hn : ¬ n < 0) (hN : n.toNatClampNeg = N') (hby : N' * componentBytes (.int : FieldType) ≤ 536870912) (harr : Cond.arrayClass .int ∈ Ts) (hR : cells + 1 ≤ R.cells ∧ slots + N' ≤ R.slots) (hd : decode cc pc = .ok (.newarray .int, 2)) (kk : ∀ q : Nat, J p l e R s m args below meth c nL D A wId Q (cells + 1) (slots + N') (w ++ [(q, .inl (cI, N', .inl (fun _ => 0)))]) (pc + 2) lv (.ref q :: stk)) : J p l e R s m args below meth c nL D A wId Q cells slots w pc lv (.int n :: stk) := by
  intro H locs ls hP hD hS hl
  refine va_newa (atype := .int) (ty := .int) (a0 := (N', .inl (fun _ => 0))) E.1.1 E.1.2.1 (E.1.2.2.2.2 _ harr) rfl E.2.2.1 hP hD hS E.2.2.2.2 (fun _ => rfl) hn hN hby hR.1 hR.2 hd (fun q cA H1 hK1 hP1 hD1 hS1 => ?_)
  have e1 : s.vm.findClass ("[" ++ (.int : FieldType).toString) = some cA := (hK1.2 2 (cA, .int) rfl).2
  have e2 : s.vm.findClass ("[" ++ (.int : FieldType).toString) = some cI := (E.2.2.1.2 0 (cI, .int) rfl).2
  obtain rfl : cA = cI := Option.some.inj (e1.symm.trans e2)
  exact kk q H1 locs ls hP1 hD1 hS1 hl
theorem j_wnewZ {cI cZ : ClassId} (E : jE p s m args meth c cc nL own Ts D (jT cI cZ) A) {n : Int32} (N' : Nat) (hn : ¬ n < 0) (hN : n.toNatClampNeg = N') (hby : N' * componentBytes (.boolean : FieldType) ≤ 536870912) (harr : Cond.arrayClass .boolean ∈ Ts) (hR : cells + 1 ≤ R.cells ∧ slots + N' ≤ R.slots) (hd : decode cc pc = .ok (.newarray .boolean, 2)) (kk : ∀ q : Nat, J p l e R s m args below meth c nL D A wId Q (cells + 1) (slots + N') (w ++ [(q, .inl (cZ, N', .inl (fun _ => 0)))]) (pc + 2) lv (.ref q :: stk)) : J p l e R s m args below meth c nL D A wId Q cells slots w pc lv (.int n :: stk) := by
  intro H locs ls hP hD hS hl
  refine va_newa (atype := .boolean) (ty := .boolean) (a0 := (N', .inl (fun _ => 0))) E.1.1 E.1.2.1 (E.1.2.2.2.2 _ harr) rfl E.2.2.1 hP hD hS E.2.2.2.2 (fun _ => rfl) hn hN hby hR.1 hR.2 hd (fun q cA H1 hK1 hP1 hD1 hS1 => ?_)
  have e1 : s.vm.findClass ("[" ++ (.boolean : FieldType).toString) = some cA := (hK1.2 2 (cA, .boolean) rfl).2
  have e2 : s.vm.findClass ("[" ++ (.boolean : FieldType).toString) = some cZ := (E.2.2.1.2 1 (cZ, .boolean) rfl).2
  obtain rfl : cA = cZ := Option.some.inj (e1.symm.trans e2)
  exact kk q H1 locs ls hP1 hD1 hS1 hl
theorem j_wnew (E : jE p s m args meth c cc nL own Ts D tys A) {C : String} {T : u_T} {N ci index : Nat} {ty : Nat → FieldType} {fs : List Value} (hin : ∀ z ∈ u_ws C T N, z ∈ Ts) (hty : ∀ k, k < N → parseFieldDescriptor (T k).2.2.1 = some (ty k)) (hcl : Cond.classLink own index C ∈ Ts) (hinst : Cond.instantiable C N ∈ Ts) (hini : Cond.initialized C ∈ Ts) (hc : vwCl[ci]? = some (C, T, N)) (hfs : ∀ j, j < N → defaultValue (ty j) = vp_V fs j) (hR : cells + 1 ≤ R.cells ∧ slots + N ≤ R.slots) (hd : decode cc pc = .ok (.new index, 3)) (kk : ∀ q : Nat, J p l e R s m args below meth c nL D A wId Q (cells + 1) (slots + N) (w ++ [(q, .inr (ci, fs))]) (pc + 3) lv (.ref q :: stk)) : J p l e R s m args below meth c nL D A wId Q cells slots w pc lv stk :=
  fun H locs ls hP hD hS hl => va_new E.1.1 E.1.2.1 E.1.2.2.2.2 hin ty hty E.1.2.2.2.1 (E.1.2.2.2.2 _ hcl) (E.1.2.2.2.2 _ hinst) (E.1.2.2.2.2 _ hini) E.2.2.1 hP hD hS E.2.2.2.2 hc hfs hR.1 hR.2 hd (fun q H1 hP1 hD1 hS1 => kk q H1 locs ls hP1 hD1 hS1 hl)
theorem j_putF (E : jE p s m args meth c cc nL own Ts D tys A) {ref C : String} {T : u_T} {N ci index a : Nat} {ty0 : Nat → FieldType} (hnm9 : meth.name = "<init>") (q0 : Nat) {fs : List Value} (he : w[q0]? = some (a, .inr (ci, fs))) (hc : vwCl[ci]? = some (C, T, N)) (k : Nat) {ty : FieldType} {v : Value} (hset : w.set q0 (a, .inr (ci, fs.set k v)) = w') (hty : ∀ k, k < N → parseFieldDescriptor (T k).2.2.1 = some (ty0 k)) (hnm : ∀ a, a < N → ∀ b, b < N → a ≠ b → (T a).2.1 ≠ (T b).2.1) (hin : ∀ z ∈ u_ws C T N, z ∈ Ts) (hk : k < N) (hlink : Cond.fieldLink own index ref (T k).2.1 (T k).2.2.1 ∈ Ts) (hsame : ∀ x, s.fieldFound? (T k).1 (T k).2.1 (T k).2.2.1 = some x → s.fieldFound? ref (T k).2.1 (T k).2.2.1 = some x) (hfin : (T k).2.2.2 = true) (hdecl : (T k).1 = own) (hdsc : parseFieldDescriptor (T k).2.2.1 = some ty) (hn : narrow ty v = v) (hfit : fits ty v = true) (hlk : k < fs.length) (hd : decode cc pc = .ok (.putfield index, 3)) (kk : J p l e R s m args below meth c nL D A wId Q cells slots w' (pc + 3) lv stk) : J p l e R s m args below meth c nL D A wId Q cells slots w pc lv (v :: .ref a :: stk) :=
  fun H locs ls hP hD hS hl => va_putF E.1.1 E.1.2.1 E.1.2.2.2.2 hin ty0 hty hnm E.1.2.2.2.1 E.2.2.1 hP hD hS q0 he hc k hk (E.1.2.2.2.2 _ hlink) hsame hfin hnm9 hdecl hdsc hn hfit hlk hd (fun H1 locs1 hP1 hD1 hS1 => kk H1 locs1 ls (hset ▸ hP1) (hset ▸ hD1) hS1 hl)
theorem j_wcallI (E : jE p s m args meth c cc nL own Ts D tys A) {y : MethodName} {bytes : ByteArray} {maxL index n mk sk b : Nat} {ws : List Cond} {rm : Room} {As rest : List Value} {w0 wr : va_W} {P : va_W → Prop} (isC isR : List Nat) (hM : CtC l D tys y ws rm mk sk (.ref b :: As) w0 P) (cw : CallB R s args own index y bytes maxL none ws rm mk sk n ∧ y.name = "<init>" ∧ (Cond.instanceMethod y).before args s = true) (hC : isC.map (fun i => w[i]?) = w0.map some) (hC' : isC.filterMap (fun i => w[i]?) = w0) (hn0 : va_nd isC = true) (hRr : isR.map (fun i => w[i]?) = wr.map some) (hnR : va_nd isR = true) (hdis : ∀ i ∈ isR, i ∉ isC) (hn : As.length = n) (hstk : stk = As.reverse ++ .ref b :: rest) (hW : (rest.map fun v => v.category).sum ≤ 8) (hcs : cells + mk ≤ R.cells ∧ slots + sk ≤ R.slots) (hd : decode cc pc = .ok (.invokespecial index, 3)) (kk : ∀ u : va_W, P u → J p l e R s m args below meth c nL D A wId Q (cells + mk) (slots + sk) (wr ++ u) (pc + 3) lv rest) : J p l e R s m args below meth c nL D A wId Q cells slots w pc lv stk := by
  intro H locs ls hP hD hS hl
  have hPc : va_P D vwCl w0 H := va_P.sub hP isC hC'
  have hDc : va_D A w0 := va_D.sub hD isC hn0 hC
  have hFc : ∀ q, va_A w0 H.size q → A q := va_free hD hS E.2.2.2.2 isC hC
  refine va_callv (va_runI (As := As) (rest := rest) E.1 (hM H.size) cw ⟨jPc.blind, fun U hU hW => ⟨rfl, by rw [hU], by rw [hU]; exact hPc, va_K.moved hW.alike E.2.2.1, E.2.2.2.1.warm hW, hDc.weaken (fun _ _ _ _ => trivial)⟩⟩ rfl hn hl.1 hstk (lv_room hW) hd hcs) hS (fun q _ h => hFc q h) hFc (fun u t H1 locs1 ht hvm hw hB hz1 hk1 hS1 => ?_)
  obtain ⟨hP1, hD1⟩ := hB
  rw [ht] at hP1
  obtain ⟨hP2, hD2⟩ := va_join (wr := wr) (w1 := u) hP hD isC isR hC hRr hnR hdis hk1 hFc hP1 hD1
  exact kk u hw H1 locs1 ls hP2 hD2 hS1 hl
theorem j_wcallIN (E : jE p s m args meth c cc nL own Ts D tys A) {host : String} {y : MethodName} {bytes : ByteArray} {maxL index n mk sk b : Nat} {ws : List Cond} {rm : Room} {As rest : List Value} {w0 wr : va_W} {P : va_W → Prop} (isC isR : List Nat) (hM : CtC l D tys y ws rm mk sk (.ref b :: As) w0 P) (cw : va_CN R s args own index y host bytes maxL none ws rm mk sk n ∧ y.name = "<init>" ∧ (Cond.instanceMethod y).before args s = true) (hC : isC.map (fun i => w[i]?) = w0.map some) (hC' : isC.filterMap (fun i => w[i]?) = w0) (hn0 : va_nd isC = true) (hRr : isR.map (fun i => w[i]?) = wr.map some) (hnR : va_nd isR = true) (hdis : ∀ i ∈ isR, i ∉ isC) (hn : As.length = n) (hstk : stk = As.reverse ++ .ref b :: rest) (hW : (rest.map fun v => v.category).sum ≤ 8) (hcs : cells + mk ≤ R.cells ∧ slots + sk ≤ R.slots) (hd : decode cc pc = .ok (.invokespecial index, 3)) (kk : ∀ u : va_W, P u → J p l e R s m args below meth c nL D A wId Q (cells + mk) (slots + sk) (wr ++ u) (pc + 3) lv rest) : J p l e R s m args below meth c nL D A wId Q cells slots w pc lv stk := by
  intro H locs ls hP hD hS hl
  have hPc : va_P D vwCl w0 H := va_P.sub hP isC hC'
  have hDc : va_D A w0 := va_D.sub hD isC hn0 hC
  have hFc : ∀ q, va_A w0 H.size q → A q := va_free hD hS E.2.2.2.2 isC hC
  refine va_callv (va_runIN (As := As) (rest := rest) E.1 (hM H.size) cw ⟨jPc.blind, fun U hU hW => ⟨rfl, by rw [hU], by rw [hU]; exact hPc, va_K.moved hW.alike E.2.2.1, E.2.2.2.1.warm hW, hDc.weaken (fun _ _ _ _ => trivial)⟩⟩ rfl hn hl.1 hstk (lv_room hW) hd hcs) hS (fun q _ h => hFc q h) hFc (fun u t H1 locs1 ht hvm hw hB hz1 hk1 hS1 => ?_)
  obtain ⟨hP1, hD1⟩ := hB
  rw [ht] at hP1
  obtain ⟨hP2, hD2⟩ := va_join (wr := wr) (w1 := u) hP hD isC isR hC hRr hnR hdis hk1 hFc hP1 hD1
  exact kk u hw H1 locs1 ls hP2 hD2 hS1 hl
end JC1
theorem ctC_of {l : Launch} {D : va_G} {tys : List (ClassId × FieldType)} {y : MethodName} {ws ws' : List Cond} {rm : Room} {mc ms : Nat} {cc : ByteArray} {nL : Nat} {own : String} {av : List Value} {w0 : va_W} {P : va_W → Prop} {lv0 : List (Nat × Value)} (hy : plainName y.cls = true) (hw : ws = Cond.code y cc nL none :: ws') (hown : y.cls = own) (hnm : y.name = "<init>") (hlen : (lg_sl av).length ≤ nL) (hlv : lv_args 0 av = lv0)
    (body : ∀ (p : Program) (e : Env) (s : State) (m : MethodId) (args : Array Value) (below : List Frame) (meth : Method) (c : Code) (A : Nat → Prop), jE p s m args meth c cc nL own ws D tys A → meth.sig.returnType = none → meth.name = "<init>" → J p l e rm s m args below meth c nL D A wId (jZC D A below args s mc ms P) 0 0 w0 0 lv0 []) : CtC l D tys y ws rm mc ms av w0 P := by
  intro sz
  refine Met.ofW (cc := cc) (maxL := nL) (ret := none) hy hw ?_
  intro p e s m args below meth c s₁ B hml hv
  obtain ⟨rfl, hsz, hP, hK, hN, hD0⟩ := hv
  subst hsz
  have hts := atoms_spec (ws := ws) B.pre
  have hown' : s.vm.findClass own = some m.cls := by rw [← hown]; exact findClass_of_methodNamed B.named
  have hin : meth.name = "<init>" := (name_of_methodNamed B.named B.method).1.trans hnm
  have hD := hD0.self (sz := s.heap.size)
  have hl := lv_entry av (n := nL) hlen
  rw [lg_entry_eq]
  exact body p e s m _ below meth c _ ⟨⟨B.exec, B.bytes, hml, hown', hts⟩, B.notSynchronized, hK, hN, fun q h => Or.inr h⟩ B.returns hin s.heap [] _ hP hD va_S.rf (hlv ▸ hl)
