/-! The judgement J: a walk over one world 'wf st' (a state st of any type, its cells by wf), with the locals lv and the stack stk; the heap is hidden. -/
section JJ0
/-- the state of a system: arrays by number, ints by number -/
abbrev jS : Type := (Nat → Nat → Int32) × (Nat → Int32)
abbrev jaf (st : jS) (k : Nat) (f : Nat → Int32) : jS := (va_up st.1 k f, st.2)
abbrev jis (st : jS) (k : Nat) (v : Int32) : jS := (st.1, va_up st.2 k v)
def jag (st : jS) (k : Nat) (i : Int32) : Int32 := st.1 k i.toNatClampNeg
abbrev jas (st : jS) (k : Nat) (i v : Int32) : jS := jaf st k (upd (st.1 k) i.toNatClampNeg v)
/-- outside an array of n places -/
def job (i : Int32) (n : Nat) : Bool := decide (i < 0) || decide (n ≤ i.toNatClampNeg)
theorem job_in {i : Int32} {n : Nat} (h : job i n = false) : vp_in i n := by
  unfold job at h
  unfold vp_in
  simp only [Bool.or_eq_false_iff, decide_eq_false_iff_not] at h
  exact fun hq => hq.elim h.1 h.2
theorem job_of {i : Int32} {n : Nat} (h : vp_in i n) : job i n = false := by
  unfold job
  unfold vp_in at h
  simp only [Bool.or_eq_false_iff, decide_eq_false_iff_not]
  exact ⟨fun hq => h (Or.inl hq), fun hq => h (Or.inr hq)⟩
theorem job_else {α : Type} {i : Int32} {n : Nat} {X : Option α} {o : α} (h : (bif job i n then none else X) = some o) : vp_in i n ∧ X = some o := by
  cases hq : job i n with
  | true => rw [hq] at h; cases h
  | false => rw [hq] at h; exact ⟨job_in hq, h⟩
def jfill (n : Nat) (v : Int32) (f : Nat → Int32) : Nat → Int32 := fun k => if k < n then v else f k
/-- a copy inside an array of n0 places that the machine refuses -/
def jcb (sp dp n : Int32) (n0 : Nat) : Bool := decide (sp < 0) || decide (dp < 0) || decide (n < 0) || decide (n0 < sp.toNatClampNeg + n.toNatClampNeg) || decide (n0 < dp.toNatClampNeg + n.toNatClampNeg)
theorem jcb_else {α : Type} {sp dp n : Int32} {n0 : Nat} {X : Option α} {o : α} (h : (bif jcb sp dp n n0 then none else X) = some o) : ((¬ sp < 0 ∧ ¬ dp < 0 ∧ ¬ n < 0) ∧ sp.toNatClampNeg + n.toNatClampNeg ≤ n0 ∧ dp.toNatClampNeg + n.toNatClampNeg ≤ n0) ∧ X = some o := by
  cases hq : jcb sp dp n n0 with
  | true => rw [hq] at h; cases h
  | false =>
    rw [hq] at h
    unfold jcb at hq
    simp only [Bool.or_eq_false_iff, decide_eq_false_iff_not] at hq
    obtain ⟨⟨⟨⟨a1, a2⟩, a3⟩, a4⟩, a5⟩ := hq
    exact ⟨⟨⟨a1, a2, a3⟩, Nat.le_of_not_lt a4, Nat.le_of_not_lt a5⟩, h⟩
/-- not a truth value -/
def jnb (v : Int32) : Bool := decide (v &&& 1 ≠ v)
theorem jnb_else {α : Type} {v : Int32} {X : Option α} {o : α} (h : (bif jnb v then none else X) = some o) : narrow .boolean (.int v) = .int v ∧ X = some o := by
  cases hq : jnb v with
  | true => rw [hq] at h; cases h
  | false =>
    rw [hq] at h
    have h1 : v &&& 1 = v := by
      unfold jnb at hq
      simpa using hq
    exact ⟨by show Value.int (v &&& 1) = _; rw [h1], h⟩
theorem jit {α : Type} {c : Prop} {d : Decidable c} {X Y : Option α} {o : α} (h : (if c then X else Y) = some o) (hc : c) : X = some o := by rw [if_pos hc] at h; exact h
theorem jif {α : Type} {c : Prop} {d : Decidable c} {X Y : Option α} {o : α} (h : (if c then X else Y) = some o) (hc : ¬ c) : Y = some o := by rw [if_neg hc] at h; exact h
theorem jbd {α β : Type} {x : Option α} {K : α → Option β} {o : β} (h : x.bind K = some o) : ∃ r, x = some r ∧ K r = some o := by
  cases x with
  | none => cases h
  | some r => exact ⟨r, rfl, h⟩
/-- a named value -/
def jl {α β : Type} (v : α) (k : α → β) : β := k v
theorem jle {α β : Type} {v : α} {K : α → Option β} {o : β} (h : jl v K = some o) : ∃ y, v = y ∧ K y = some o := ⟨v, rfl, h⟩
theorem jguard {α : Type} {c : Prop} {d : Decidable c} {X : Option α} {o : α} (h : (if c then none else X) = some o) : ¬ c ∧ X = some o := by
  by_cases hc : c
  · rw [if_pos hc] at h; cases h
  · rw [if_neg hc] at h; exact ⟨hc, h⟩

/-- the links between nest mates -/
def jNf : List (String × Nat × String × String × String × String) := [("MemoParser", 136, "MemoParser$Search", "work", "I", "MemoParser"), ("MemoParser", 139, "MemoParser$Search", "hits", "I", "MemoParser"), ("MemoParser", 142, "MemoParser$Search", "growths", "I", "MemoParser"), ("MemoParser", 145, "MemoParser$Search", "farthest", "I", "MemoParser"), ("MemoParser", 151, "MemoParser$Memory", "results", "[I", "MemoParser"), ("MemoParser", 158, "MemoParser$Memory", "reaches", "[I", "MemoParser"), ("MemoParser", 77, "MemoParser$Grammar", "count", "I", "MemoParser"), ("MemoParser", 87, "MemoParser$Text", "size", "I", "MemoParser"), ("MemoParser$Search", 116, "MemoParser$Grammar", "ruleExpressions", "[I", "MemoParser"), ("MemoParser$Search", 122, "MemoParser$Progress", "asked", "[Z", "MemoParser"), ("MemoParser$Search", 126, "MemoParser$Progress", "seeds", "[I", "MemoParser"), ("MemoParser$Search", 143, "MemoParser$Memory", "names", "[I", "MemoParser"), ("MemoParser$Search", 150, "MemoParser$Memory", "reaches", "[I", "MemoParser"), ("MemoParser$Search", 156, "MemoParser$Memory", "results", "[I", "MemoParser"), ("MemoParser$Search", 159, "MemoParser$Progress", "numberOf", "[I", "MemoParser"), ("MemoParser$Search", 168, "MemoParser$Progress", "rules", "[I", "MemoParser"), ("MemoParser$Search", 171, "MemoParser$Progress", "places", "[I", "MemoParser"), ("MemoParser$Search", 174, "MemoParser$Progress", "reaches", "[I", "MemoParser"), ("MemoParser$Search", 175, "MemoParser$Progress", "names", "[I", "MemoParser"), ("MemoParser$Search", 56, "MemoParser$Grammar", "firsts", "[I", "MemoParser"), ("MemoParser$Search", 62, "MemoParser$Grammar", "seconds", "[I", "MemoParser"), ("MemoParser$Search", 65, "MemoParser$Grammar", "kinds", "[I", "MemoParser")]
def jNm : List (String × Nat × String × String × String × String) := [("MemoParser", 18, "MemoParser$Text", "<init>", "()V", "MemoParser"), ("MemoParser$Grammar", 54, "MemoParser", "bit", "(I)I", "MemoParser"), ("MemoParser$Grammar", 57, "MemoParser", "mix", "(JI)J", "MemoParser"), ("MemoParser$Memory", 39, "MemoParser", "mix", "(JI)J", "MemoParser"), ("MemoParser$Progress", 50, "MemoParser", "bit", "(I)I", "MemoParser"), ("MemoParser$Progress", 54, "MemoParser", "cell", "(II)I", "MemoParser"), ("MemoParser$Search", 137, "MemoParser", "cell", "(II)I", "MemoParser"), ("MemoParser$Text", 23, "MemoParser", "countBytes", "(J)I", "MemoParser"), ("MemoParser$Text", 33, "MemoParser", "packedByte", "(JI)I", "MemoParser"), ("MemoParser$Text", 37, "MemoParser", "mix", "(JI)J", "MemoParser")]
def jN (U : State) : Prop := (∀ q ∈ jNf, va_Nw (.fieldLinkNest q.1 q.2.1 q.2.2.1 q.2.2.2.1 q.2.2.2.2.1 q.2.2.2.2.2) U) ∧ ∀ q ∈ jNm, va_Nw (.methodLinkNest q.1 q.2.1 ⟨q.2.2.1, q.2.2.2.1, q.2.2.2.2.1⟩ q.2.2.2.2.2) U
theorem jN.warm {s U : State} (hW : s.WarmedH U.vm) (h : jN s) : jN U := ⟨fun q hq => va_Nw.warmF hW (h.1 q hq), fun q hq => va_Nw.warmM hW (h.2 q hq)⟩
theorem jN.same {s U : State} (hv : s.vm = U.vm) (h : jN s) : jN U := ⟨fun q hq => va_Nw.same rfl hv (h.1 q hq), fun q hq => va_Nw.same rfl hv (h.2 q hq)⟩
/-- what stays over a walk -/
def jE (p : Program) (s : State) (m : MethodId) (args : Array Value) (meth : Method) (c : Code) (cc : ByteArray) (nL : Nat) (own : String) (Ts : List Cond) (D : va_G) (tys : List (ClassId × FieldType)) (A : Nat → Prop) : Prop :=
  CallFix p m c cc nL s args Ts own ∧ meth.locks = false ∧ va_K D vwCl tys s ∧ jN s ∧ (∀ q : Nat, s.heap.size ≤ q → A q)
def J {S : Type} (p : Program) (l : Launch) (e : Env) (R : Room) (s : State) (m : MethodId) (args : Array Value) (below : List Frame) (meth : Method) (c : Code) (nL : Nat) (D : va_G) (A : Nat → Prop) (wf : S → va_W) (Q : State → Prop) (cells slots : Nat) (st : S) (pc : Nat) (lv : List (Nat × Value)) (stk : List Value) : Prop :=
  ∀ (H : Heap) (locs : List Loc) (ls : Array Slot), va_P D vwCl (wf st) H → va_D A (wf st) → va_S A s.heap H locs → lv_has ls nL lv → W p l e R s m args below meth c H locs cells slots Q (F0 m pc ls stk)
/-- a method's start -/
def jPc {S : Type} (D : va_G) (tys : List (ClassId × FieldType)) (wf : S → va_W) (av : List Value) (sz : Nat) (st : S) : Array Value → State → Prop :=
  va_Pc av (fun U => U.heap.size = sz ∧ va_P D vwCl (wf st) U.heap ∧ va_K D vwCl tys U ∧ jN U ∧ va_D (fun _ => True) (wf st))
/-- the world behind it -/
def jB {S : Type} (D : va_G) (wf : S → va_W) (A : Nat → Prop) (u : S) (t : State) : Prop := va_P D vwCl (wf u) t.heap ∧ va_D A (wf u)
def CtI {S : Type} (l : Launch) (D : va_G) (tys : List (ClassId × FieldType)) (wf : S → va_W) (y : MethodName) (ws : List Cond) (rm : Room) (av : List Value) (st : S) (r0 : Int32) (u0 : S) : Prop :=
  ∀ sz : Nat, Met l y ws rm (jPc D tys wf av sz st) (va_Qi (fun r u => r = r0 ∧ u = u0) (jB D wf (va_A (wf st) sz)) (va_A (wf st) sz)) 0 0 (va_A (wf st) sz)
def CtL {S : Type} (l : Launch) (D : va_G) (tys : List (ClassId × FieldType)) (wf : S → va_W) (y : MethodName) (ws : List Cond) (rm : Room) (av : List Value) (st : S) (r0 : Int64) (u0 : S) : Prop :=
  ∀ sz : Nat, Met l y ws rm (jPc D tys wf av sz st) (va_Ql (fun r u => r = r0 ∧ u = u0) (jB D wf (va_A (wf st) sz)) (va_A (wf st) sz)) 0 0 (va_A (wf st) sz)
def CtV {S : Type} (l : Launch) (D : va_G) (tys : List (ClassId × FieldType)) (wf : S → va_W) (y : MethodName) (ws : List Cond) (rm : Room) (av : List Value) (st : S) (o : S) : Prop :=
  ∀ sz : Nat, Met l y ws rm (jPc D tys wf av sz st) (va_Qv (fun u => u = o) (jB D wf (va_A (wf st) sz)) (va_A (wf st) sz)) 0 0 (va_A (wf st) sz)
def jZI {S : Type} (D : va_G) (wf : S → va_W) (A : Nat → Prop) (below : List Frame) (args : Array Value) (s : State) (o : Int32 × S) : State → Prop := MQ below (va_Qi (fun r u => r = o.1 ∧ u = o.2) (jB D wf A) A) args s 0 0 A
def jZL {S : Type} (D : va_G) (wf : S → va_W) (A : Nat → Prop) (below : List Frame) (args : Array Value) (s : State) (o : Int64 × S) : State → Prop := MQ below (va_Ql (fun r u => r = o.1 ∧ u = o.2) (jB D wf A) A) args s 0 0 A
def jZV {S : Type} (D : va_G) (wf : S → va_W) (A : Nat → Prop) (below : List Frame) (args : Array Value) (s : State) (o : S) : State → Prop := MQ below (va_Qv (fun u => u = o) (jB D wf A) A) args s 0 0 A
theorem jPc.blind {S : Type} {D : va_G} {tys : List (ClassId × FieldType)} {wf : S → va_W} {av : List Value} {sz : Nat} {st : S} : FrameBlind (jPc D tys wf av sz st) := by
  intro a U g mk q
  obtain ⟨q0, q1, qP, qK, qN, qD⟩ := q
  exact ⟨q0, q1, qP, va_K.moved (u := U) (U := U.calling g mk a) (Vm.Alike.refl U.vm) qK, jN.same (s := U) (U := U.calling g mk a) rfl qN, qD⟩
end JJ0
section JJ1
variable {p : Program} {l : Launch} {e : Env} {R : Room} {s : State} {m : MethodId} {args : Array Value} {below : List Frame} {meth : Method} {c : Code} {cells slots : Nat} {Q : State → Prop} {cc : ByteArray} {nL : Nat} {own : String} {Ts : List Cond} {D : va_G} {tys : List (ClassId × FieldType)} {A : Nat → Prop} {S : Type} {wf : S → va_W} {st st' : S} {pc : Nat} {lv lv' : List (Nat × Value)} {stk : List Value}
theorem j_iconst (E : jE p s m args meth c cc nL own Ts D tys A) {n : Int} {v : Int32} (hv : Int32.ofInt n = v) (hd : decode cc pc = .ok (.iconst n, 1)) (kk : J p l e R s m args below meth c nL D A wf Q cells slots st (pc + 1) lv (.int v :: stk)) : J p l e R s m args below meth c nL D A wf Q cells slots st pc lv stk :=
  fun H locs ls hP hD hS hl => lv_iconst E.1.1 E.1.2.1 hd hv (kk H locs ls hP hD hS hl)
theorem j_bipush (E : jE p s m args meth c cc nL own Ts D tys A) {n : Int} {v : Int32} (hv : (Int8.ofInt n).toInt32 = v) (hd : decode cc pc = .ok (.bipush n, 2)) (kk : J p l e R s m args below meth c nL D A wf Q cells slots st (pc + 2) lv (.int v :: stk)) : J p l e R s m args below meth c nL D A wf Q cells slots st pc lv stk :=
  fun H locs ls hP hD hS hl => lv_bipush E.1.1 E.1.2.1 hd hv (kk H locs ls hP hD hS hl)
theorem j_sipush (E : jE p s m args meth c cc nL own Ts D tys A) {n : Int} {v : Int32} (hv : (Int16.ofInt n).toInt32 = v) (hd : decode cc pc = .ok (.sipush n, 3)) (kk : J p l e R s m args below meth c nL D A wf Q cells slots st (pc + 3) lv (.int v :: stk)) : J p l e R s m args below meth c nL D A wf Q cells slots st pc lv stk :=
  fun H locs ls hP hD hS hl => lv_sipush E.1.1 E.1.2.1 hd hv (kk H locs ls hP hD hS hl)
theorem j_lconst (E : jE p s m args meth c cc nL own Ts D tys A) {n : Fin 2} {v : Int64} (hv : Int64.ofNat (n : Nat) = v) (hd : decode cc pc = .ok (.lconst n, 1)) (kk : J p l e R s m args below meth c nL D A wf Q cells slots st (pc + 1) lv (.long v :: stk)) : J p l e R s m args below meth c nL D A wf Q cells slots st pc lv stk :=
  fun H locs ls hP hD hS hl => lv_lconst E.1.1 E.1.2.1 hd hv (kk H locs ls hP hD hS hl)
theorem j_iload (E : jE p s m args meth c cc nL own Ts D tys A) {i : Nat} {x : Int32} (k : Nat) (hk : lv[k]? = some (i, .int x)) (hd : decode cc pc = .ok (.iload i, 2)) (kk : J p l e R s m args below meth c nL D A wf Q cells slots st (pc + 2) lv (.int x :: stk)) : J p l e R s m args below meth c nL D A wf Q cells slots st pc lv stk :=
  fun H locs ls hP hD hS hl => lv_iload E.1.1 E.1.2.1 hd (lv_at hl k hk) (kk H locs ls hP hD hS hl)
theorem j_iload_n (E : jE p s m args meth c cc nL own Ts D tys A) {kf : Fin 4} {i : Nat} {x : Int32} (k : Nat) (hk : lv[k]? = some (i, .int x)) (hi : (kf : Nat) = i) (hd : decode cc pc = .ok (.iload_n kf, 1)) (kk : J p l e R s m args below meth c nL D A wf Q cells slots st (pc + 1) lv (.int x :: stk)) : J p l e R s m args below meth c nL D A wf Q cells slots st pc lv stk :=
  fun H locs ls hP hD hS hl => lv_iload_n E.1.1 E.1.2.1 hd hi (lv_at hl k hk) (kk H locs ls hP hD hS hl)
theorem j_lload (E : jE p s m args meth c cc nL own Ts D tys A) {i : Nat} {x : Int64} (k : Nat) (hk : lv[k]? = some (i, .long x)) (hd : decode cc pc = .ok (.lload i, 2)) (kk : J p l e R s m args below meth c nL D A wf Q cells slots st (pc + 2) lv (.long x :: stk)) : J p l e R s m args below meth c nL D A wf Q cells slots st pc lv stk :=
  fun H locs ls hP hD hS hl => lv_lload E.1.1 E.1.2.1 hd (lv_at hl k hk) (kk H locs ls hP hD hS hl)
theorem j_lload_n (E : jE p s m args meth c cc nL own Ts D tys A) {kf : Fin 4} {i : Nat} {x : Int64} (k : Nat) (hk : lv[k]? = some (i, .long x)) (hi : (kf : Nat) = i) (hd : decode cc pc = .ok (.lload_n kf, 1)) (kk : J p l e R s m args below meth c nL D A wf Q cells slots st (pc + 1) lv (.long x :: stk)) : J p l e R s m args below meth c nL D A wf Q cells slots st pc lv stk :=
  fun H locs ls hP hD hS hl => lv_lload_n E.1.1 E.1.2.1 hd hi (lv_at hl k hk) (kk H locs ls hP hD hS hl)
theorem j_aload (E : jE p s m args meth c cc nL own Ts D tys A) {i : Nat} {x : Nat} (k : Nat) (hk : lv[k]? = some (i, .ref x)) (hd : decode cc pc = .ok (.aload i, 2)) (kk : J p l e R s m args below meth c nL D A wf Q cells slots st (pc + 2) lv (.ref x :: stk)) : J p l e R s m args below meth c nL D A wf Q cells slots st pc lv stk :=
  fun H locs ls hP hD hS hl => lv_aload E.1.1 E.1.2.1 hd (lv_at hl k hk) (kk H locs ls hP hD hS hl)
theorem j_aload_n (E : jE p s m args meth c cc nL own Ts D tys A) {kf : Fin 4} {i : Nat} {x : Nat} (k : Nat) (hk : lv[k]? = some (i, .ref x)) (hi : (kf : Nat) = i) (hd : decode cc pc = .ok (.aload_n kf, 1)) (kk : J p l e R s m args below meth c nL D A wf Q cells slots st (pc + 1) lv (.ref x :: stk)) : J p l e R s m args below meth c nL D A wf Q cells slots st pc lv stk :=
  fun H locs ls hP hD hS hl => lv_aload_n E.1.1 E.1.2.1 hd hi (lv_at hl k hk) (kk H locs ls hP hD hS hl)
theorem j_istore {i : Nat} (E : jE p s m args meth c cc nL own Ts D tys A) {x : Int32} (hn : i < nL) (hl' : (i, Value.int x) :: lv.filter (fun q => !(q.1 == i) && !(q.1 + 1 == i && q.2.category == 2)) = lv') (hd : decode cc pc = .ok (.istore i, 2)) (kk : J p l e R s m args below meth c nL D A wf Q cells slots st (pc + 2) lv' stk) : J p l e R s m args below meth c nL D A wf Q cells slots st pc lv (.int x :: stk) :=
  fun H locs ls hP hD hS hl => lv_istore E.1.1 E.1.2.1 hd hl hn hl' (fun ls' h' => kk H locs ls' hP hD hS h')
theorem j_istore_n {i : Nat} (E : jE p s m args meth c cc nL own Ts D tys A) {x : Int32} {kf : Fin 4} (hi : (kf : Nat) = i) (hn : i < nL) (hl' : (i, Value.int x) :: lv.filter (fun q => !(q.1 == i) && !(q.1 + 1 == i && q.2.category == 2)) = lv') (hd : decode cc pc = .ok (.istore_n kf, 1)) (kk : J p l e R s m args below meth c nL D A wf Q cells slots st (pc + 1) lv' stk) : J p l e R s m args below meth c nL D A wf Q cells slots st pc lv (.int x :: stk) :=
  fun H locs ls hP hD hS hl => lv_istore_n E.1.1 E.1.2.1 hd hi hl hn hl' (fun ls' h' => kk H locs ls' hP hD hS h')
theorem j_lstore {i : Nat} (E : jE p s m args meth c cc nL own Ts D tys A) {x : Int64} (hn : i + 1 < nL) (hl' : (i, Value.long x) :: lv.filter (fun q => !(q.1 == i) && (!(q.1 == i + 1) && !(q.1 + 1 == i && q.2.category == 2))) = lv') (hd : decode cc pc = .ok (.lstore i, 2)) (kk : J p l e R s m args below meth c nL D A wf Q cells slots st (pc + 2) lv' stk) : J p l e R s m args below meth c nL D A wf Q cells slots st pc lv (.long x :: stk) :=
  fun H locs ls hP hD hS hl => lv_lstore E.1.1 E.1.2.1 hd hl hn hl' (fun ls' h' => kk H locs ls' hP hD hS h')
theorem j_lstore_n {i : Nat} (E : jE p s m args meth c cc nL own Ts D tys A) {x : Int64} {kf : Fin 4} (hi : (kf : Nat) = i) (hn : i + 1 < nL) (hl' : (i, Value.long x) :: lv.filter (fun q => !(q.1 == i) && (!(q.1 == i + 1) && !(q.1 + 1 == i && q.2.category == 2))) = lv') (hd : decode cc pc = .ok (.lstore_n kf, 1)) (kk : J p l e R s m args below meth c nL D A wf Q cells slots st (pc + 1) lv' stk) : J p l e R s m args below meth c nL D A wf Q cells slots st pc lv (.long x :: stk) :=
  fun H locs ls hP hD hS hl => lv_lstore_n E.1.1 E.1.2.1 hd hi hl hn hl' (fun ls' h' => kk H locs ls' hP hD hS h')
theorem j_astore {i : Nat} (E : jE p s m args meth c cc nL own Ts D tys A) {x : Nat} (hn : i < nL) (hl' : (i, Value.ref x) :: lv.filter (fun q => !(q.1 == i) && !(q.1 + 1 == i && q.2.category == 2)) = lv') (hd : decode cc pc = .ok (.astore i, 2)) (kk : J p l e R s m args below meth c nL D A wf Q cells slots st (pc + 2) lv' stk) : J p l e R s m args below meth c nL D A wf Q cells slots st pc lv (.ref x :: stk) :=
  fun H locs ls hP hD hS hl => lv_astore E.1.1 E.1.2.1 hd hl hn hl' (fun ls' h' => kk H locs ls' hP hD hS h')
theorem j_astore_n {i : Nat} (E : jE p s m args meth c cc nL own Ts D tys A) {x : Nat} {kf : Fin 4} (hi : (kf : Nat) = i) (hn : i < nL) (hl' : (i, Value.ref x) :: lv.filter (fun q => !(q.1 == i) && !(q.1 + 1 == i && q.2.category == 2)) = lv') (hd : decode cc pc = .ok (.astore_n kf, 1)) (kk : J p l e R s m args below meth c nL D A wf Q cells slots st (pc + 1) lv' stk) : J p l e R s m args below meth c nL D A wf Q cells slots st pc lv (.ref x :: stk) :=
  fun H locs ls hP hD hS hl => lv_astore_n E.1.1 E.1.2.1 hd hi hl hn hl' (fun ls' h' => kk H locs ls' hP hD hS h')
theorem j_iinc (E : jE p s m args meth c cc nL own Ts D tys A) {i : Nat} {n : Int} {x y v : Int32} (k : Nat) (hk : lv[k]? = some (i, .int x)) (hy : Int32.ofInt n = y) (hv : x + y = v) (hn : i < nL) (hl' : (i, Value.int v) :: lv.filter (fun q => !(q.1 == i) && !(q.1 + 1 == i && q.2.category == 2)) = lv') (hd : decode cc pc = .ok (.iinc i n, 3)) (kk : J p l e R s m args below meth c nL D A wf Q cells slots st (pc + 3) lv' stk) : J p l e R s m args below meth c nL D A wf Q cells slots st pc lv stk :=
  fun H locs ls hP hD hS hl => lv_iinc E.1.1 E.1.2.1 hd hl hk (by rw [hy]; exact hv) hn hl' (fun ls' h' => kk H locs ls' hP hD hS h')
theorem j_iadd (E : jE p s m args meth c cc nL own Ts D tys A) {x y : Int32} (hd : decode cc pc = .ok (.iadd, 1)) (kk : J p l e R s m args below meth c nL D A wf Q cells slots st (pc + 1) lv (.int (x + y) :: stk)) : J p l e R s m args below meth c nL D A wf Q cells slots st pc lv (.int y :: .int x :: stk) :=
  fun H locs ls hP hD hS hl => lv_iadd E.1.1 E.1.2.1 hd  (kk H locs ls hP hD hS hl)
theorem j_isub (E : jE p s m args meth c cc nL own Ts D tys A) {x y : Int32} (hd : decode cc pc = .ok (.isub, 1)) (kk : J p l e R s m args below meth c nL D A wf Q cells slots st (pc + 1) lv (.int (x - y) :: stk)) : J p l e R s m args below meth c nL D A wf Q cells slots st pc lv (.int y :: .int x :: stk) :=
  fun H locs ls hP hD hS hl => lv_isub E.1.1 E.1.2.1 hd  (kk H locs ls hP hD hS hl)
theorem j_imul (E : jE p s m args meth c cc nL own Ts D tys A) {x y : Int32} (hd : decode cc pc = .ok (.imul, 1)) (kk : J p l e R s m args below meth c nL D A wf Q cells slots st (pc + 1) lv (.int (x * y) :: stk)) : J p l e R s m args below meth c nL D A wf Q cells slots st pc lv (.int y :: .int x :: stk) :=
  fun H locs ls hP hD hS hl => lv_imul E.1.1 E.1.2.1 hd  (kk H locs ls hP hD hS hl)
theorem j_iand (E : jE p s m args meth c cc nL own Ts D tys A) {x y : Int32} (hd : decode cc pc = .ok (.iand, 1)) (kk : J p l e R s m args below meth c nL D A wf Q cells slots st (pc + 1) lv (.int (x &&& y) :: stk)) : J p l e R s m args below meth c nL D A wf Q cells slots st pc lv (.int y :: .int x :: stk) :=
  fun H locs ls hP hD hS hl => lv_iand E.1.1 E.1.2.1 hd  (kk H locs ls hP hD hS hl)
theorem j_ior (E : jE p s m args meth c cc nL own Ts D tys A) {x y : Int32} (hd : decode cc pc = .ok (.ior, 1)) (kk : J p l e R s m args below meth c nL D A wf Q cells slots st (pc + 1) lv (.int (x ||| y) :: stk)) : J p l e R s m args below meth c nL D A wf Q cells slots st pc lv (.int y :: .int x :: stk) :=
  fun H locs ls hP hD hS hl => lv_ior E.1.1 E.1.2.1 hd  (kk H locs ls hP hD hS hl)
theorem j_ixor (E : jE p s m args meth c cc nL own Ts D tys A) {x y : Int32} (hd : decode cc pc = .ok (.ixor, 1)) (kk : J p l e R s m args below meth c nL D A wf Q cells slots st (pc + 1) lv (.int (x ^^^ y) :: stk)) : J p l e R s m args below meth c nL D A wf Q cells slots st pc lv (.int y :: .int x :: stk) :=
  fun H locs ls hP hD hS hl => lv_ixor E.1.1 E.1.2.1 hd  (kk H locs ls hP hD hS hl)
theorem j_ishl (E : jE p s m args meth c cc nL own Ts D tys A) {x y : Int32} (hd : decode cc pc = .ok (.ishl, 1)) (kk : J p l e R s m args below meth c nL D A wf Q cells slots st (pc + 1) lv (.int (x <<< (y &&& 31)) :: stk)) : J p l e R s m args below meth c nL D A wf Q cells slots st pc lv (.int y :: .int x :: stk) :=
  fun H locs ls hP hD hS hl => lv_ishl E.1.1 E.1.2.1 hd  (kk H locs ls hP hD hS hl)
theorem j_ishr (E : jE p s m args meth c cc nL own Ts D tys A) {x y : Int32} (hd : decode cc pc = .ok (.ishr, 1)) (kk : J p l e R s m args below meth c nL D A wf Q cells slots st (pc + 1) lv (.int (x >>> (y &&& 31)) :: stk)) : J p l e R s m args below meth c nL D A wf Q cells slots st pc lv (.int y :: .int x :: stk) :=
  fun H locs ls hP hD hS hl => lv_ishr E.1.1 E.1.2.1 hd  (kk H locs ls hP hD hS hl)
theorem j_idiv (E : jE p s m args meth c cc nL own Ts D tys A) {x y : Int32} (hne : ¬ y = 0) (hd : decode cc pc = .ok (.idiv, 1)) (kk : J p l e R s m args below meth c nL D A wf Q cells slots st (pc + 1) lv (.int (x / y) :: stk)) : J p l e R s m args below meth c nL D A wf Q cells slots st pc lv (.int y :: .int x :: stk) :=
  fun H locs ls hP hD hS hl => lv_idiv E.1.1 E.1.2.1 hd hne (kk H locs ls hP hD hS hl)
theorem j_irem (E : jE p s m args meth c cc nL own Ts D tys A) {x y : Int32} (hne : ¬ y = 0) (hd : decode cc pc = .ok (.irem, 1)) (kk : J p l e R s m args below meth c nL D A wf Q cells slots st (pc + 1) lv (.int (x - x / y * y) :: stk)) : J p l e R s m args below meth c nL D A wf Q cells slots st pc lv (.int y :: .int x :: stk) :=
  fun H locs ls hP hD hS hl => lv_irem E.1.1 E.1.2.1 hd hne (kk H locs ls hP hD hS hl)
theorem j_ladd (E : jE p s m args meth c cc nL own Ts D tys A) {x y : Int64} (hd : decode cc pc = .ok (.ladd, 1)) (kk : J p l e R s m args below meth c nL D A wf Q cells slots st (pc + 1) lv (.long (x + y) :: stk)) : J p l e R s m args below meth c nL D A wf Q cells slots st pc lv (.long y :: .long x :: stk) :=
  fun H locs ls hP hD hS hl => lv_ladd E.1.1 E.1.2.1 hd  (kk H locs ls hP hD hS hl)
theorem j_lmul (E : jE p s m args meth c cc nL own Ts D tys A) {x y : Int64} (hd : decode cc pc = .ok (.lmul, 1)) (kk : J p l e R s m args below meth c nL D A wf Q cells slots st (pc + 1) lv (.long (x * y) :: stk)) : J p l e R s m args below meth c nL D A wf Q cells slots st pc lv (.long y :: .long x :: stk) :=
  fun H locs ls hP hD hS hl => lv_lmul E.1.1 E.1.2.1 hd  (kk H locs ls hP hD hS hl)
theorem j_land (E : jE p s m args meth c cc nL own Ts D tys A) {x y : Int64} (hd : decode cc pc = .ok (.land, 1)) (kk : J p l e R s m args below meth c nL D A wf Q cells slots st (pc + 1) lv (.long (x &&& y) :: stk)) : J p l e R s m args below meth c nL D A wf Q cells slots st pc lv (.long y :: .long x :: stk) :=
  fun H locs ls hP hD hS hl => lv_land E.1.1 E.1.2.1 hd  (kk H locs ls hP hD hS hl)
theorem j_lor (E : jE p s m args meth c cc nL own Ts D tys A) {x y : Int64} (hd : decode cc pc = .ok (.lor, 1)) (kk : J p l e R s m args below meth c nL D A wf Q cells slots st (pc + 1) lv (.long (x ||| y) :: stk)) : J p l e R s m args below meth c nL D A wf Q cells slots st pc lv (.long y :: .long x :: stk) :=
  fun H locs ls hP hD hS hl => lv_lor E.1.1 E.1.2.1 hd  (kk H locs ls hP hD hS hl)
theorem j_lushr (E : jE p s m args meth c cc nL own Ts D tys A) {x : Int64} {y : Int32} (hd : decode cc pc = .ok (.lushr, 1)) (kk : J p l e R s m args below meth c nL D A wf Q cells slots st (pc + 1) lv (.long ((x.toUInt64 >>> (y.toInt64.toUInt64 &&& Int64.toUInt64 63)).toInt64) :: stk)) : J p l e R s m args below meth c nL D A wf Q cells slots st pc lv (.int y :: .long x :: stk) :=
  fun H locs ls hP hD hS hl => lv_lushr E.1.1 E.1.2.1 hd rfl (kk H locs ls hP hD hS hl)
theorem j_lshl (E : jE p s m args meth c cc nL own Ts D tys A) {x : Int64} {y : Int32} (hd : decode cc pc = .ok (.lshl, 1)) (kk : J p l e R s m args below meth c nL D A wf Q cells slots st (pc + 1) lv (.long (x <<< (y.toInt64 &&& 63)) :: stk)) : J p l e R s m args below meth c nL D A wf Q cells slots st pc lv (.int y :: .long x :: stk) :=
  fun H locs ls hP hD hS hl => lv_lshl E.1.1 E.1.2.1 hd rfl (kk H locs ls hP hD hS hl)
theorem j_lshr (E : jE p s m args meth c cc nL own Ts D tys A) {x : Int64} {y : Int32} (hd : decode cc pc = .ok (.lshr, 1)) (kk : J p l e R s m args below meth c nL D A wf Q cells slots st (pc + 1) lv (.long (x >>> (y.toInt64 &&& 63)) :: stk)) : J p l e R s m args below meth c nL D A wf Q cells slots st pc lv (.int y :: .long x :: stk) :=
  fun H locs ls hP hD hS hl => lv_lshr E.1.1 E.1.2.1 hd rfl (kk H locs ls hP hD hS hl)
theorem j_i2l (E : jE p s m args meth c cc nL own Ts D tys A) {x : Int32} (hd : decode cc pc = .ok (.i2l, 1)) (kk : J p l e R s m args below meth c nL D A wf Q cells slots st (pc + 1) lv (.long x.toInt64 :: stk)) : J p l e R s m args below meth c nL D A wf Q cells slots st pc lv (.int x :: stk) :=
  fun H locs ls hP hD hS hl => lv_i2l E.1.1 E.1.2.1 hd rfl (kk H locs ls hP hD hS hl)
theorem j_l2i (E : jE p s m args meth c cc nL own Ts D tys A) {x : Int64} (hd : decode cc pc = .ok (.l2i, 1)) (kk : J p l e R s m args below meth c nL D A wf Q cells slots st (pc + 1) lv (.int x.toInt32 :: stk)) : J p l e R s m args below meth c nL D A wf Q cells slots st pc lv (.long x :: stk) :=
  fun H locs ls hP hD hS hl => lv_l2i E.1.1 E.1.2.1 hd rfl (kk H locs ls hP hD hS hl)
theorem j_dup (E : jE p s m args meth c cc nL own Ts D tys A) {va : Value} (hva : va.category = 1) (hd : decode cc pc = .ok (.dup, 1)) (kk : J p l e R s m args below meth c nL D A wf Q cells slots st (pc + 1) lv (va :: va :: stk)) : J p l e R s m args below meth c nL D A wf Q cells slots st pc lv (va :: stk) :=
  fun H locs ls hP hD hS hl => lv_dup E.1.1 E.1.2.1 hd hva (kk H locs ls hP hD hS hl)
theorem j_pop (E : jE p s m args meth c cc nL own Ts D tys A) {va : Value} (hva : va.category = 1) (hd : decode cc pc = .ok (.pop, 1)) (kk : J p l e R s m args below meth c nL D A wf Q cells slots st (pc + 1) lv stk) : J p l e R s m args below meth c nL D A wf Q cells slots st pc lv (va :: stk) :=
  fun H locs ls hP hD hS hl => lv_pop E.1.1 E.1.2.1 hd hva (kk H locs ls hP hD hS hl)
theorem j_dup2 (E : jE p s m args meth c cc nL own Ts D tys A) {va vb : Value} (hva : va.category = 1) (hvb : vb.category = 1) (hd : decode cc pc = .ok (.dup2, 1)) (kk : J p l e R s m args below meth c nL D A wf Q cells slots st (pc + 1) lv (va :: vb :: va :: vb :: stk)) : J p l e R s m args below meth c nL D A wf Q cells slots st pc lv (va :: vb :: stk) :=
  fun H locs ls hP hD hS hl => lv_dup2_11 E.1.1 E.1.2.1 hd hva hvb (kk H locs ls hP hD hS hl)
theorem j_lcmp (E : jE p s m args meth c cc nL own Ts D tys A) {x y : Int64} (hd : decode cc pc = .ok (.lcmp, 1)) (kk : J p l e R s m args below meth c nL D A wf Q cells slots st (pc + 1) lv (.int (lg_cmp x y) :: stk)) : J p l e R s m args below meth c nL D A wf Q cells slots st pc lv (.long y :: .long x :: stk) :=
  fun H locs ls hP hD hS hl => W.lcmp E.1.1 E.1.2.1 hd (kk H locs ls hP hD hS hl)
theorem j_if_eq (E : jE p s m args meth c cc nL own Ts D tys A) {x : Int32} {off : Int} {tgt : Nat} (ht : (pc : Int) + off = (tgt : Int)) (hd : decode cc pc = .ok (.ifCond .eq off, 3)) (kt : x = 0 → J p l e R s m args below meth c nL D A wf Q cells slots st tgt lv stk) (kf : ¬ x = 0 → J p l e R s m args below meth c nL D A wf Q cells slots st (pc + 3) lv stk) : J p l e R s m args below meth c nL D A wf Q cells slots st pc lv (.int x :: stk) :=
  fun H locs ls hP hD hS hl => lv_if_eq E.1.1 E.1.2.1 hd ht (fun q => kt q H locs ls hP hD hS hl) (fun q => kf q H locs ls hP hD hS hl)
theorem j_icmp_eq (E : jE p s m args meth c cc nL own Ts D tys A) {x y : Int32} {off : Int} {tgt : Nat} (ht : (pc : Int) + off = (tgt : Int)) (hd : decode cc pc = .ok (.if_icmp .eq off, 3)) (kt : x = y → J p l e R s m args below meth c nL D A wf Q cells slots st tgt lv stk) (kf : ¬ x = y → J p l e R s m args below meth c nL D A wf Q cells slots st (pc + 3) lv stk) : J p l e R s m args below meth c nL D A wf Q cells slots st pc lv (.int y :: .int x :: stk) :=
  fun H locs ls hP hD hS hl => lv_icmp_eq E.1.1 E.1.2.1 hd ht (fun q => kt q H locs ls hP hD hS hl) (fun q => kf q H locs ls hP hD hS hl)
theorem j_if_ne (E : jE p s m args meth c cc nL own Ts D tys A) {x : Int32} {off : Int} {tgt : Nat} (ht : (pc : Int) + off = (tgt : Int)) (hd : decode cc pc = .ok (.ifCond .ne off, 3)) (kt : ¬ x = 0 → J p l e R s m args below meth c nL D A wf Q cells slots st tgt lv stk) (kf : x = 0 → J p l e R s m args below meth c nL D A wf Q cells slots st (pc + 3) lv stk) : J p l e R s m args below meth c nL D A wf Q cells slots st pc lv (.int x :: stk) :=
  fun H locs ls hP hD hS hl => lv_if_ne E.1.1 E.1.2.1 hd ht (fun q => kt q H locs ls hP hD hS hl) (fun q => kf q H locs ls hP hD hS hl)
theorem j_icmp_ne (E : jE p s m args meth c cc nL own Ts D tys A) {x y : Int32} {off : Int} {tgt : Nat} (ht : (pc : Int) + off = (tgt : Int)) (hd : decode cc pc = .ok (.if_icmp .ne off, 3)) (kt : ¬ x = y → J p l e R s m args below meth c nL D A wf Q cells slots st tgt lv stk) (kf : x = y → J p l e R s m args below meth c nL D A wf Q cells slots st (pc + 3) lv stk) : J p l e R s m args below meth c nL D A wf Q cells slots st pc lv (.int y :: .int x :: stk) :=
  fun H locs ls hP hD hS hl => lv_icmp_ne E.1.1 E.1.2.1 hd ht (fun q => kt q H locs ls hP hD hS hl) (fun q => kf q H locs ls hP hD hS hl)
theorem j_if_lt (E : jE p s m args meth c cc nL own Ts D tys A) {x : Int32} {off : Int} {tgt : Nat} (ht : (pc : Int) + off = (tgt : Int)) (hd : decode cc pc = .ok (.ifCond .lt off, 3)) (kt : x < 0 → J p l e R s m args below meth c nL D A wf Q cells slots st tgt lv stk) (kf : ¬ x < 0 → J p l e R s m args below meth c nL D A wf Q cells slots st (pc + 3) lv stk) : J p l e R s m args below meth c nL D A wf Q cells slots st pc lv (.int x :: stk) :=
  fun H locs ls hP hD hS hl => lv_if_lt E.1.1 E.1.2.1 hd ht (fun q => kt q H locs ls hP hD hS hl) (fun q => kf q H locs ls hP hD hS hl)
theorem j_icmp_lt (E : jE p s m args meth c cc nL own Ts D tys A) {x y : Int32} {off : Int} {tgt : Nat} (ht : (pc : Int) + off = (tgt : Int)) (hd : decode cc pc = .ok (.if_icmp .lt off, 3)) (kt : x < y → J p l e R s m args below meth c nL D A wf Q cells slots st tgt lv stk) (kf : ¬ x < y → J p l e R s m args below meth c nL D A wf Q cells slots st (pc + 3) lv stk) : J p l e R s m args below meth c nL D A wf Q cells slots st pc lv (.int y :: .int x :: stk) :=
  fun H locs ls hP hD hS hl => lv_icmp_lt E.1.1 E.1.2.1 hd ht (fun q => kt q H locs ls hP hD hS hl) (fun q => kf q H locs ls hP hD hS hl)
theorem j_if_ge (E : jE p s m args meth c cc nL own Ts D tys A) {x : Int32} {off : Int} {tgt : Nat} (ht : (pc : Int) + off = (tgt : Int)) (hd : decode cc pc = .ok (.ifCond .ge off, 3)) (kt : x ≥ 0 → J p l e R s m args below meth c nL D A wf Q cells slots st tgt lv stk) (kf : ¬ x ≥ 0 → J p l e R s m args below meth c nL D A wf Q cells slots st (pc + 3) lv stk) : J p l e R s m args below meth c nL D A wf Q cells slots st pc lv (.int x :: stk) :=
  fun H locs ls hP hD hS hl => lv_if_ge E.1.1 E.1.2.1 hd ht (fun q => kt q H locs ls hP hD hS hl) (fun q => kf q H locs ls hP hD hS hl)
theorem j_icmp_ge (E : jE p s m args meth c cc nL own Ts D tys A) {x y : Int32} {off : Int} {tgt : Nat} (ht : (pc : Int) + off = (tgt : Int)) (hd : decode cc pc = .ok (.if_icmp .ge off, 3)) (kt : x ≥ y → J p l e R s m args below meth c nL D A wf Q cells slots st tgt lv stk) (kf : ¬ x ≥ y → J p l e R s m args below meth c nL D A wf Q cells slots st (pc + 3) lv stk) : J p l e R s m args below meth c nL D A wf Q cells slots st pc lv (.int y :: .int x :: stk) :=
  fun H locs ls hP hD hS hl => lv_icmp_ge E.1.1 E.1.2.1 hd ht (fun q => kt q H locs ls hP hD hS hl) (fun q => kf q H locs ls hP hD hS hl)
theorem j_if_gt (E : jE p s m args meth c cc nL own Ts D tys A) {x : Int32} {off : Int} {tgt : Nat} (ht : (pc : Int) + off = (tgt : Int)) (hd : decode cc pc = .ok (.ifCond .gt off, 3)) (kt : x > 0 → J p l e R s m args below meth c nL D A wf Q cells slots st tgt lv stk) (kf : ¬ x > 0 → J p l e R s m args below meth c nL D A wf Q cells slots st (pc + 3) lv stk) : J p l e R s m args below meth c nL D A wf Q cells slots st pc lv (.int x :: stk) :=
  fun H locs ls hP hD hS hl => lv_if_gt E.1.1 E.1.2.1 hd ht (fun q => kt q H locs ls hP hD hS hl) (fun q => kf q H locs ls hP hD hS hl)
theorem j_icmp_gt (E : jE p s m args meth c cc nL own Ts D tys A) {x y : Int32} {off : Int} {tgt : Nat} (ht : (pc : Int) + off = (tgt : Int)) (hd : decode cc pc = .ok (.if_icmp .gt off, 3)) (kt : x > y → J p l e R s m args below meth c nL D A wf Q cells slots st tgt lv stk) (kf : ¬ x > y → J p l e R s m args below meth c nL D A wf Q cells slots st (pc + 3) lv stk) : J p l e R s m args below meth c nL D A wf Q cells slots st pc lv (.int y :: .int x :: stk) :=
  fun H locs ls hP hD hS hl => lv_icmp_gt E.1.1 E.1.2.1 hd ht (fun q => kt q H locs ls hP hD hS hl) (fun q => kf q H locs ls hP hD hS hl)
theorem j_if_le (E : jE p s m args meth c cc nL own Ts D tys A) {x : Int32} {off : Int} {tgt : Nat} (ht : (pc : Int) + off = (tgt : Int)) (hd : decode cc pc = .ok (.ifCond .le off, 3)) (kt : x ≤ 0 → J p l e R s m args below meth c nL D A wf Q cells slots st tgt lv stk) (kf : ¬ x ≤ 0 → J p l e R s m args below meth c nL D A wf Q cells slots st (pc + 3) lv stk) : J p l e R s m args below meth c nL D A wf Q cells slots st pc lv (.int x :: stk) :=
  fun H locs ls hP hD hS hl => lv_if_le E.1.1 E.1.2.1 hd ht (fun q => kt q H locs ls hP hD hS hl) (fun q => kf q H locs ls hP hD hS hl)
theorem j_icmp_le (E : jE p s m args meth c cc nL own Ts D tys A) {x y : Int32} {off : Int} {tgt : Nat} (ht : (pc : Int) + off = (tgt : Int)) (hd : decode cc pc = .ok (.if_icmp .le off, 3)) (kt : x ≤ y → J p l e R s m args below meth c nL D A wf Q cells slots st tgt lv stk) (kf : ¬ x ≤ y → J p l e R s m args below meth c nL D A wf Q cells slots st (pc + 3) lv stk) : J p l e R s m args below meth c nL D A wf Q cells slots st pc lv (.int y :: .int x :: stk) :=
  fun H locs ls hP hD hS hl => lv_icmp_le E.1.1 E.1.2.1 hd ht (fun q => kt q H locs ls hP hD hS hl) (fun q => kf q H locs ls hP hD hS hl)
theorem j_goto (E : jE p s m args meth c cc nL own Ts D tys A) {off : Int} {tgt : Nat} (ht : (pc : Int) + off = (tgt : Int)) (hd : decode cc pc = .ok (.goto off, 3)) (kk : J p l e R s m args below meth c nL D A wf Q cells slots st tgt lv stk) : J p l e R s m args below meth c nL D A wf Q cells slots st pc lv stk :=
  fun H locs ls hP hD hS hl => lv_goto E.1.1 E.1.2.1 hd ht (kk H locs ls hP hD hS hl)
theorem j_tableIn (E : jE p s m args meth c cc nL own Ts D tys A) {dflt lo hi : Int} {offs : Array Int} {len : Nat} {x : Int32} {off : Int} {tgt : Nat} (hd : decode cc pc = .ok (.tableswitch dflt lo hi offs, len)) (h1 : ¬ x.toInt < lo) (h2 : ¬ hi < x.toInt) (ho : offs[(x.toInt - lo).toNat]? = some off) (ht : (pc : Int) + off = (tgt : Int)) (kk : J p l e R s m args below meth c nL D A wf Q cells slots st tgt lv stk) : J p l e R s m args below meth c nL D A wf Q cells slots st pc lv (.int x :: stk) :=
  fun H locs ls hP hD hS hl => lv_tableIn E.1.1 E.1.2.1 hd h1 h2 ho ht (kk H locs ls hP hD hS hl)
theorem j_tableOut (E : jE p s m args meth c cc nL own Ts D tys A) {dflt lo hi : Int} {offs : Array Int} {len : Nat} {x : Int32} {tgt : Nat} (hd : decode cc pc = .ok (.tableswitch dflt lo hi offs, len)) (h : x.toInt < lo ∨ hi < x.toInt) (ht : (pc : Int) + dflt = (tgt : Int)) (kk : J p l e R s m args below meth c nL D A wf Q cells slots st tgt lv stk) : J p l e R s m args below meth c nL D A wf Q cells slots st pc lv (.int x :: stk) :=
  fun H locs ls hP hD hS hl => lv_tableOut E.1.1 E.1.2.1 hd h ht (kk H locs ls hP hD hS hl)
theorem j_ldc2 (E : jE p s m args meth c cc nL own Ts D tys A) {index : Nat} {v : Int64} (hw : Jvm.Cond.constantLong own index v ∈ Ts) (hd : decode cc pc = .ok (.ldc2_w index, 3)) (kk : J p l e R s m args below meth c nL D A wf Q cells slots st (pc + 3) lv (.long v :: stk)) : J p l e R s m args below meth c nL D A wf Q cells slots st pc lv stk :=
  fun H locs ls hP hD hS hl => lv_ldc2 E.1.1 E.1.2.1 E.1.2.2.2.1 (E.1.2.2.2.2 _ hw) hd (kk H locs ls hP hD hS hl)
theorem j_sub (ks : List Nat) (hl' : lv_pick lv ks = lv') (kk : J p l e R s m args below meth c nL D A wf Q cells slots st pc lv' stk) : J p l e R s m args below meth c nL D A wf Q cells slots st pc lv stk :=
  fun H locs ls hP hD hS hl => kk H locs ls hP hD hS (lv_sub hl ks hl')
theorem j_topi {x y : Int32} (h : x = y) (kk : J p l e R s m args below meth c nL D A wf Q cells slots st pc lv (.int y :: stk)) : J p l e R s m args below meth c nL D A wf Q cells slots st pc lv (.int x :: stk) := by subst h; exact kk
theorem j_topl {x y : Int64} (h : x = y) (kk : J p l e R s m args below meth c nL D A wf Q cells slots st pc lv (.long y :: stk)) : J p l e R s m args below meth c nL D A wf Q cells slots st pc lv (.long x :: stk) := by subst h; exact kk
theorem j_st (h : st = st') (kk : J p l e R s m args below meth c nL D A wf Q cells slots st' pc lv stk) : J p l e R s m args below meth c nL D A wf Q cells slots st pc lv stk := by subst h; exact kk
theorem j_get (E : jE p s m args meth c cc nL own Ts D tys A) {ref C : String} {T : u_T} {N ci index a : Nat} (q0 : Nat) {fs : List Value} (he : (wf st)[q0]? = some (a, .inr (ci, fs))) (hc : vwCl[ci]? = some (C, T, N)) (k : Nat) {v : Value} (hv : fs[k]? = some v) (hin : ∀ w ∈ u_ws C T N, w ∈ Ts) (hk : k < N) (hlink : Cond.fieldLink own index ref (T k).2.1 (T k).2.2.1 ∈ Ts) (hsame : ∀ x, s.fieldFound? (T k).1 (T k).2.1 (T k).2.2.1 = some x → s.fieldFound? ref (T k).2.1 (T k).2.2.1 = some x) (hd : decode cc pc = .ok (.getfield index, 3)) (kk : J p l e R s m args below meth c nL D A wf Q cells slots st (pc + 3) lv (v :: stk)) : J p l e R s m args below meth c nL D A wf Q cells slots st pc lv (.ref a :: stk) :=
  fun H locs ls hP hD hS hl => va_get E.1.1 E.1.2.1 E.1.2.2.2.2 hin E.1.2.2.2.1 E.2.2.1 hP q0 he hc k hk (E.1.2.2.2.2 _ hlink) hsame hv hd (kk H locs ls hP hD hS hl)
theorem j_getN (E : jE p s m args meth c cc nL own Ts D tys A) {ref C host : String} {T : u_T} {N ci index a : Nat} (q0 : Nat) {fs : List Value} (he : (wf st)[q0]? = some (a, .inr (ci, fs))) (hc : vwCl[ci]? = some (C, T, N)) (k : Nat) {v : Value} (hv : fs[k]? = some v) (hin : ∀ w ∈ u_ws C T N, w ∈ Ts) (hk : k < N) (hlink : va_Nw (.fieldLinkNest own index ref (T k).2.1 (T k).2.2.1 host) s) (hsame : ∀ x, s.fieldFound? (T k).1 (T k).2.1 (T k).2.2.1 = some x → s.fieldFound? ref (T k).2.1 (T k).2.2.1 = some x) (hd : decode cc pc = .ok (.getfield index, 3)) (kk : J p l e R s m args below meth c nL D A wf Q cells slots st (pc + 3) lv (v :: stk)) : J p l e R s m args below meth c nL D A wf Q cells slots st pc lv (.ref a :: stk) :=
  fun H locs ls hP hD hS hl => va_getN E.1.1 E.1.2.1 E.1.2.2.2.2 hin E.1.2.2.2.1 E.2.2.1 hP q0 he hc k hk (va_Nw.use rfl hlink) hsame hv hd (kk H locs ls hP hD hS hl)
theorem j_put (E : jE p s m args meth c cc nL own Ts D tys A) {ref C : String} {T : u_T} {N ci index a : Nat} {ty0 : Nat → FieldType} (q0 : Nat) {fs : List Value} (he : (wf st)[q0]? = some (a, .inr (ci, fs))) (hc : vwCl[ci]? = some (C, T, N)) (k : Nat) {ty : FieldType} {v : Value} (hset : (wf st).set q0 (a, .inr (ci, fs.set k v)) = wf st') (hty : ∀ k, k < N → parseFieldDescriptor (T k).2.2.1 = some (ty0 k)) (hnm : ∀ a, a < N → ∀ b, b < N → a ≠ b → (T a).2.1 ≠ (T b).2.1) (hin : ∀ w ∈ u_ws C T N, w ∈ Ts) (hk : k < N) (hlink : Cond.fieldLink own index ref (T k).2.1 (T k).2.2.1 ∈ Ts) (hsame : ∀ x, s.fieldFound? (T k).1 (T k).2.1 (T k).2.2.1 = some x → s.fieldFound? ref (T k).2.1 (T k).2.2.1 = some x) (hfin : (T k).2.2.2 = false) (hdsc : parseFieldDescriptor (T k).2.2.1 = some ty) (hn : narrow ty v = v) (hfit : fits ty v = true) (hlk : k < fs.length) (hd : decode cc pc = .ok (.putfield index, 3)) (kk : J p l e R s m args below meth c nL D A wf Q cells slots st' (pc + 3) lv stk) : J p l e R s m args below meth c nL D A wf Q cells slots st pc lv (v :: .ref a :: stk) :=
  fun H locs ls hP hD hS hl => va_put E.1.1 E.1.2.1 E.1.2.2.2.2 hin ty0 hty hnm E.1.2.2.2.1 E.2.2.1 hP hD hS q0 he hc k hk (E.1.2.2.2.2 _ hlink) hsame hfin hdsc hn hfit hlk hd (fun H1 locs1 hP1 hD1 hS1 => kk H1 locs1 ls (hset ▸ hP1) (hset ▸ hD1) hS1 hl)
theorem j_iald (E : jE p s m args meth c cc nL own Ts D tys A) (q0 t0 : Nat) {a : Nat} {cA : ClassId} {n : Nat} {f : Nat → Int32} (ha : (wf st)[q0]? = some (a, .inl (cA, n, .inl f))) (ht : tys[t0]? = some (cA, .int)) {i : Int32} (hin : vp_in i n) (hd : decode cc pc = .ok (.iaload, 1)) (kk : J p l e R s m args below meth c nL D A wf Q cells slots st (pc + 1) lv (.int (f i.toNatClampNeg) :: stk)) : J p l e R s m args below meth c nL D A wf Q cells slots st pc lv (.int i :: .ref a :: stk) :=
  fun H locs ls hP hD hS hl => va_iald E.1.1 E.1.2.1 E.2.2.1 hP q0 t0 ha ht hin hd (kk H locs ls hP hD hS hl)
theorem j_zald (E : jE p s m args meth c cc nL own Ts D tys A) (q0 t0 : Nat) {a : Nat} {cA : ClassId} {n : Nat} {f : Nat → Int32} (ha : (wf st)[q0]? = some (a, .inl (cA, n, .inl f))) (ht : tys[t0]? = some (cA, .boolean)) {i : Int32} (hin : vp_in i n) (hd : decode cc pc = .ok (.baload, 1)) (kk : J p l e R s m args below meth c nL D A wf Q cells slots st (pc + 1) lv (.int (f i.toNatClampNeg) :: stk)) : J p l e R s m args below meth c nL D A wf Q cells slots st pc lv (.int i :: .ref a :: stk) :=
  fun H locs ls hP hD hS hl => va_zald E.1.1 E.1.2.1 E.2.2.1 hP q0 t0 ha ht hin hd (kk H locs ls hP hD hS hl)
theorem j_iast (E : jE p s m args meth c cc nL own Ts D tys A) (q0 t0 : Nat) {a : Nat} {cA : ClassId} {n : Nat} {f : Nat → Int32} (ha : (wf st)[q0]? = some (a, .inl (cA, n, .inl f))) (ht : tys[t0]? = some (cA, .int)) {i x : Int32} (hset : (wf st).set q0 (a, .inl (cA, n, .inl (upd f i.toNatClampNeg x))) = wf st') (hin : vp_in i n) (hd : decode cc pc = .ok (.iastore, 1)) (kk : J p l e R s m args below meth c nL D A wf Q cells slots st' (pc + 1) lv stk) : J p l e R s m args below meth c nL D A wf Q cells slots st pc lv (.int x :: .int i :: .ref a :: stk) :=
  fun H locs ls hP hD hS hl => va_iast E.1.1 E.1.2.1 E.2.2.1 hP hD hS q0 t0 ha ht hin hd (fun H1 locs1 hP1 hD1 hS1 => kk H1 locs1 ls (hset ▸ hP1) (hset ▸ hD1) hS1 hl)
theorem j_zast (E : jE p s m args meth c cc nL own Ts D tys A) (q0 t0 : Nat) {a : Nat} {cA : ClassId} {n : Nat} {f : Nat → Int32} (ha : (wf st)[q0]? = some (a, .inl (cA, n, .inl f))) (ht : tys[t0]? = some (cA, .boolean)) {i x : Int32} (hset : (wf st).set q0 (a, .inl (cA, n, .inl (upd f i.toNatClampNeg (vp_nar .boolean x)))) = wf st') (hin : vp_in i n) (hd : decode cc pc = .ok (.bastore, 1)) (kk : J p l e R s m args below meth c nL D A wf Q cells slots st' (pc + 1) lv stk) : J p l e R s m args below meth c nL D A wf Q cells slots st pc lv (.int x :: .int i :: .ref a :: stk) :=
  fun H locs ls hP hD hS hl => va_zast E.1.1 E.1.2.1 E.2.2.1 hP hD hS q0 t0 ha ht hin hd (fun H1 locs1 hP1 hD1 hS1 => kk H1 locs1 ls (hset ▸ hP1) (hset ▸ hD1) hS1 hl)
theorem j_alen (E : jE p s m args meth c cc nL own Ts D tys A) (q0 t0 : Nat) {a : Nat} {cA : ClassId} {x : vp_A} (ha : (wf st)[q0]? = some (a, .inl (cA, x))) {ty : FieldType} (ht : tys[t0]? = some (cA, ty)) {v : Int32} (hv : Int32.ofNat x.1 = v) (hd : decode cc pc = .ok (.arraylength, 1)) (kk : J p l e R s m args below meth c nL D A wf Q cells slots st (pc + 1) lv (.int v :: stk)) : J p l e R s m args below meth c nL D A wf Q cells slots st pc lv (.ref a :: stk) :=
  fun H locs ls hP hD hS hl => va_alen E.1.1 E.1.2.1 E.2.2.1 hP q0 t0 ha ht hv hd (kk H locs ls hP hD hS hl)
theorem j_mmax (E : jE p s m args meth c cc nL own Ts D tys A) {index : Nat} {x y : Int32} (hlink : Cond.methodLink own index Lib.Math.max.name ∈ Ts) (hstat : Cond.static Lib.Math.max.name ∈ Ts) (hini : Cond.initialized "java/lang/Math" ∈ Ts) (hcode : Cond.code Lib.Math.max.name Lib.Math.max.code 2 (some .int) ∈ Ts) (hfr : 1 ≤ R.frames) (hlo : (stk.map fun v => v.category).sum + 13 ≤ R.locals) (hcs : cells ≤ R.cells ∧ slots ≤ R.slots) (hd : decode cc pc = .ok (.invokestatic index, 3)) (kk : J p l e R s m args below meth c nL D A wf Q cells slots st (pc + 3) lv (.int (if x < y then y else x) :: stk)) : J p l e R s m args below meth c nL D A wf Q cells slots st pc lv (.int y :: .int x :: stk) :=
  fun H locs ls hP hD hS hl => va_mmax E.1.1 E.1.2.1 (E.1.2.2.1.trans hl.1.symm) E.1.2.2.2.1 (E.1.2.2.2.2 _ hlink) (E.1.2.2.2.2 _ hstat) (E.1.2.2.2.2 _ hini) (E.1.2.2.2.2 _ hcode) hfr hlo hcs.1 hcs.2 hd (kk H locs ls hP hD hS hl)
theorem j_mmin (E : jE p s m args meth c cc nL own Ts D tys A) {index : Nat} {x y : Int32} (hlink : Cond.methodLink own index Lib.Math.min.name ∈ Ts) (hstat : Cond.static Lib.Math.min.name ∈ Ts) (hini : Cond.initialized "java/lang/Math" ∈ Ts) (hcode : Cond.code Lib.Math.min.name Lib.Math.min.code 2 (some .int) ∈ Ts) (hfr : 1 ≤ R.frames) (hlo : (stk.map fun v => v.category).sum + 13 ≤ R.locals) (hcs : cells ≤ R.cells ∧ slots ≤ R.slots) (hd : decode cc pc = .ok (.invokestatic index, 3)) (kk : J p l e R s m args below meth c nL D A wf Q cells slots st (pc + 3) lv (.int (if y < x then y else x) :: stk)) : J p l e R s m args below meth c nL D A wf Q cells slots st pc lv (.int y :: .int x :: stk) :=
  fun H locs ls hP hD hS hl => va_mmin E.1.1 E.1.2.1 (E.1.2.2.1.trans hl.1.symm) E.1.2.2.2.1 (E.1.2.2.2.2 _ hlink) (E.1.2.2.2.2 _ hstat) (E.1.2.2.2.2 _ hini) (E.1.2.2.2.2 _ hcode) hfr hlo hcs.1 hcs.2 hd (kk H locs ls hP hD hS hl)
theorem j_iret (E : jE p s m args meth c cc nL own Ts D tys A) {v : Int32} {o : Int32 × S} {ty : FieldType} (hr : meth.sig.returnType = some ty) (hn : narrow ty (.int v) = .int v) (ho : (v, st) = o) (hd : decode cc pc = .ok (.ireturn, 1)) : J p l e R s m args below meth c nL D A wf (jZI D wf A below args s o) 0 0 st pc lv [.int v] := by
  intro H locs ls hP hD hS hl
  subst ho
  exact W.zret E.1.1 E.1.2.1 hr hn (fun t ht hW => ⟨⟨v, st, rfl, ⟨rfl, rfl⟩, by rw [ht]; exact hP, hD⟩, hS.F ht⟩) hS.2.2 hd (hlocks := E.2.1)
theorem j_lret (E : jE p s m args meth c cc nL own Ts D tys A) {v : Int64} {o : Int64 × S} (hr : meth.sig.returnType = some .long) (ho : (v, st) = o) (hd : decode cc pc = .ok (.lreturn, 1)) : J p l e R s m args below meth c nL D A wf (jZL D wf A below args s o) 0 0 st pc lv [.long v] := by
  intro H locs ls hP hD hS hl
  subst ho
  exact W.lret E.1.1 E.1.2.1 hr (fun t ht hW => ⟨⟨v, st, rfl, ⟨rfl, rfl⟩, by rw [ht]; exact hP, hD⟩, hS.F ht⟩) hS.2.2 hd (hlocks := E.2.1)
theorem j_vret (E : jE p s m args meth c cc nL own Ts D tys A) {o : S} (hr : meth.sig.returnType = none) (ho : st = o) (hd : decode cc pc = .ok (.return_, 1)) : J p l e R s m args below meth c nL D A wf (jZV D wf A below args s o) 0 0 st pc lv [] := by
  intro H locs ls hP hD hS hl
  subst ho
  exact W.vret E.1.1 E.1.2.1 hr (fun t ht hW => ⟨⟨st, rfl, rfl, by rw [ht]; exact hP, hD⟩, hS.F ht⟩) hS.2.2 hd (hlocks := E.2.1)
theorem jFree (E : jE p s m args meth c cc nL own Ts D tys A) {H : Heap} {locs : List Loc} (hD : va_D A (wf st)) (hS : va_S A s.heap H locs) : ∀ q, va_A (wf st) H.size q → A q := by
  intro q h
  rcases h with ⟨k, e, h⟩ | h
  · exact hD.2 k (q, e) h
  · exact E.2.2.2.2 q (Nat.le_trans hS.1 h)
theorem j_callVi (E : jE p s m args meth c cc nL own Ts D tys A) {y : MethodName} {bytes : ByteArray} {maxL index n : Nat} {ret : Option FieldType} {ws : List Cond} {rm : Room} {As rest : List Value} {r0 : Int32} {u0 : S} {b ci q0 : Nat} {C : String} {T : u_T} {N : Nat} {fs : List Value} (hM : CtI l D tys wf y ws rm (.ref b :: As) st r0 u0) (cw : CallW R s args own C index y bytes maxL ret ws rm 0 0 n) (he : (wf st)[q0]? = some (b, .inr (ci, fs))) (hc : vwCl[ci]? = some (C, T, N)) (hn : As.length = n) (hstk : stk = As.reverse ++ .ref b :: rest) (hW : (rest.map fun v => v.category).sum ≤ 8) (hcs : cells + 0 ≤ R.cells ∧ slots + 0 ≤ R.slots) (hd : decode cc pc = .ok (.invokevirtual index, 3)) (kk : J p l e R s m args below meth c nL D A wf Q cells slots u0 (pc + 3) lv (.int r0 :: rest)) : J p l e R s m args below meth c nL D A wf Q cells slots st pc lv stk := by
  intro H locs ls hP hD hS hl
  refine va_calli (va_runV (As := As) (rest := rest) E.1 (hM H.size) cw ⟨jPc.blind, va_recv E.2.2.1 hP hc he, fun U hU hW => ⟨rfl, by rw [hU], by rw [hU]; exact hP, va_K.moved hW.alike E.2.2.1, E.2.2.2.1.warm hW, hD.weaken (fun _ _ _ _ => trivial)⟩⟩ rfl hn hl.1 hstk (lv_room hW) hd hcs) hS (fun q _ h => jFree E hD hS q h) (jFree E hD hS) (fun r u t H1 locs1 ht hvm hw hB hz1 hk1 hS1 => ?_)
  obtain ⟨rfl, rfl⟩ := hw
  obtain ⟨hP1, hD1⟩ := hB
  rw [ht] at hP1
  exact kk H1 locs1 ls hP1 (hD1.weaken fun _ _ _ h => jFree E hD hS _ h) hS1 hl
theorem j_callSi (E : jE p s m args meth c cc nL own Ts D tys A) {y : MethodName} {bytes : ByteArray} {maxL index n : Nat} {ret : Option FieldType} {ws : List Cond} {rm : Room} {As rest : List Value} {r0 : Int32} {u0 : S} (hM : CtI l D tys wf y ws rm As st r0 u0) (cw : CallB R s args own index y bytes maxL ret ws rm 0 0 n ∧ (Cond.static y).before args s = true) (hn : As.length = n) (hstk : stk = As.reverse ++ rest) (hW : (rest.map fun v => v.category).sum ≤ 8) (hcs : cells + 0 ≤ R.cells ∧ slots + 0 ≤ R.slots) (hd : decode cc pc = .ok (.invokestatic index, 3)) (kk : J p l e R s m args below meth c nL D A wf Q cells slots u0 (pc + 3) lv (.int r0 :: rest)) : J p l e R s m args below meth c nL D A wf Q cells slots st pc lv stk := by
  intro H locs ls hP hD hS hl
  refine va_calli (va_runS (As := As) (rest := rest) E.1 (hM H.size) cw ⟨jPc.blind, fun U hU hW => ⟨rfl, by rw [hU], by rw [hU]; exact hP, va_K.moved hW.alike E.2.2.1, E.2.2.2.1.warm hW, hD.weaken (fun _ _ _ _ => trivial)⟩⟩ rfl hn hl.1 hstk (lv_room hW) hd hcs) hS (fun q _ h => jFree E hD hS q h) (jFree E hD hS) (fun r u t H1 locs1 ht hvm hw hB hz1 hk1 hS1 => ?_)
  obtain ⟨rfl, rfl⟩ := hw
  obtain ⟨hP1, hD1⟩ := hB
  rw [ht] at hP1
  exact kk H1 locs1 ls hP1 (hD1.weaken fun _ _ _ h => jFree E hD hS _ h) hS1 hl
theorem j_callSNi (E : jE p s m args meth c cc nL own Ts D tys A) {y : MethodName} {bytes : ByteArray} {maxL index n : Nat} {ret : Option FieldType} {ws : List Cond} {rm : Room} {As rest : List Value} {r0 : Int32} {u0 : S} {host : String} (hM : CtI l D tys wf y ws rm As st r0 u0) (cw : va_CN R s args own index y host bytes maxL ret ws rm 0 0 n ∧ (Cond.static y).before args s = true ∧ True) (hn : As.length = n) (hstk : stk = As.reverse ++ rest) (hW : (rest.map fun v => v.category).sum ≤ 8) (hcs : cells + 0 ≤ R.cells ∧ slots + 0 ≤ R.slots) (hd : decode cc pc = .ok (.invokestatic index, 3)) (kk : J p l e R s m args below meth c nL D A wf Q cells slots u0 (pc + 3) lv (.int r0 :: rest)) : J p l e R s m args below meth c nL D A wf Q cells slots st pc lv stk := by
  intro H locs ls hP hD hS hl
  refine va_calli (va_runSN (As := As) (rest := rest) E.1 (hM H.size) cw ⟨jPc.blind, fun U hU hW => ⟨rfl, by rw [hU], by rw [hU]; exact hP, va_K.moved hW.alike E.2.2.1, E.2.2.2.1.warm hW, hD.weaken (fun _ _ _ _ => trivial)⟩⟩ rfl hn hl.1 hstk (lv_room hW) hd hcs) hS (fun q _ h => jFree E hD hS q h) (jFree E hD hS) (fun r u t H1 locs1 ht hvm hw hB hz1 hk1 hS1 => ?_)
  obtain ⟨rfl, rfl⟩ := hw
  obtain ⟨hP1, hD1⟩ := hB
  rw [ht] at hP1
  exact kk H1 locs1 ls hP1 (hD1.weaken fun _ _ _ h => jFree E hD hS _ h) hS1 hl
theorem j_callVl (E : jE p s m args meth c cc nL own Ts D tys A) {y : MethodName} {bytes : ByteArray} {maxL index n : Nat} {ret : Option FieldType} {ws : List Cond} {rm : Room} {As rest : List Value} {r0 : Int64} {u0 : S} {b ci q0 : Nat} {C : String} {T : u_T} {N : Nat} {fs : List Value} (hM : CtL l D tys wf y ws rm (.ref b :: As) st r0 u0) (cw : CallW R s args own C index y bytes maxL ret ws rm 0 0 n) (he : (wf st)[q0]? = some (b, .inr (ci, fs))) (hc : vwCl[ci]? = some (C, T, N)) (hn : As.length = n) (hstk : stk = As.reverse ++ .ref b :: rest) (hW : (rest.map fun v => v.category).sum ≤ 8) (hcs : cells + 0 ≤ R.cells ∧ slots + 0 ≤ R.slots) (hd : decode cc pc = .ok (.invokevirtual index, 3)) (kk : J p l e R s m args below meth c nL D A wf Q cells slots u0 (pc + 3) lv (.long r0 :: rest)) : J p l e R s m args below meth c nL D A wf Q cells slots st pc lv stk := by
  intro H locs ls hP hD hS hl
  refine va_calll (va_runV (As := As) (rest := rest) E.1 (hM H.size) cw ⟨jPc.blind, va_recv E.2.2.1 hP hc he, fun U hU hW => ⟨rfl, by rw [hU], by rw [hU]; exact hP, va_K.moved hW.alike E.2.2.1, E.2.2.2.1.warm hW, hD.weaken (fun _ _ _ _ => trivial)⟩⟩ rfl hn hl.1 hstk (lv_room hW) hd hcs) hS (fun q _ h => jFree E hD hS q h) (jFree E hD hS) (fun r u t H1 locs1 ht hvm hw hB hz1 hk1 hS1 => ?_)
  obtain ⟨rfl, rfl⟩ := hw
  obtain ⟨hP1, hD1⟩ := hB
  rw [ht] at hP1
  exact kk H1 locs1 ls hP1 (hD1.weaken fun _ _ _ h => jFree E hD hS _ h) hS1 hl
theorem j_callSl (E : jE p s m args meth c cc nL own Ts D tys A) {y : MethodName} {bytes : ByteArray} {maxL index n : Nat} {ret : Option FieldType} {ws : List Cond} {rm : Room} {As rest : List Value} {r0 : Int64} {u0 : S} (hM : CtL l D tys wf y ws rm As st r0 u0) (cw : CallB R s args own index y bytes maxL ret ws rm 0 0 n ∧ (Cond.static y).before args s = true) (hn : As.length = n) (hstk : stk = As.reverse ++ rest) (hW : (rest.map fun v => v.category).sum ≤ 8) (hcs : cells + 0 ≤ R.cells ∧ slots + 0 ≤ R.slots) (hd : decode cc pc = .ok (.invokestatic index, 3)) (kk : J p l e R s m args below meth c nL D A wf Q cells slots u0 (pc + 3) lv (.long r0 :: rest)) : J p l e R s m args below meth c nL D A wf Q cells slots st pc lv stk := by
  intro H locs ls hP hD hS hl
  refine va_calll (va_runS (As := As) (rest := rest) E.1 (hM H.size) cw ⟨jPc.blind, fun U hU hW => ⟨rfl, by rw [hU], by rw [hU]; exact hP, va_K.moved hW.alike E.2.2.1, E.2.2.2.1.warm hW, hD.weaken (fun _ _ _ _ => trivial)⟩⟩ rfl hn hl.1 hstk (lv_room hW) hd hcs) hS (fun q _ h => jFree E hD hS q h) (jFree E hD hS) (fun r u t H1 locs1 ht hvm hw hB hz1 hk1 hS1 => ?_)
  obtain ⟨rfl, rfl⟩ := hw
  obtain ⟨hP1, hD1⟩ := hB
  rw [ht] at hP1
  exact kk H1 locs1 ls hP1 (hD1.weaken fun _ _ _ h => jFree E hD hS _ h) hS1 hl
theorem j_callSNl (E : jE p s m args meth c cc nL own Ts D tys A) {y : MethodName} {bytes : ByteArray} {maxL index n : Nat} {ret : Option FieldType} {ws : List Cond} {rm : Room} {As rest : List Value} {r0 : Int64} {u0 : S} {host : String} (hM : CtL l D tys wf y ws rm As st r0 u0) (cw : va_CN R s args own index y host bytes maxL ret ws rm 0 0 n ∧ (Cond.static y).before args s = true ∧ True) (hn : As.length = n) (hstk : stk = As.reverse ++ rest) (hW : (rest.map fun v => v.category).sum ≤ 8) (hcs : cells + 0 ≤ R.cells ∧ slots + 0 ≤ R.slots) (hd : decode cc pc = .ok (.invokestatic index, 3)) (kk : J p l e R s m args below meth c nL D A wf Q cells slots u0 (pc + 3) lv (.long r0 :: rest)) : J p l e R s m args below meth c nL D A wf Q cells slots st pc lv stk := by
  intro H locs ls hP hD hS hl
  refine va_calll (va_runSN (As := As) (rest := rest) E.1 (hM H.size) cw ⟨jPc.blind, fun U hU hW => ⟨rfl, by rw [hU], by rw [hU]; exact hP, va_K.moved hW.alike E.2.2.1, E.2.2.2.1.warm hW, hD.weaken (fun _ _ _ _ => trivial)⟩⟩ rfl hn hl.1 hstk (lv_room hW) hd hcs) hS (fun q _ h => jFree E hD hS q h) (jFree E hD hS) (fun r u t H1 locs1 ht hvm hw hB hz1 hk1 hS1 => ?_)
  obtain ⟨rfl, rfl⟩ := hw
  obtain ⟨hP1, hD1⟩ := hB
  rw [ht] at hP1
  exact kk H1 locs1 ls hP1 (hD1.weaken fun _ _ _ h => jFree E hD hS _ h) hS1 hl
theorem j_callVv (E : jE p s m args meth c cc nL own Ts D tys A) {y : MethodName} {bytes : ByteArray} {maxL index n : Nat} {ret : Option FieldType} {ws : List Cond} {rm : Room} {As rest : List Value} {u0 : S} {b ci q0 : Nat} {C : String} {T : u_T} {N : Nat} {fs : List Value} (hM : CtV l D tys wf y ws rm (.ref b :: As) st u0) (cw : CallW R s args own C index y bytes maxL ret ws rm 0 0 n) (he : (wf st)[q0]? = some (b, .inr (ci, fs))) (hc : vwCl[ci]? = some (C, T, N)) (hn : As.length = n) (hstk : stk = As.reverse ++ .ref b :: rest) (hW : (rest.map fun v => v.category).sum ≤ 8) (hcs : cells + 0 ≤ R.cells ∧ slots + 0 ≤ R.slots) (hd : decode cc pc = .ok (.invokevirtual index, 3)) (kk : J p l e R s m args below meth c nL D A wf Q cells slots u0 (pc + 3) lv rest) : J p l e R s m args below meth c nL D A wf Q cells slots st pc lv stk := by
  intro H locs ls hP hD hS hl
  refine va_callv (va_runV (As := As) (rest := rest) E.1 (hM H.size) cw ⟨jPc.blind, va_recv E.2.2.1 hP hc he, fun U hU hW => ⟨rfl, by rw [hU], by rw [hU]; exact hP, va_K.moved hW.alike E.2.2.1, E.2.2.2.1.warm hW, hD.weaken (fun _ _ _ _ => trivial)⟩⟩ rfl hn hl.1 hstk (lv_room hW) hd hcs) hS (fun q _ h => jFree E hD hS q h) (jFree E hD hS) (fun u t H1 locs1 ht hvm hw hB hz1 hk1 hS1 => ?_)
  subst hw
  obtain ⟨hP1, hD1⟩ := hB
  rw [ht] at hP1
  exact kk H1 locs1 ls hP1 (hD1.weaken fun _ _ _ h => jFree E hD hS _ h) hS1 hl
theorem j_callSv (E : jE p s m args meth c cc nL own Ts D tys A) {y : MethodName} {bytes : ByteArray} {maxL index n : Nat} {ret : Option FieldType} {ws : List Cond} {rm : Room} {As rest : List Value} {u0 : S} (hM : CtV l D tys wf y ws rm As st u0) (cw : CallB R s args own index y bytes maxL ret ws rm 0 0 n ∧ (Cond.static y).before args s = true) (hn : As.length = n) (hstk : stk = As.reverse ++ rest) (hW : (rest.map fun v => v.category).sum ≤ 8) (hcs : cells + 0 ≤ R.cells ∧ slots + 0 ≤ R.slots) (hd : decode cc pc = .ok (.invokestatic index, 3)) (kk : J p l e R s m args below meth c nL D A wf Q cells slots u0 (pc + 3) lv rest) : J p l e R s m args below meth c nL D A wf Q cells slots st pc lv stk := by
  intro H locs ls hP hD hS hl
  refine va_callv (va_runS (As := As) (rest := rest) E.1 (hM H.size) cw ⟨jPc.blind, fun U hU hW => ⟨rfl, by rw [hU], by rw [hU]; exact hP, va_K.moved hW.alike E.2.2.1, E.2.2.2.1.warm hW, hD.weaken (fun _ _ _ _ => trivial)⟩⟩ rfl hn hl.1 hstk (lv_room hW) hd hcs) hS (fun q _ h => jFree E hD hS q h) (jFree E hD hS) (fun u t H1 locs1 ht hvm hw hB hz1 hk1 hS1 => ?_)
  subst hw
  obtain ⟨hP1, hD1⟩ := hB
  rw [ht] at hP1
  exact kk H1 locs1 ls hP1 (hD1.weaken fun _ _ _ h => jFree E hD hS _ h) hS1 hl
theorem j_callSNv (E : jE p s m args meth c cc nL own Ts D tys A) {y : MethodName} {bytes : ByteArray} {maxL index n : Nat} {ret : Option FieldType} {ws : List Cond} {rm : Room} {As rest : List Value} {u0 : S} {host : String} (hM : CtV l D tys wf y ws rm As st u0) (cw : va_CN R s args own index y host bytes maxL ret ws rm 0 0 n ∧ (Cond.static y).before args s = true ∧ True) (hn : As.length = n) (hstk : stk = As.reverse ++ rest) (hW : (rest.map fun v => v.category).sum ≤ 8) (hcs : cells + 0 ≤ R.cells ∧ slots + 0 ≤ R.slots) (hd : decode cc pc = .ok (.invokestatic index, 3)) (kk : J p l e R s m args below meth c nL D A wf Q cells slots u0 (pc + 3) lv rest) : J p l e R s m args below meth c nL D A wf Q cells slots st pc lv stk := by
  intro H locs ls hP hD hS hl
  refine va_callv (va_runSN (As := As) (rest := rest) E.1 (hM H.size) cw ⟨jPc.blind, fun U hU hW => ⟨rfl, by rw [hU], by rw [hU]; exact hP, va_K.moved hW.alike E.2.2.1, E.2.2.2.1.warm hW, hD.weaken (fun _ _ _ _ => trivial)⟩⟩ rfl hn hl.1 hstk (lv_room hW) hd hcs) hS (fun q _ h => jFree E hD hS q h) (jFree E hD hS) (fun u t H1 locs1 ht hvm hw hB hz1 hk1 hS1 => ?_)
  subst hw
  obtain ⟨hP1, hD1⟩ := hB
  rw [ht] at hP1
  exact kk H1 locs1 ls hP1 (hD1.weaken fun _ _ _ h => jFree E hD hS _ h) hS1 hl
theorem j_copyi (E : jE p s m args meth c cc nL own Ts D tys A) (q0 t0 : Nat) {a : Nat} {cA : ClassId} {n0 : Nat} {f : Nat → Int32} {index : Nat} {sp dp n : Int32} (ha : (wf st)[q0]? = some (a, .inl (cA, n0, .inl f))) (ht : tys[t0]? = some (cA, .int)) (hset : (wf st).set q0 (a, .inl (cA, n0, .inl (va_cpy f f sp.toNatClampNeg dp.toNatClampNeg n.toNatClampNeg))) = wf st') (hb : (¬ sp < 0 ∧ ¬ dp < 0 ∧ ¬ n < 0) ∧ sp.toNatClampNeg + n.toNatClampNeg ≤ n0 ∧ dp.toNatClampNeg + n.toNatClampNeg ≤ n0) (hlink : Cond.methodLink own index arraycopyName ∈ Ts) (hnat : Cond.native arraycopyName ∈ Ts) (hstat : Cond.static arraycopyName ∈ Ts) (hini : Cond.initialized "java/lang/System" ∈ Ts) (hfr : 1 ≤ R.frames) (hlo : (stk.map fun v => v.category).sum + (nativeFrameWords "java/lang/System" "arraycopy" 5 + 11) ≤ R.locals) (hd : decode cc pc = .ok (.invokestatic index, 3)) (kk : J p l e R s m args below meth c nL D A wf Q cells slots st' (pc + 3) lv stk) : J p l e R s m args below meth c nL D A wf Q cells slots st pc lv (.int n :: .int dp :: .ref a :: .int sp :: .ref a :: stk) :=
  fun H locs ls hP hD hS hl => va_copyi E.1.1 E.1.2.1 (E.1.2.2.1.trans hl.1.symm) E.1.2.2.2.1 (E.1.2.2.2.2 _ hlink) (E.1.2.2.2.2 _ hnat) (E.1.2.2.2.2 _ hstat) (E.1.2.2.2.2 _ hini) E.2.2.1 hP hD hS q0 q0 t0 t0 ha ha ht ht rfl hb.1.1 hb.1.2.1 hb.1.2.2 hb.2.1 hb.2.2 (fun _ _ => rfl) hfr hlo hd (fun H1 locs1 hP1 hD1 hS1 => kk H1 locs1 ls (hset ▸ hP1) (hset ▸ hD1) hS1 hl)
theorem j_callS1v (E : jE p s m args meth c cc nL own Ts D tys A) {y : MethodName} {bytes : ByteArray} {maxL index k q0 n a : Nat} {ret : Option FieldType} {ws : List Cond} {rm : Room} {As rest : List Value} {cA : ClassId} {f g : Nat → Int32} (hM : CtV l D tys (fun z : Nat → Int32 => ([(a, .inl (cA, n, .inl z))] : va_W)) y ws rm As f g) (cw : CallB R s args own index y bytes maxL ret ws rm 0 0 k ∧ (Cond.static y).before args s = true) (ha : (wf st)[q0]? = some (a, .inl (cA, n, .inl f))) (hset : (wf st).set q0 (a, .inl (cA, n, .inl g)) = wf st') (hn : As.length = k) (hstk : stk = As.reverse ++ rest) (hW : (rest.map fun v => v.category).sum ≤ 8) (hcs : cells + 0 ≤ R.cells ∧ slots + 0 ≤ R.slots) (hd : decode cc pc = .ok (.invokestatic index, 3)) (kk : J p l e R s m args below meth c nL D A wf Q cells slots st' (pc + 3) lv rest) : J p l e R s m args below meth c nL D A wf Q cells slots st pc lv stk := by
  intro H locs ls hP hD hS hl
  have hPc : va_P D vwCl ([(a, .inl (cA, n, .inl f))] : va_W) H := hP.sub [q0] (by simp [ha])
  have hDc : va_D A ([(a, .inl (cA, n, .inl f))] : va_W) := hD.sub [q0] rfl (by simp [ha])
  have hFc : ∀ q, va_A ([(a, .inl (cA, n, .inl f))] : va_W) H.size q → A q := va_free hD hS E.2.2.2.2 [q0] (by simp [ha])
  refine va_callv (va_runS (As := As) (rest := rest) E.1 (hM H.size) cw ⟨jPc.blind, fun U hU hW => ⟨rfl, by rw [hU], by rw [hU]; exact hPc, va_K.moved hW.alike E.2.2.1, E.2.2.2.1.warm hW, hDc.weaken (fun _ _ _ _ => trivial)⟩⟩ rfl hn hl.1 hstk (lv_room hW) hd hcs) hS (fun q _ h => hFc q h) hFc (fun u t H1 locs1 ht hvm hw hB hz1 hk1 hS1 => ?_)
  subst hw
  obtain ⟨hP1, hD1⟩ := hB
  rw [ht] at hP1
  have hP2 : va_P D vwCl ((wf st).set q0 (a, .inl (cA, n, .inl u))) H1 := by
    intro k2 q hk2
    by_cases hkq : k2 = q0
    · subst hkq
      have hlt : k2 < (wf st).length := (List.getElem?_eq_some_iff.mp ha).1
      rw [List.getElem?_set_self hlt] at hk2
      cases hk2
      exact hP1 0 _ rfl
    · rw [List.getElem?_set_ne (Ne.symm hkq)] at hk2
      refine (hP k2 q hk2).kept (hk1 q.1 (hP k2 q hk2).lt ?_)
      rintro (⟨j, e9, hj⟩ | hj)
      · cases j with
        | zero =>
          have e1 : a = q.1 := congrArg (fun z => z.1) (Option.some.inj hj)
          exact hkq (hD.1 k2 q0 q (a, .inl (cA, n, .inl f)) hk2 ha e1.symm)
        | succ j => simp at hj
      · exact absurd (hP k2 q hk2).lt (Nat.not_lt.mpr hj)
  exact kk H1 locs1 ls (hset ▸ hP2) (hset ▸ hD.set ha) hS1 hl
end JJ1
section JJ2
variable {l : Launch} {D : va_G} {tys : List (ClassId × FieldType)} {S : Type} {wf : S → va_W}
theorem ctI_of {ty : FieldType} {y : MethodName} {ws ws' : List Cond} {rm : Room} {cc : ByteArray} {nL : Nat} {own : String} {av : List Value} {st : S} {o : Int32 × S} {lv0 : List (Nat × Value)} (hy : plainName y.cls = true) (hw : ws = Cond.code y cc nL (some ty) :: ws') (hown : y.cls = own) (hlen : (lg_sl av).length ≤ nL) (hlv : lv_args 0 av = lv0)
    (body : ∀ (p : Program) (e : Env) (s : State) (m : MethodId) (args : Array Value) (below : List Frame) (meth : Method) (c : Code) (A : Nat → Prop), jE p s m args meth c cc nL own ws D tys A → meth.sig.returnType = (some ty) → J p l e rm s m args below meth c nL D A wf (jZI D wf A below args s o) 0 0 st 0 lv0 []) : CtI l D tys wf y ws rm av st o.1 o.2 := by
  intro sz
  refine Met.ofW (cc := cc) (maxL := nL) (ret := (some ty)) hy hw ?_
  intro p e s m args below meth c s₁ B hml hv
  obtain ⟨rfl, hsz, hP, hK, hN, hD0⟩ := hv
  subst hsz
  have hts := atoms_spec (ws := ws) B.pre
  have hown' : s.vm.findClass own = some m.cls := by rw [← hown]; exact findClass_of_methodNamed B.named
  have hD := hD0.self (sz := s.heap.size)
  have hl := lv_entry av (n := nL) hlen
  rw [lg_entry_eq]
  exact body p e s m _ below meth c _ ⟨⟨B.exec, B.bytes, hml, hown', hts⟩, B.notSynchronized, hK, hN, fun q h => Or.inr h⟩ B.returns s.heap [] _ hP hD va_S.rf (hlv ▸ hl)
theorem ctL_of  {y : MethodName} {ws ws' : List Cond} {rm : Room} {cc : ByteArray} {nL : Nat} {own : String} {av : List Value} {st : S} {o : Int64 × S} {lv0 : List (Nat × Value)} (hy : plainName y.cls = true) (hw : ws = Cond.code y cc nL (some .long) :: ws') (hown : y.cls = own) (hlen : (lg_sl av).length ≤ nL) (hlv : lv_args 0 av = lv0)
    (body : ∀ (p : Program) (e : Env) (s : State) (m : MethodId) (args : Array Value) (below : List Frame) (meth : Method) (c : Code) (A : Nat → Prop), jE p s m args meth c cc nL own ws D tys A → meth.sig.returnType = (some .long) → J p l e rm s m args below meth c nL D A wf (jZL D wf A below args s o) 0 0 st 0 lv0 []) : CtL l D tys wf y ws rm av st o.1 o.2 := by
  intro sz
  refine Met.ofW (cc := cc) (maxL := nL) (ret := (some .long)) hy hw ?_
  intro p e s m args below meth c s₁ B hml hv
  obtain ⟨rfl, hsz, hP, hK, hN, hD0⟩ := hv
  subst hsz
  have hts := atoms_spec (ws := ws) B.pre
  have hown' : s.vm.findClass own = some m.cls := by rw [← hown]; exact findClass_of_methodNamed B.named
  have hD := hD0.self (sz := s.heap.size)
  have hl := lv_entry av (n := nL) hlen
  rw [lg_entry_eq]
  exact body p e s m _ below meth c _ ⟨⟨B.exec, B.bytes, hml, hown', hts⟩, B.notSynchronized, hK, hN, fun q h => Or.inr h⟩ B.returns s.heap [] _ hP hD va_S.rf (hlv ▸ hl)
theorem ctV_of  {y : MethodName} {ws ws' : List Cond} {rm : Room} {cc : ByteArray} {nL : Nat} {own : String} {av : List Value} {st : S} {o : S} {lv0 : List (Nat × Value)} (hy : plainName y.cls = true) (hw : ws = Cond.code y cc nL none :: ws') (hown : y.cls = own) (hlen : (lg_sl av).length ≤ nL) (hlv : lv_args 0 av = lv0)
    (body : ∀ (p : Program) (e : Env) (s : State) (m : MethodId) (args : Array Value) (below : List Frame) (meth : Method) (c : Code) (A : Nat → Prop), jE p s m args meth c cc nL own ws D tys A → meth.sig.returnType = none → J p l e rm s m args below meth c nL D A wf (jZV D wf A below args s o) 0 0 st 0 lv0 []) : CtV l D tys wf y ws rm av st o := by
  intro sz
  refine Met.ofW (cc := cc) (maxL := nL) (ret := none) hy hw ?_
  intro p e s m args below meth c s₁ B hml hv
  obtain ⟨rfl, hsz, hP, hK, hN, hD0⟩ := hv
  subst hsz
  have hts := atoms_spec (ws := ws) B.pre
  have hown' : s.vm.findClass own = some m.cls := by rw [← hown]; exact findClass_of_methodNamed B.named
  have hD := hD0.self (sz := s.heap.size)
  have hl := lv_entry av (n := nL) hlen
  rw [lg_entry_eq]
  exact body p e s m _ below meth c _ ⟨⟨B.exec, B.bytes, hml, hown', hts⟩, B.notSynchronized, hK, hN, fun q h => Or.inr h⟩ B.returns s.heap [] _ hP hD va_S.rf (hlv ▸ hl)
end JJ2
