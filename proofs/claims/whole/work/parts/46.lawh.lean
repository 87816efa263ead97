/-! What the law wants: a relation Rel between the class's state and the reference's, kept by every call, under which they answer alike (LawHyp); then the law's cases, its loop, its start. -/
abbrev LHw (Rel : jS → jS → Prop) (fx : jSP → Option (Int32 × jSP)) (fm : jS → Option (Int32 × jS)) (x : jS) (out : Nat → Int64) (ms : jS) : Prop := ∃ (o : Int32 × jSP) (q : Int32 × jS), fx (x, out) = some o ∧ fm ms = some q ∧ q.2.2 0 = o.1 ∧ (o.1 = 0 → o.2.2 (0 : Int32).toNatClampNeg = q.1.toInt64) ∧ Rel o.2.1 q.2
abbrev LHz (Rel : jS → jS → Prop) (fx : jSP → Option (Int32 × jSP)) (fm : jS → Option (Int32 × jS)) (x : jS) (out : Nat → Int64) (ms : jS) : Prop := ∃ (o : Int32 × jSP) (q : Int32 × jS), fx (x, out) = some o ∧ fm ms = some q ∧ q.2.2 0 = o.1 ∧ (o.1 = 0 → o.2.2 (0 : Int32).toNatClampNeg = if q.1 = 0 then 0 else 1) ∧ Rel o.2.1 q.2
abbrev LHg (Rel : jS → jS → Prop) (fx fm : jS → Option (Int32 × jS)) (x ms : jS) : Prop := ∃ (o q : Int32 × jS), fx x = some o ∧ fm ms = some q ∧ o.1 = q.1 ∧ Rel o.2 q.2
abbrev LHl (Rel : jS → jS → Prop) (fx fm : jS → Option (Int64 × jS)) (x ms : jS) : Prop := ∃ (o q : Int64 × jS), fx x = some o ∧ fm ms = some q ∧ o.1 = q.1 ∧ Rel o.2 q.2
def LH_plain (Rel : jS → jS → Prop) : Prop := ∀ (x ms : jS) (out : Nat → Int64) (a1 : Int32), Rel x ms → LHw Rel (fun u => f_L_plain u a1) (fun z => f_X6_plain z a1) x out ms
def LH_range (Rel : jS → jS → Prop) : Prop := ∀ (x ms : jS) (out : Nat → Int64) (a1 : Int32) (a2 : Int32), Rel x ms → LHw Rel (fun u => f_L_range u a1 a2) (fun z => f_X6_range z a1 a2) x out ms
def LH_rule (Rel : jS → jS → Prop) : Prop := ∀ (x ms : jS) (out : Nat → Int64) (a1 : Int32), Rel x ms → LHw Rel (fun u => f_L_rule u a1) (fun z => f_X6_rule z a1) x out ms
def LH_join (Rel : jS → jS → Prop) : Prop := ∀ (x ms : jS) (out : Nat → Int64) (a1 : Int32) (a2 : Int32) (a3 : Int32), Rel x ms → LHw Rel (fun u => f_L_join u a1 a2 a3) (fun z => f_X6_join z a1 a2 a3) x out ms
def LH_wrap (Rel : jS → jS → Prop) : Prop := ∀ (x ms : jS) (out : Nat → Int64) (a1 : Int32) (a2 : Int32), Rel x ms → LHw Rel (fun u => f_L_wrap u a1 a2) (fun z => f_X6_wrap z a1 a2) x out ms
def LH_define (Rel : jS → jS → Prop) : Prop := ∀ (x ms : jS) (out : Nat → Int64) (a1 : Int32) (a2 : Int32), Rel x ms → LHw Rel (fun u => f_L_define u a1 a2) (fun z => f_X6_define z a1 a2) x out ms
def LH_expressionCount (Rel : jS → jS → Prop) : Prop := ∀ (x ms : jS), Rel x ms → LHg Rel f_X5_expressionCount f_X6_expressionCount x ms
def LH_canBeEmpty (Rel : jS → jS → Prop) : Prop := ∀ (x ms : jS) (out : Nat → Int64) (a1 : Int32), Rel x ms → LHz Rel (fun u => f_L_canBeEmpty u a1) (fun z => f_X6_canBeEmpty z a1) x out ms
def LH_isLeftRecursive (Rel : jS → jS → Prop) : Prop := ∀ (x ms : jS) (out : Nat → Int64) (a1 : Int32), Rel x ms → LHz Rel (fun u => f_L_isLeftRecursive u a1) (fun z => f_X6_isLeftRecursive z a1) x out ms
def LH_replace (Rel : jS → jS → Prop) : Prop := ∀ (x ms : jS) (out : Nat → Int64) (a1 : Int32) (a2 : Int32) (a3 : Int64), Rel x ms → LHw Rel (fun u => f_L_replace u a1 a2 a3) (fun z => f_X6_replace z a1 a2 a3) x out ms
def LH_size (Rel : jS → jS → Prop) : Prop := ∀ (x ms : jS), Rel x ms → LHg Rel f_X5_size f_X6_size x ms
def LH_byteAt (Rel : jS → jS → Prop) : Prop := ∀ (x ms : jS) (out : Nat → Int64) (a1 : Int32), Rel x ms → LHw Rel (fun u => f_L_byteAt u a1) (fun z => f_X6_byteAt z a1) x out ms
def LH_parse (Rel : jS → jS → Prop) : Prop := ∀ (x ms : jS) (out : Nat → Int64) (a1 : Int32) (a2 : Int32), Rel x ms → LHw Rel (fun u => f_L_parse u a1 a2) (fun z => f_X6_parseT z a1 a2) x out ms
def LH_work (Rel : jS → jS → Prop) : Prop := ∀ (x ms : jS), Rel x ms → LHg Rel f_X5_work f_X6_work x ms
def LH_hits (Rel : jS → jS → Prop) : Prop := ∀ (x ms : jS), Rel x ms → LHg Rel f_X5_hits f_X6_hits x ms
def LH_growths (Rel : jS → jS → Prop) : Prop := ∀ (x ms : jS), Rel x ms → LHg Rel f_X5_growths f_X6_growths x ms
def LH_farthest (Rel : jS → jS → Prop) : Prop := ∀ (x ms : jS), Rel x ms → LHg Rel f_X5_farthest f_X6_farthest x ms
def LH_remembered (Rel : jS → jS → Prop) : Prop := ∀ (x ms : jS), Rel x ms → LHg Rel f_X5_remembered f_X6_remembered x ms
def LH_result (Rel : jS → jS → Prop) : Prop := ∀ (x ms : jS) (out : Nat → Int64) (a1 : Int32) (a2 : Int32), Rel x ms → LHw Rel (fun u => f_L_result u a1 a2) (fun z => f_X6_result z a1 a2) x out ms
def LH_reach (Rel : jS → jS → Prop) : Prop := ∀ (x ms : jS) (out : Nat → Int64) (a1 : Int32) (a2 : Int32), Rel x ms → LHw Rel (fun u => f_L_reach u a1 a2) (fun z => f_X6_reach z a1 a2) x out ms
def LH_forget (Rel : jS → jS → Prop) : Prop := ∀ (x ms : jS), Rel x ms → LHg Rel f_X5_forget f_X6_forget x ms
def LH_digest (Rel : jS → jS → Prop) : Prop := ∀ (x ms : jS), Rel x ms → LHl Rel f_X5_digest f_X6_digest x ms
def LawHyp (Rel : jS → jS → Prop) : Prop := LH_plain Rel ∧ LH_range Rel ∧ LH_rule Rel ∧ LH_join Rel ∧ LH_wrap Rel ∧ LH_define Rel ∧ LH_expressionCount Rel ∧ LH_canBeEmpty Rel ∧ LH_isLeftRecursive Rel ∧ LH_replace Rel ∧ LH_size Rel ∧ LH_byteAt Rel ∧ LH_parse Rel ∧ LH_work Rel ∧ LH_hits Rel ∧ LH_growths Rel ∧ LH_farthest Rel ∧ LH_remembered Rel ∧ LH_result Rel ∧ LH_reach Rel ∧ LH_forget Rel ∧ LH_digest Rel
theorem lgc {x y : Int64} (h : x = y) : lg_cmp x y = 0 := by
  subst h
  have h1 : ¬ x > x := Int64.lt_irrefl
  unfold lg_cmp
  rw [if_neg h1, if_pos rfl]
theorem jsk {t L k : Nat} (hk : k < 5) (h : 5 * t + 5 ≤ L) (hL : L ≤ 2560) : vp_in (nI (5 * t) + nI k) L := by
  rw [nI_add]
  exact vp_in_nI (by omega) (by omega)
theorem js0 {t L : Nat} (h : 5 * t + 5 ≤ L) (hL : L ≤ 2560) : vp_in (nI (5 * t)) L := vp_in_nI (by omega) (by omega)
theorem jgo {t L : Nat} (hL : L ≤ 2560) (ht : 5 * t ≤ L) (h : ¬ nI (5 * t) > Int32.ofNat L - 5) : 5 * t + 5 ≤ L := by
  by_cases h5 : 5 ≤ L
  · have e : Int32.ofNat L - 5 = nI (L - 5) := by
      have e1 : Int32.ofNat L = nI (L - 5) + nI 5 := by rw [nI_add, Nat.sub_add_cancel h5]; rfl
      rw [e1, show nI 5 = (5 : Int32) from rfl]
      exact Int32.add_sub_cancel _ _
    rw [e] at h
    have h2 : ¬ nI (L - 5) < nI (5 * t) := h
    rw [nI_ltI (by omega) (by omega)] at h2
    omega
  · exfalso
    apply h
    have hL' : L = 0 ∨ L = 1 ∨ L = 2 ∨ L = 3 ∨ L = 4 := by omega
    have ht' : t = 0 := by omega
    subst ht'
    rcases hL' with rfl | rfl | rfl | rfl | rfl <;> decide
section LR1
variable {p : Program} {l : Launch} {e : Env} {R : Room} {s : State} {m : MethodId} {args : Array Value} {below : List Frame} {meth : Method} {c : Code} {cells slots : Nat} {Q : State → Prop} {cc : ByteArray} {nL : Nat} {own : String} {Ts : List Cond} {D : va_G} {tys : List (ClassId × FieldType)} {A : Nat → Prop} {S : Type} {wf : S → va_W} {st : S} {pc : Nat} {lv : List (Nat × Value)} {stk : List Value}
theorem j_sld (E : jE p s m args meth c cc nL own Ts D tys A) {b L : Nat} {xs : Nat → Int32} (hX : va_X b L xs s s.heap) (hbl : b < s.heap.size) (hbA : ¬ A b) {i : Int32} (hin : vp_in i L) (hd : decode cc pc = .ok (.iaload, 1)) (kk : J p l e R s m args below meth c nL D A wf Q cells slots st (pc + 1) lv (.int (xs i.toNatClampNeg) :: stk)) : J p l e R s m args below meth c nL D A wf Q cells slots st pc lv (.int i :: .ref b :: stk) :=
  fun H locs ls hP hD hS hl => va_sld E.1.1 E.1.2.1 hX hbl hbA hS hin hd (kk H locs ls hP hD hS hl)
theorem j_slen (E : jE p s m args meth c cc nL own Ts D tys A) {b L : Nat} {xs : Nat → Int32} (hX : va_X b L xs s s.heap) (hbl : b < s.heap.size) (hbA : ¬ A b) (hd : decode cc pc = .ok (.arraylength, 1)) (kk : J p l e R s m args below meth c nL D A wf Q cells slots st (pc + 1) lv (.int (Int32.ofNat L) :: stk)) : J p l e R s m args below meth c nL D A wf Q cells slots st pc lv (.ref b :: stk) :=
  fun H locs ls hP hD hS hl => va_slen E.1.1 E.1.2.1 hX hbl hbA hS hd (kk H locs ls hP hD hS hl)
theorem j_widen {k n : Nat} (h1 : cells ≤ k) (h2 : slots ≤ n) (kk : J p l e R s m args below meth c nL D A wf Q k n st pc lv stk) : J p l e R s m args below meth c nL D A wf Q cells slots st pc lv stk :=
  fun H locs ls hP hD hS hl => W.widen h1 h2 (kk H locs ls hP hD hS hl)
theorem j_wf {S' : Type} {wf' : S' → va_W} {st' : S'} (h : wf st = wf' st') (kk : J p l e R s m args below meth c nL D A wf' Q cells slots st' pc lv stk) : J p l e R s m args below meth c nL D A wf Q cells slots st pc lv stk :=
  fun H locs ls hP hD hS hl => kk H locs ls (h ▸ hP) (h ▸ hD) hS hl
end LR1
theorem jOut0_21 {x : Int32} (h0 : ¬ x = 0) (h1 : ¬ x = 1) (h2 : ¬ x = 2) (h3 : ¬ x = 3) (h4 : ¬ x = 4) (h5 : ¬ x = 5) (h6 : ¬ x = 6) (h7 : ¬ x = 7) (h8 : ¬ x = 8) (h9 : ¬ x = 9) (h10 : ¬ x = 10) (h11 : ¬ x = 11) (h12 : ¬ x = 12) (h13 : ¬ x = 13) (h14 : ¬ x = 14) (h15 : ¬ x = 15) (h16 : ¬ x = 16) (h17 : ¬ x = 17) (h18 : ¬ x = 18) (h19 : ¬ x = 19) (h20 : ¬ x = 20) (h21 : ¬ x = 21) : x.toInt < 0 ∨ 21 < x.toInt := by
  by_cases p1 : x.toInt < 0
  · exact Or.inl p1
  · by_cases p2 : 21 < x.toInt
    · exact Or.inr p2
    exfalso
    by_cases q0 : x.toInt = 0
    · exact absurd ((jOut_int q0).trans (by decide)) h0
    by_cases q1 : x.toInt = 1
    · exact absurd ((jOut_int q1).trans (by decide)) h1
    by_cases q2 : x.toInt = 2
    · exact absurd ((jOut_int q2).trans (by decide)) h2
    by_cases q3 : x.toInt = 3
    · exact absurd ((jOut_int q3).trans (by decide)) h3
    by_cases q4 : x.toInt = 4
    · exact absurd ((jOut_int q4).trans (by decide)) h4
    by_cases q5 : x.toInt = 5
    · exact absurd ((jOut_int q5).trans (by decide)) h5
    by_cases q6 : x.toInt = 6
    · exact absurd ((jOut_int q6).trans (by decide)) h6
    by_cases q7 : x.toInt = 7
    · exact absurd ((jOut_int q7).trans (by decide)) h7
    by_cases q8 : x.toInt = 8
    · exact absurd ((jOut_int q8).trans (by decide)) h8
    by_cases q9 : x.toInt = 9
    · exact absurd ((jOut_int q9).trans (by decide)) h9
    by_cases q10 : x.toInt = 10
    · exact absurd ((jOut_int q10).trans (by decide)) h10
    by_cases q11 : x.toInt = 11
    · exact absurd ((jOut_int q11).trans (by decide)) h11
    by_cases q12 : x.toInt = 12
    · exact absurd ((jOut_int q12).trans (by decide)) h12
    by_cases q13 : x.toInt = 13
    · exact absurd ((jOut_int q13).trans (by decide)) h13
    by_cases q14 : x.toInt = 14
    · exact absurd ((jOut_int q14).trans (by decide)) h14
    by_cases q15 : x.toInt = 15
    · exact absurd ((jOut_int q15).trans (by decide)) h15
    by_cases q16 : x.toInt = 16
    · exact absurd ((jOut_int q16).trans (by decide)) h16
    by_cases q17 : x.toInt = 17
    · exact absurd ((jOut_int q17).trans (by decide)) h17
    by_cases q18 : x.toInt = 18
    · exact absurd ((jOut_int q18).trans (by decide)) h18
    by_cases q19 : x.toInt = 19
    · exact absurd ((jOut_int q19).trans (by decide)) h19
    by_cases q20 : x.toInt = 20
    · exact absurd ((jOut_int q20).trans (by decide)) h20
    by_cases q21 : x.toInt = 21
    · exact absurd ((jOut_int q21).trans (by decide)) h21
    omega
def R_law : String := "MemoParserLaw"
def lw_P (b : Addr) (xs : List Int32) (args : Array Value) (s : State) : Prop := args = #[.ref b] ∧ s.IntsAt b xs ∧ xs.length ≤ 2560 ∧ (Jvm.Cond.and given_1 narrow_1).before args s = true
def lw_Q (_ : Array Value) (s : State) (o : Outcome) (t : State) : Prop := o = .returned (some (.int 1)) ∧ Framed s o t [] 601024 7293034
def lw_Z (below : List Frame) (a : Array Value) (s : State) : State → Prop := fun t => ∃ o, t.status = .running ∧ Ended t below o ∧ lw_Q a s o t
/-- the law's own end, with 1 on the stack, nothing written that was there before, its room as the claim has it -/
theorem lw_ret {p : Program} {l : Launch} {e : Env} {s : State} {m : MethodId} {below : List Frame} {meth : Method} {c : Code} {b : Nat} (hx : p.tables.exec = Jvm.exec) (hb : c.code = code) (hr : meth.sig.returnType = ret) (hlocks : meth.locks = false) {pc : Nat} {H : Heap} {ls : Array Slot} (hdg : decode code pc = .ok (.ireturn, 1)) : W p l e room_1 s m #[Value.ref b] below meth c H [] 601024 7293034 (lw_Z below #[Value.ref b] s) (F0 m pc ls [.int 1]) := by
  intro T hT X
  obtain ⟨fs, hret, hrun, hended, hW, hframe⟩ := X.leave (v := some (.int 1)) (hlocks := hlocks) (fun h => by rw [hr] at h; cases h)
  have hmeth' : T.vm.method? m = some meth := X.method'
  refine ⟨T.setFrames fs, ?_, .returned (some (.int 1)), hrun, hended, rfl, ⟨_, rfl⟩, hW, hframe⟩
  jvm_step X.here [X.here.top, hx, hb, hdg, hmeth', hr, ret, narrow_b1]
  (try refine ⟨rfl, ?_⟩); (try refine ⟨rfl, ?_⟩)
  first | (intro acts; rw [hret _ acts rfl rfl rfl]) | rw [hret _ _ rfl rfl rfl]
  exact Steps.refl _
/-- what holds at the law's entry: the machine, the code, the tables' words (any of lw_tbl by 'hts w (by decide +kernel)'), the script of L ints xs at the cell b, what the Statement gives of the start (any of its parts by flat_of_before) -/
def lw_At (p : Program) (s : State) (m : MethodId) (meth : Method) (c : Code) (b L : Nat) (xs : Nat → Int32) : Prop :=
  p.tables.exec = Jvm.exec ∧ c.code = code ∧ meth.sig.returnType = ret ∧ c.maxLocals = 7 ∧ s.vm.findClass R_law = some m.cls ∧ (∀ w ∈ lw_tbl, w.before #[Value.ref b] s = true) ∧ va_X b L xs s s.heap ∧ b < s.heap.size ∧ meth.locks = false ∧ (Jvm.Cond.and given_1 narrow_1).before #[Value.ref b] s = true
