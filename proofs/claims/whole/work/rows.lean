section
-- ===== PART A: goes FIRST, ahead of the names: the tables' words, and 'selects' of the private methods out of them =====
/-- a private method of a class that the tables say can be made, by its rows of tables_1 -/
def lw_okq (q : MethodName × Nat) : Prop := (q.1.cls ≠ "java/lang/invoke/MethodHandle" ∧ q.1.cls ≠ "java/lang/invoke/VarHandle") ∧ Cond.instantiable q.1.cls q.2 ∈ tables_1 ∧ Cond.privateMethod q.1 ∈ tables_1 ∧ Cond.instanceMethod q.1 ∈ tables_1
theorem lw_p0 : lw_okq (⟨"MemoParser$Memory", "drop", "(I)V"⟩, 3) := ⟨⟨by decide +kernel, by decide +kernel⟩, List.mem_of_getElem? (i := 81) (by decide +kernel), List.mem_of_getElem? (i := 243) (by decide +kernel), List.mem_of_getElem? (i := 244) (by decide +kernel)⟩
theorem lw_p1 : lw_okq (⟨"java/lang/Throwable", "fillInStackTrace", "(I)Ljava/lang/Throwable;"⟩, 6) := ⟨⟨by decide +kernel, by decide +kernel⟩, List.mem_of_getElem? (i := 322) (by decide +kernel), List.mem_of_getElem? (i := 320) (by decide +kernel), List.mem_of_getElem? (i := 321) (by decide +kernel)⟩
theorem lw_p2 : lw_okq (⟨"MemoParser", "refuseIfFull", "()V"⟩, 4) := ⟨⟨by decide +kernel, by decide +kernel⟩, List.mem_of_getElem? (i := 18) (by decide +kernel), List.mem_of_getElem? (i := 352) (by decide +kernel), List.mem_of_getElem? (i := 353) (by decide +kernel)⟩
theorem lw_p3 : lw_okq (⟨"MemoParser", "refuseUnknownExpression", "(I)V"⟩, 4) := ⟨⟨by decide +kernel, by decide +kernel⟩, List.mem_of_getElem? (i := 18) (by decide +kernel), List.mem_of_getElem? (i := 425) (by decide +kernel), List.mem_of_getElem? (i := 426) (by decide +kernel)⟩
theorem lw_p4 : lw_okq (⟨"MemoParser$Grammar", "findEmpties", "()V"⟩, 8) := ⟨⟨by decide +kernel, by decide +kernel⟩, List.mem_of_getElem? (i := 26) (by decide +kernel), List.mem_of_getElem? (i := 465) (by decide +kernel), List.mem_of_getElem? (i := 466) (by decide +kernel)⟩
theorem lw_p5 : lw_okq (⟨"MemoParser$Grammar", "isEmptyByForm", "(I)Z"⟩, 8) := ⟨⟨by decide +kernel, by decide +kernel⟩, List.mem_of_getElem? (i := 26) (by decide +kernel), List.mem_of_getElem? (i := 472) (by decide +kernel), List.mem_of_getElem? (i := 473) (by decide +kernel)⟩
theorem lw_p6 : lw_okq (⟨"MemoParser$Grammar", "addEmptyRules", "()Z"⟩, 8) := ⟨⟨by decide +kernel, by decide +kernel⟩, List.mem_of_getElem? (i := 26) (by decide +kernel), List.mem_of_getElem? (i := 476) (by decide +kernel), List.mem_of_getElem? (i := 477) (by decide +kernel)⟩
theorem lw_p7 : lw_okq (⟨"MemoParser$Grammar", "findBeginnings", "()V"⟩, 8) := ⟨⟨by decide +kernel, by decide +kernel⟩, List.mem_of_getElem? (i := 26) (by decide +kernel), List.mem_of_getElem? (i := 492) (by decide +kernel), List.mem_of_getElem? (i := 493) (by decide +kernel)⟩
theorem lw_p8 : lw_okq (⟨"MemoParser$Grammar", "beginningsByForm", "(I)I"⟩, 8) := ⟨⟨by decide +kernel, by decide +kernel⟩, List.mem_of_getElem? (i := 26) (by decide +kernel), List.mem_of_getElem? (i := 496) (by decide +kernel), List.mem_of_getElem? (i := 497) (by decide +kernel)⟩
theorem lw_p9 : lw_okq (⟨"MemoParser$Grammar", "beginningsOfRule", "(I)I"⟩, 8) := ⟨⟨by decide +kernel, by decide +kernel⟩, List.mem_of_getElem? (i := 26) (by decide +kernel), List.mem_of_getElem? (i := 503) (by decide +kernel), List.mem_of_getElem? (i := 504) (by decide +kernel)⟩
theorem lw_p10 : lw_okq (⟨"MemoParser$Memory", "move", "(II)V"⟩, 3) := ⟨⟨by decide +kernel, by decide +kernel⟩, List.mem_of_getElem? (i := 81) (by decide +kernel), List.mem_of_getElem? (i := 534) (by decide +kernel), List.mem_of_getElem? (i := 535) (by decide +kernel)⟩
theorem lw_p11 : lw_okq (⟨"MemoParser", "refuseUnknownPlace", "(I)V"⟩, 4) := ⟨⟨by decide +kernel, by decide +kernel⟩, List.mem_of_getElem? (i := 18) (by decide +kernel), List.mem_of_getElem? (i := 571) (by decide +kernel), List.mem_of_getElem? (i := 572) (by decide +kernel)⟩
theorem lw_p12 : lw_okq (⟨"MemoParser$Search", "lookForRule", "(III)I"⟩, 9) := ⟨⟨by decide +kernel, by decide +kernel⟩, List.mem_of_getElem? (i := 103) (by decide +kernel), List.mem_of_getElem? (i := 579) (by decide +kernel), List.mem_of_getElem? (i := 580) (by decide +kernel)⟩
theorem lw_p13 : lw_okq (⟨"MemoParser$Search", "knownResult", "(II)I"⟩, 9) := ⟨⟨by decide +kernel, by decide +kernel⟩, List.mem_of_getElem? (i := 103) (by decide +kernel), List.mem_of_getElem? (i := 583) (by decide +kernel), List.mem_of_getElem? (i := 584) (by decide +kernel)⟩
theorem lw_p14 : lw_okq (⟨"MemoParser$Progress", "countAsked", "(I)V"⟩, 10) := ⟨⟨by decide +kernel, by decide +kernel⟩, List.mem_of_getElem? (i := 109) (by decide +kernel), List.mem_of_getElem? (i := 611) (by decide +kernel), List.mem_of_getElem? (i := 612) (by decide +kernel)⟩
theorem lw_p15 : lw_okq (⟨"MemoParser$Search", "look", "(III)I"⟩, 9) := ⟨⟨by decide +kernel, by decide +kernel⟩, List.mem_of_getElem? (i := 103) (by decide +kernel), List.mem_of_getElem? (i := 628) (by decide +kernel), List.mem_of_getElem? (i := 629) (by decide +kernel)⟩
def lw_privs_1 : List (MethodName × Nat) := [(⟨"MemoParser$Memory", "drop", "(I)V"⟩, 3), (⟨"java/lang/Throwable", "fillInStackTrace", "(I)Ljava/lang/Throwable;"⟩, 6), (⟨"MemoParser", "refuseIfFull", "()V"⟩, 4), (⟨"MemoParser", "refuseUnknownExpression", "(I)V"⟩, 4), (⟨"MemoParser$Grammar", "findEmpties", "()V"⟩, 8), (⟨"MemoParser$Grammar", "isEmptyByForm", "(I)Z"⟩, 8), (⟨"MemoParser$Grammar", "addEmptyRules", "()Z"⟩, 8), (⟨"MemoParser$Grammar", "findBeginnings", "()V"⟩, 8), (⟨"MemoParser$Grammar", "beginningsByForm", "(I)I"⟩, 8), (⟨"MemoParser$Grammar", "beginningsOfRule", "(I)I"⟩, 8), (⟨"MemoParser$Memory", "move", "(II)V"⟩, 3), (⟨"MemoParser", "refuseUnknownPlace", "(I)V"⟩, 4), (⟨"MemoParser$Search", "lookForRule", "(III)I"⟩, 9), (⟨"MemoParser$Search", "knownResult", "(II)I"⟩, 9), (⟨"MemoParser$Progress", "countAsked", "(I)V"⟩, 10), (⟨"MemoParser$Search", "look", "(III)I"⟩, 9)]
theorem lw_r1 : ∀ q ∈ lw_privs_1, lw_okq q := List.forall_mem_cons.mpr ⟨lw_p0, List.forall_mem_cons.mpr ⟨lw_p1, List.forall_mem_cons.mpr ⟨lw_p2, List.forall_mem_cons.mpr ⟨lw_p3, List.forall_mem_cons.mpr ⟨lw_p4, List.forall_mem_cons.mpr ⟨lw_p5, List.forall_mem_cons.mpr ⟨lw_p6, List.forall_mem_cons.mpr ⟨lw_p7, List.forall_mem_cons.mpr ⟨lw_p8, List.forall_mem_cons.mpr ⟨lw_p9, List.forall_mem_cons.mpr ⟨lw_p10, List.forall_mem_cons.mpr ⟨lw_p11, List.forall_mem_cons.mpr ⟨lw_p12, List.forall_mem_cons.mpr ⟨lw_p13, List.forall_mem_cons.mpr ⟨lw_p14, List.forall_mem_cons.mpr ⟨lw_p15, fun _ h => absurd h List.not_mem_nil⟩⟩⟩⟩⟩⟩⟩⟩⟩⟩⟩⟩⟩⟩⟩⟩
theorem lw_p16 : lw_okq (⟨"MemoParser$Search", "lookForRange", "(III)I"⟩, 9) := ⟨⟨by decide +kernel, by decide +kernel⟩, List.mem_of_getElem? (i := 103) (by decide +kernel), List.mem_of_getElem? (i := 632) (by decide +kernel), List.mem_of_getElem? (i := 633) (by decide +kernel)⟩
theorem lw_p17 : lw_okq (⟨"MemoParser$Search", "lookForSequence", "(IIII)I"⟩, 9) := ⟨⟨by decide +kernel, by decide +kernel⟩, List.mem_of_getElem? (i := 103) (by decide +kernel), List.mem_of_getElem? (i := 638) (by decide +kernel), List.mem_of_getElem? (i := 639) (by decide +kernel)⟩
theorem lw_p18 : lw_okq (⟨"MemoParser$Search", "lookForChoice", "(IIII)I"⟩, 9) := ⟨⟨by decide +kernel, by decide +kernel⟩, List.mem_of_getElem? (i := 103) (by decide +kernel), List.mem_of_getElem? (i := 642) (by decide +kernel), List.mem_of_getElem? (i := 643) (by decide +kernel)⟩
theorem lw_p19 : lw_okq (⟨"MemoParser$Search", "lookForStar", "(III)I"⟩, 9) := ⟨⟨by decide +kernel, by decide +kernel⟩, List.mem_of_getElem? (i := 103) (by decide +kernel), List.mem_of_getElem? (i := 646) (by decide +kernel), List.mem_of_getElem? (i := 647) (by decide +kernel)⟩
theorem lw_p20 : lw_okq (⟨"MemoParser$Search", "lookForOptional", "(III)I"⟩, 9) := ⟨⟨by decide +kernel, by decide +kernel⟩, List.mem_of_getElem? (i := 103) (by decide +kernel), List.mem_of_getElem? (i := 650) (by decide +kernel), List.mem_of_getElem? (i := 651) (by decide +kernel)⟩
theorem lw_p21 : lw_okq (⟨"MemoParser$Search", "lookForAnd", "(III)I"⟩, 9) := ⟨⟨by decide +kernel, by decide +kernel⟩, List.mem_of_getElem? (i := 103) (by decide +kernel), List.mem_of_getElem? (i := 654) (by decide +kernel), List.mem_of_getElem? (i := 655) (by decide +kernel)⟩
theorem lw_p22 : lw_okq (⟨"MemoParser$Search", "lookForNot", "(III)I"⟩, 9) := ⟨⟨by decide +kernel, by decide +kernel⟩, List.mem_of_getElem? (i := 103) (by decide +kernel), List.mem_of_getElem? (i := 658) (by decide +kernel), List.mem_of_getElem? (i := 659) (by decide +kernel)⟩
theorem lw_p23 : lw_okq (⟨"MemoParser$Search", "finish", "(II)V"⟩, 9) := ⟨⟨by decide +kernel, by decide +kernel⟩, List.mem_of_getElem? (i := 103) (by decide +kernel), List.mem_of_getElem? (i := 662) (by decide +kernel), List.mem_of_getElem? (i := 663) (by decide +kernel)⟩
theorem lw_p24 : lw_okq (⟨"MemoParserModel", "fail", "(I)I"⟩, 29) := ⟨⟨by decide +kernel, by decide +kernel⟩, List.mem_of_getElem? (i := 693) (by decide +kernel), List.mem_of_getElem? (i := 795) (by decide +kernel), List.mem_of_getElem? (i := 796) (by decide +kernel)⟩
theorem lw_p25 : lw_okq (⟨"MemoParserModel", "add", "(III)I"⟩, 29) := ⟨⟨by decide +kernel, by decide +kernel⟩, List.mem_of_getElem? (i := 693) (by decide +kernel), List.mem_of_getElem? (i := 799) (by decide +kernel), List.mem_of_getElem? (i := 800) (by decide +kernel)⟩
theorem lw_p26 : lw_okq (⟨"MemoParserModel", "isExpression", "(I)Z"⟩, 29) := ⟨⟨by decide +kernel, by decide +kernel⟩, List.mem_of_getElem? (i := 693) (by decide +kernel), List.mem_of_getElem? (i := 821) (by decide +kernel), List.mem_of_getElem? (i := 822) (by decide +kernel)⟩
theorem lw_p27 : lw_okq (⟨"MemoParserModel", "forgetAll", "()I"⟩, 29) := ⟨⟨by decide +kernel, by decide +kernel⟩, List.mem_of_getElem? (i := 693) (by decide +kernel), List.mem_of_getElem? (i := 833) (by decide +kernel), List.mem_of_getElem? (i := 834) (by decide +kernel)⟩
theorem lw_p28 : lw_okq (⟨"MemoParserModel", "countAll", "()I"⟩, 29) := ⟨⟨by decide +kernel, by decide +kernel⟩, List.mem_of_getElem? (i := 693) (by decide +kernel), List.mem_of_getElem? (i := 837) (by decide +kernel), List.mem_of_getElem? (i := 838) (by decide +kernel)⟩
theorem lw_p29 : lw_okq (⟨"MemoParserModel", "findForms", "()V"⟩, 29) := ⟨⟨by decide +kernel, by decide +kernel⟩, List.mem_of_getElem? (i := 693) (by decide +kernel), List.mem_of_getElem? (i := 849) (by decide +kernel), List.mem_of_getElem? (i := 850) (by decide +kernel)⟩
theorem lw_p30 : lw_okq (⟨"MemoParserModel", "can", "(I)Z"⟩, 29) := ⟨⟨by decide +kernel, by decide +kernel⟩, List.mem_of_getElem? (i := 693) (by decide +kernel), List.mem_of_getElem? (i := 853) (by decide +kernel), List.mem_of_getElem? (i := 854) (by decide +kernel)⟩
theorem lw_p31 : lw_okq (⟨"MemoParserModel", "beginsWith", "(I)I"⟩, 29) := ⟨⟨by decide +kernel, by decide +kernel⟩, List.mem_of_getElem? (i := 693) (by decide +kernel), List.mem_of_getElem? (i := 857) (by decide +kernel), List.mem_of_getElem? (i := 858) (by decide +kernel)⟩
def lw_privs_2 : List (MethodName × Nat) := [(⟨"MemoParser$Search", "lookForRange", "(III)I"⟩, 9), (⟨"MemoParser$Search", "lookForSequence", "(IIII)I"⟩, 9), (⟨"MemoParser$Search", "lookForChoice", "(IIII)I"⟩, 9), (⟨"MemoParser$Search", "lookForStar", "(III)I"⟩, 9), (⟨"MemoParser$Search", "lookForOptional", "(III)I"⟩, 9), (⟨"MemoParser$Search", "lookForAnd", "(III)I"⟩, 9), (⟨"MemoParser$Search", "lookForNot", "(III)I"⟩, 9), (⟨"MemoParser$Search", "finish", "(II)V"⟩, 9), (⟨"MemoParserModel", "fail", "(I)I"⟩, 29), (⟨"MemoParserModel", "add", "(III)I"⟩, 29), (⟨"MemoParserModel", "isExpression", "(I)Z"⟩, 29), (⟨"MemoParserModel", "forgetAll", "()I"⟩, 29), (⟨"MemoParserModel", "countAll", "()I"⟩, 29), (⟨"MemoParserModel", "findForms", "()V"⟩, 29), (⟨"MemoParserModel", "can", "(I)Z"⟩, 29), (⟨"MemoParserModel", "beginsWith", "(I)I"⟩, 29)]
theorem lw_r2 : ∀ q ∈ lw_privs_2, lw_okq q := List.forall_mem_cons.mpr ⟨lw_p16, List.forall_mem_cons.mpr ⟨lw_p17, List.forall_mem_cons.mpr ⟨lw_p18, List.forall_mem_cons.mpr ⟨lw_p19, List.forall_mem_cons.mpr ⟨lw_p20, List.forall_mem_cons.mpr ⟨lw_p21, List.forall_mem_cons.mpr ⟨lw_p22, List.forall_mem_cons.mpr ⟨lw_p23, List.forall_mem_cons.mpr ⟨lw_p24, List.forall_mem_cons.mpr ⟨lw_p25, List.forall_mem_cons.mpr ⟨lw_p26, List.forall_mem_cons.mpr ⟨lw_p27, List.forall_mem_cons.mpr ⟨lw_p28, List.forall_mem_cons.mpr ⟨lw_p29, List.forall_mem_cons.mpr ⟨lw_p30, List.forall_mem_cons.mpr ⟨lw_p31, fun _ h => absurd h List.not_mem_nil⟩⟩⟩⟩⟩⟩⟩⟩⟩⟩⟩⟩⟩⟩⟩⟩
theorem lw_p32 : lw_okq (⟨"MemoParserModel", "keep", "(III)I"⟩, 29) := ⟨⟨by decide +kernel, by decide +kernel⟩, List.mem_of_getElem? (i := 693) (by decide +kernel), List.mem_of_getElem? (i := 873) (by decide +kernel), List.mem_of_getElem? (i := 874) (by decide +kernel)⟩
theorem lw_p33 : lw_okq (⟨"MemoParserModel", "isPlace", "(I)Z"⟩, 29) := ⟨⟨by decide +kernel, by decide +kernel⟩, List.mem_of_getElem? (i := 693) (by decide +kernel), List.mem_of_getElem? (i := 889) (by decide +kernel), List.mem_of_getElem? (i := 890) (by decide +kernel)⟩
theorem lw_p34 : lw_okq (⟨"MemoParserModel", "lookRule", "(III)I"⟩, 29) := ⟨⟨by decide +kernel, by decide +kernel⟩, List.mem_of_getElem? (i := 693) (by decide +kernel), List.mem_of_getElem? (i := 893) (by decide +kernel), List.mem_of_getElem? (i := 894) (by decide +kernel)⟩
theorem lw_p35 : lw_okq (⟨"MemoParserModel", "isShut", "(II)Z"⟩, 29) := ⟨⟨by decide +kernel, by decide +kernel⟩, List.mem_of_getElem? (i := 693) (by decide +kernel), List.mem_of_getElem? (i := 897) (by decide +kernel), List.mem_of_getElem? (i := 898) (by decide +kernel)⟩
theorem lw_p36 : lw_okq (⟨"MemoParserModel", "isInProgress", "(II)Z"⟩, 29) := ⟨⟨by decide +kernel, by decide +kernel⟩, List.mem_of_getElem? (i := 693) (by decide +kernel), List.mem_of_getElem? (i := 901) (by decide +kernel), List.mem_of_getElem? (i := 902) (by decide +kernel)⟩
theorem lw_p37 : lw_okq (⟨"MemoParserModel", "name", "(II)V"⟩, 29) := ⟨⟨by decide +kernel, by decide +kernel⟩, List.mem_of_getElem? (i := 693) (by decide +kernel), List.mem_of_getElem? (i := 905) (by decide +kernel), List.mem_of_getElem? (i := 906) (by decide +kernel)⟩
theorem lw_p38 : lw_okq (⟨"MemoParserModel", "ask", "(I)I"⟩, 29) := ⟨⟨by decide +kernel, by decide +kernel⟩, List.mem_of_getElem? (i := 693) (by decide +kernel), List.mem_of_getElem? (i := 910) (by decide +kernel), List.mem_of_getElem? (i := 911) (by decide +kernel)⟩
theorem lw_p39 : lw_okq (⟨"MemoParserModel", "look", "(III)I"⟩, 29) := ⟨⟨by decide +kernel, by decide +kernel⟩, List.mem_of_getElem? (i := 693) (by decide +kernel), List.mem_of_getElem? (i := 914) (by decide +kernel), List.mem_of_getElem? (i := 915) (by decide +kernel)⟩
theorem lw_p40 : lw_okq (⟨"MemoParserModel", "miss", "(Z)I"⟩, 29) := ⟨⟨by decide +kernel, by decide +kernel⟩, List.mem_of_getElem? (i := 693) (by decide +kernel), List.mem_of_getElem? (i := 918) (by decide +kernel), List.mem_of_getElem? (i := 919) (by decide +kernel)⟩
theorem lw_p41 : lw_okq (⟨"MemoParserModel", "succeed", "(I)I"⟩, 29) := ⟨⟨by decide +kernel, by decide +kernel⟩, List.mem_of_getElem? (i := 693) (by decide +kernel), List.mem_of_getElem? (i := 922) (by decide +kernel), List.mem_of_getElem? (i := 923) (by decide +kernel)⟩
theorem lw_p42 : lw_okq (⟨"MemoParserModel", "lookAt", "(III)I"⟩, 29) := ⟨⟨by decide +kernel, by decide +kernel⟩, List.mem_of_getElem? (i := 693) (by decide +kernel), List.mem_of_getElem? (i := 926) (by decide +kernel), List.mem_of_getElem? (i := 927) (by decide +kernel)⟩
theorem lw_p43 : lw_okq (⟨"MemoParserModel", "lookAgain", "(III)I"⟩, 29) := ⟨⟨by decide +kernel, by decide +kernel⟩, List.mem_of_getElem? (i := 693) (by decide +kernel), List.mem_of_getElem? (i := 930) (by decide +kernel), List.mem_of_getElem? (i := 931) (by decide +kernel)⟩
def lw_privs_3 : List (MethodName × Nat) := [(⟨"MemoParserModel", "keep", "(III)I"⟩, 29), (⟨"MemoParserModel", "isPlace", "(I)Z"⟩, 29), (⟨"MemoParserModel", "lookRule", "(III)I"⟩, 29), (⟨"MemoParserModel", "isShut", "(II)Z"⟩, 29), (⟨"MemoParserModel", "isInProgress", "(II)Z"⟩, 29), (⟨"MemoParserModel", "name", "(II)V"⟩, 29), (⟨"MemoParserModel", "ask", "(I)I"⟩, 29), (⟨"MemoParserModel", "look", "(III)I"⟩, 29), (⟨"MemoParserModel", "miss", "(Z)I"⟩, 29), (⟨"MemoParserModel", "succeed", "(I)I"⟩, 29), (⟨"MemoParserModel", "lookAt", "(III)I"⟩, 29), (⟨"MemoParserModel", "lookAgain", "(III)I"⟩, 29)]
theorem lw_r3 : ∀ q ∈ lw_privs_3, lw_okq q := List.forall_mem_cons.mpr ⟨lw_p32, List.forall_mem_cons.mpr ⟨lw_p33, List.forall_mem_cons.mpr ⟨lw_p34, List.forall_mem_cons.mpr ⟨lw_p35, List.forall_mem_cons.mpr ⟨lw_p36, List.forall_mem_cons.mpr ⟨lw_p37, List.forall_mem_cons.mpr ⟨lw_p38, List.forall_mem_cons.mpr ⟨lw_p39, List.forall_mem_cons.mpr ⟨lw_p40, List.forall_mem_cons.mpr ⟨lw_p41, List.forall_mem_cons.mpr ⟨lw_p42, List.forall_mem_cons.mpr ⟨lw_p43, fun _ h => absurd h List.not_mem_nil⟩⟩⟩⟩⟩⟩⟩⟩⟩⟩⟩⟩
def lw_privs : List (MethodName × Nat) := lw_privs_1 ++ (lw_privs_2 ++ (lw_privs_3))
def lw_tbl : List Cond := k2_sels lw_privs ++ tables_1
theorem lw_privs_ok : ∀ q ∈ lw_privs, lw_okq q := by
  show ∀ q ∈ lw_privs_1 ++ (lw_privs_2 ++ (lw_privs_3)), lw_okq q
  exact List.forall_mem_append.mpr ⟨lw_r1, List.forall_mem_append.mpr ⟨lw_r2, lw_r3⟩⟩
-- ===== end of PART A; then your names; then what follows =====
/-! ===== BEGIN words of one list among another's, by their places ===== -/
theorem goodIn_r {big : List Cond} (ws : List Cond) (ps : List Nat) (hp : ws = ps.filterMap (fun i => big[i]?)) (h : ws.all goodWord = true) : GoodIn big ws := by
  intro w hw
  have h1 := List.all_eq_true.mp h w hw
  rw [hp] at hw
  obtain ⟨i, -, hi⟩ := List.mem_filterMap.mp hw
  have hm : w ∈ big := by first | exact List.mem_of_getElem? hi | exact List.getElem?_mem hi
  exact ⟨hm, good_of_word h1⟩
theorem goodIn_app {big a b : List Cond} (ha : GoodIn big a) (hb : GoodIn big b) : GoodIn big (a ++ b) := fun w h => (List.mem_append.mp h).elim (ha w) (hb w)
theorem goodIn_ca {big a b : List Cond} {c : Cond} (ha : GoodIn big (c :: a)) (hb : GoodIn big b) : GoodIn big (c :: (a ++ b)) := fun w h => (List.mem_cons.mp h).elim (fun e => ha w (List.mem_cons.mpr (Or.inl e))) (fun h => (List.mem_append.mp h).elim (fun h => ha w (List.mem_cons.mpr (Or.inr h))) (hb w))
theorem goodIn_sub {big ws : List Cond} (hm : ∀ w ∈ ws, w ∈ big) (h : ws.all goodWord = true) : GoodIn big ws := fun w hw => ⟨hm w hw, good_of_word (List.all_eq_true.mp h w hw)⟩
/-! ===== END ===== -/

/-! ===== BEGIN exceptions that leave a method, and their catching by the caller (launches without stack traces) ===== -/
section VXA
/-! The laws vx_back, vx_callV, vx_callS, vx_callSW, vx_throw0, vx_throwS follow proofs of the library, with one case more: JvmDerived/Free/Laws.lean (Back.of_free), Shelf42/LK1.lean (callV, callS), Shelf/KitTraced.lean (throwNew0V, throwNewS). -/
/-- where a method has thrown q: the class by its name, the cell, what was written, the world -/
def vx_T (XC : String → State → State → Prop) (st : State) (q : Addr) (t : State) (mc ms : Nat) (free : Addr → Prop) : Prop :=
  ∃ (E : String) (ce : Cell) (L : List Loc), XC E st t ∧ t.heap[q]? = some ce ∧ ce.vm = .none ∧ st.vm.findClass E = some ce.cls ∧ st.WarmedH t.vm ∧ st.sameButNew ({ t with vm := st.vm } : State) L mc ms ∧ ∀ z ∈ L, free z.base
def vx_Q (Qc : Array Value → State → Outcome → State → Prop) (XC : String → State → State → Prop) (mc ms : Nat) (free : Addr → Prop) : Array Value → State → Outcome → State → Prop := fun a st o t =>
  (Qc a st o t ∧ ∃ L, FrameEnd st o t L mc ms ∧ ∀ q ∈ L, free q.base) ∨ ∃ q, o = .threw q ∧ vx_T XC st q t mc ms free
/-- a callee that returns or throws -/
def vx_Met (l : Launch) (y : MethodName) (ws : List Cond) (rm : Room) (Pc : Array Value → State → Prop) (Qc : Array Value → State → Outcome → State → Prop) (XC : String → State → State → Prop) (mc ms : Nat) (free : Addr → Prop) : Prop :=
  MetFree l y (headSpec ws rm) Pc (fun _ _ _ _ _ => True) (vx_Q Qc XC mc ms free)
def vx_Post (XC : String → State → State → Prop) (mc ms : Nat) (free : Addr → Prop) : Pt → Array Value → Addr → Pt → Prop := fun A a q B =>
  ∃ (g : JFrame) (mk : MethodId) (t : State) (L : List Loc) (E : String) (ce : Cell), B.U.heap = t.heap ∧ B.U.vm = t.vm ∧ XC E (A.U.calling g mk a) t ∧ t.heap[q]? = some ce ∧ ce.vm = .none ∧ A.U.vm.findClass E = some ce.cls ∧ B.locs = A.locs ++ L ∧ (∀ z ∈ L, free z.base) ∧ B.cells = A.cells + mc ∧ B.slots = A.slots + ms
def vx_Back (l : Launch) (R : Room) (p : Program) (e : Env) (below : List Frame) (s : State) (sargs : Array Value) (y : MethodName) (len W9 : Nat)
    (Pre : Pt → Array Value → Prop) (Post : Pt → Array Value → Option Value → Pt → Prop) (PostX : Pt → Array Value → Addr → Pt → Prop) : Prop :=
  ∀ (m : MethodId) (meth : Method) (c : Code) (A : Pt) (g : JFrame) (ig : Instr) (mk : MethodId) (a : Array Value),
    Stand p l e R s m sargs below meth c A.U A.locs A.cells A.slots → g.method = m → g.locals.size = c.maxLocals → decode c.code g.pc = .ok (ig, len) →
    2 * g.monitorRoom + (g.stack.map fun v => v.category).sum ≤ W9 → A.U.methodNamed? y = some mk → Pre A a →
    (∃ (v : Option Value) (B : Pt), Stand p l e R s m sargs below meth c B.U B.locs B.cells B.slots ∧ Post A a v B ∧
      Steps p.tables e below (doInvoke e (A.U.setTop g) [] mk a).1 (B.U.setTop { g with pc := g.pc + len, stack := v.toList ++ g.stack })) ∨
    (∃ (q : Addr) (B : Pt), Stand p l e R s m sargs below meth c B.U B.locs B.cells B.slots ∧ PostX A a q B ∧
      Steps p.tables e below (doInvoke e (A.U.setTop g) [] mk a).1 ((B.U.setTop g).pushFrame (.throwing q)))
section Payer
variable {l : Launch} {R : Room} {p : Program} {e : Env} {below : List Frame} {s : State} {sargs : Array Value} {y : MethodName} {len W9 : Nat}
theorem vx_back {ws : List Cond} {rm : Room} {Pc : Array Value → State → Prop} {Qc : Array Value → State → Outcome → State → Prop} {XC : String → State → State → Prop} {mc ms : Nat} {free : Addr → Prop} {bytes : ByteArray} {maxL : Nat} {ret : Option FieldType}
    (hM : vx_Met l y ws rm Pc Qc XC mc ms free) (hblind : FrameBlind Pc) (hrc : rm.cells = mc) (hrs : rm.slots = ms)
    (hframes : rm.frames + 1 ≤ R.frames) (hlocals : W9 + (maxL + 11) + rm.locals ≤ R.locals)
    (hws : ∀ w ∈ ws, ∀ a' U, s.WarmedH U.vm → w.before a' U = true) (hcode : Cond.code y bytes maxL ret ∈ ws) (hinit : ∀ a' U, s.WarmedH U.vm → (Cond.initialized y.cls).before a' U = true) :
    vx_Back l R p e below s sargs y len W9 (PreOf R mc ms Pc) (PostOf Qc mc ms free) (vx_Post XC mc ms free) := by
  intro m meth c A g ig mk a X hg hsize hdg hW hn hp
  have h1 : (headSpec ws rm).pre.before a A.U = true := atoms_intro fun w hw => hws w hw _ _ X.warmed
  have h2 : (Cond.code y bytes maxL ret).before a A.U = true := hws _ hcode _ _ X.warmed
  have h3 : (Cond.initialized y.cls).before a A.U = true := hinit _ _ X.warmed
  have h4 : A.cells + (headSpec ws rm).room.cells ≤ R.cells := by rw [show (headSpec ws rm).room.cells = mc from hrc]; exact hp.1
  have h5 : A.slots + (headSpec ws rm).room.slots ≤ R.slots := by rw [show (headSpec ws rm).room.slots = ms from hrs]; exact hp.2.1
  have hPc : Pc a (A.U.calling g mk a) := hblind _ _ _ _ hp.2.2
  obtain ⟨U, Ls, c0, s0⟩ := A
  dsimp only [Pt.U, Pt.locs, Pt.cells, Pt.slots] at h1 h2 h3 h4 h5 X hn hPc ⊢
  obtain ⟨methY, cY, hmY, hcY, -, hlY, -, -, -, -⟩ := Cond.code_spec hn h2
  obtain ⟨kY, hkY, -⟩ := className_of_methodNamed hn
  have hinitY : kY.init = .initialized := Cond.initialized_spec (findClass_of_methodNamed hn) hkY h3
  have h : At U g.method c below := by rw [hg]; exact X.here
  have hlocals9 : W9 + (maxL + 11) + (headSpec ws rm).room.locals ≤ R.locals := hlocals
  have happ : (headSpec ws rm).appliesLoose y e.platform (U.calling g mk a) = true :=
    Spec.appliesLoose_calling (g := g) h hdg hn hkY hinitY
      (X.room_calling (g := g) (R' := (headSpec ws rm).room) hsize hmY hcY hframes (by rw [hlY]; omega) h4 h5) h1
  obtain ⟨mid, hmid⟩ := h.above
  have hfr : (U.setTop g).frames = (.java g :: mid) ++ below := by rw [State.frames_setTop' g h.top, hmid]; rfl
  obtain ⟨o, s₂, hsteps, -, hend, hq⟩ := Steps.callFree hM p X.admits X.cas X.clock (acts := []) hfr happ hPc trivial
  have hq' : vx_Q Qc XC mc ms free a (U.calling g mk a) o s₂ := hq
  rw [State.frames_setTop' g h.top] at hend
  obtain ⟨g₀, hg0⟩ := Option.isSome_iff_exists.mp h.top
  obtain ⟨r, hr⟩ := State.topJava?_eq_some.mp hg0
  have hr' : (({ U with heap := s₂.heap, slotsUsed := s₂.slotsUsed } : State).setVm s₂.vm).frames = .java g₀ :: r := hr
  rcases hq' with ⟨hqc, L, hfe, hL⟩ | ⟨q, rfl, E, ce, L, hx, hce, hcv, hcl, hW₂, hsm, hL⟩
  · obtain ⟨⟨v, rfl⟩, hW₂, e2, q2, q3, q4, q5, q6⟩ := id hfe
    have e3 : s₂ = ({ (U.calling g mk a).setFrames s₂.frames with heap := s₂.heap, slotsUsed := s₂.slotsUsed } : State).setVm s₂.vm := by
      have : s₂ = ({ s₂ with vm := (U.calling g mk a).vm } : State).setVm s₂.vm := rfl
      rw [e2] at this
      exact this
    obtain ⟨c₂, i₂, len₂, hc₂, hd₂, hf₂⟩ := hend
    have hW' : U.WarmedH s₂.vm := hW₂
    have hcc : c₂ = c := by
      have h1 : s₂.code? g.method = U.code? g.method := by
        rw [State.code?_eq, State.code?_eq, hW'.alike.method?]
      exact Option.some.inj (hc₂.symm.trans (h1.trans h.code))
    subst hcc
    have hlen : len₂ = len := by rw [hdg] at hd₂; cases hd₂; rfl
    subst hlen
    have hs₂ : s₂ = (({ U with heap := s₂.heap, slotsUsed := s₂.slotsUsed } : State).setVm s₂.vm).setTop { g with pc := g.pc + len₂, stack := v.toList ++ g.stack } := by
      refine e3.trans ?_
      rw [hf₂, State.calling_eq h.top, State.setFrames_setFrames, State.setTop_of_frames _ hr', hr]
      rfl
    have hsame : U.sameButNew ({ U with heap := s₂.heap, slotsUsed := s₂.slotsUsed } : State) L mc ms := by
      refine ⟨?_, q2, q3, q4, q5, q6⟩
      obtain ⟨t, ht, -⟩ := State.frames_cons hr
      show ({ U with heap := s₂.heap, slotsUsed := s₂.slotsUsed } : State) = { U.setFrames U.frames with heap := s₂.heap, slotsUsed := s₂.slotsUsed }
      rw [State.setFrames_self ht]
    subst hg
    refine Or.inl ⟨v, ⟨(({ U with heap := s₂.heap, slotsUsed := s₂.slotsUsed } : State).setVm s₂.vm), Ls ++ L, c0 + mc, s0 + ms⟩,
      ⟨X.admits, X.cas, X.clock, X.frames, X.room, X.hears, X.method, X.code, (X.here.setHeapUsed s₂.heap s₂.slotsUsed).setVm hW'.alike, X.tail, State.WarmedH.trans X.warmed hW', X.limits, X.bytes, X.same.trans (hsame.setVm s.vm)⟩,
      ⟨g, mk, s₂, L, rfl, rfl, hqc, rfl, hL, rfl, rfl⟩, ?_⟩
    show Steps p.tables e below _ ((({ U with heap := s₂.heap, slotsUsed := s₂.slotsUsed } : State).setVm s₂.vm).setTop { g with pc := g.pc + len₂, stack := v.toList ++ g.stack })
    rw [← hs₂]
    exact hsteps
  · obtain ⟨e2, q2, q3, q4, q5, q6⟩ := id hsm
    have e3 : s₂ = ({ (U.calling g mk a).setFrames s₂.frames with heap := s₂.heap, slotsUsed := s₂.slotsUsed } : State).setVm s₂.vm := by
      have : s₂ = ({ s₂ with vm := (U.calling g mk a).vm } : State).setVm s₂.vm := rfl
      rw [e2] at this
      exact this
    have hf₂ : s₂.frames = .throwing q :: .java g :: U.frames.tail := hend
    have hW' : U.WarmedH s₂.vm := hW₂
    have hs₂ : s₂ = ((({ U with heap := s₂.heap, slotsUsed := s₂.slotsUsed } : State).setVm s₂.vm).setTop g).pushFrame (.throwing q) := by
      refine e3.trans ?_
      rw [hf₂, State.calling_eq h.top, State.setFrames_setFrames, State.pushFrame, State.frames_setTop _ hr', State.setTop_of_frames _ hr', State.setFrames_setFrames, hr]
      rfl
    have hsame : U.sameButNew ({ U with heap := s₂.heap, slotsUsed := s₂.slotsUsed } : State) L mc ms := by
      refine ⟨?_, q2, q3, q4, q5, q6⟩
      obtain ⟨t, ht, -⟩ := State.frames_cons hr
      show ({ U with heap := s₂.heap, slotsUsed := s₂.slotsUsed } : State) = { U.setFrames U.frames with heap := s₂.heap, slotsUsed := s₂.slotsUsed }
      rw [State.setFrames_self ht]
    subst hg
    refine Or.inr ⟨q, ⟨(({ U with heap := s₂.heap, slotsUsed := s₂.slotsUsed } : State).setVm s₂.vm), Ls ++ L, c0 + mc, s0 + ms⟩,
      ⟨X.admits, X.cas, X.clock, X.frames, X.room, X.hears, X.method, X.code, (X.here.setHeapUsed s₂.heap s₂.slotsUsed).setVm hW'.alike, X.tail, State.WarmedH.trans X.warmed hW', X.limits, X.bytes, X.same.trans (hsame.setVm s.vm)⟩,
      ⟨g, mk, s₂, L, E, ce, rfl, rfl, hx, hce, hcv, hcl, rfl, hL, rfl, rfl⟩, ?_⟩
    show Steps p.tables e below _ (((({ U with heap := s₂.heap, slotsUsed := s₂.slotsUsed } : State).setVm s₂.vm).setTop g).pushFrame (.throwing q))
    rw [← hs₂]
    exact hsteps
end Payer
section Calls
variable {p : Program} {l : Launch} {e : Env} {R : Room} {s : State} {m : MethodId} {args : Array Value} {below : List Frame} {meth : Method} {c : Code} {T : State} {locs : List Loc} {cells slots : Nat}
theorem vx_callV (X : Stand p l e R s m args below meth c T locs cells slots) (hexec : p.tables.exec = Jvm.exec) {own C : String} {index : Nat} {y : MethodName} {bytes : ByteArray} {maxL : Nat} {ret : Option FieldType}
    (hown : s.vm.findClass own = some m.cls) (hlink : (Cond.methodLink own index y).before args s = true) (hinst : (Cond.instanceMethod y).before args s = true) (hsel : (Cond.selects C y y).before args s = true)
    (hcode : (Cond.code y bytes maxL ret).before args s = true) (hy : y.cls ≠ "java/lang/invoke/MethodHandle" ∧ y.cls ≠ "java/lang/invoke/VarHandle")
    {W9 : Nat} {Pre : Pt → Array Value → Prop} {Post : Pt → Array Value → Option Value → Pt → Prop} {PostX : Pt → Array Value → Addr → Pt → Prop} (hK : vx_Back l R p e below s args y 3 W9 Pre Post PostX)
    {b : Addr} {cellB : Cell} (hcell : T.heap[b]? = some cellB) (hobj : cellB.vm.isStatics = false) (hcls : s.vm.findClass C = some cellB.cls)
    {g : JFrame} (hg : g.method = m) (hsize : g.locals.size = c.maxLocals) {argsL rest : List Value} (hlen : ∀ sig, parseMethodDescriptor y.desc = some sig → argsL.length = sig.parameters.length)
    (hstack : g.stack = argsL.reverse ++ .ref b :: rest) (hW : 2 * g.monitorRoom + (rest.map fun v => v.category).sum ≤ W9) (hdg : decode c.code g.pc = .ok (.invokevirtual index, 3))
    (hpre : ∀ vm₁, s.WarmedH vm₁ → Pre ⟨T.setVm vm₁, locs, cells, slots⟩ (Value.ref b :: argsL).toArray) :
    (∃ (v : Option Value) (vm₁ : Vm) (B : Pt), s.WarmedH vm₁ ∧ Stand p l e R s m args below meth c B.U B.locs B.cells B.slots ∧ Post ⟨T.setVm vm₁, locs, cells, slots⟩ (Value.ref b :: argsL).toArray v B ∧
      ∀ target, Steps p.tables e below (B.U.setTop { g with pc := g.pc + 3, stack := v.toList ++ rest }) target → Steps p.tables e below (T.setTop g) target) ∨
    (∃ (q : Addr) (vm₁ : Vm) (B : Pt), s.WarmedH vm₁ ∧ Stand p l e R s m args below meth c B.U B.locs B.cells B.slots ∧ PostX ⟨T.setVm vm₁, locs, cells, slots⟩ (Value.ref b :: argsL).toArray q B ∧
      Steps p.tables e below (T.setTop g) ((B.U.setTop { g with stack := rest }).pushFrame (.throwing q))) := by
  obtain ⟨mk, methM, hnamed, hmethM, hstM, habM⟩ := Cond.instanceMethod_spec hinst
  obtain ⟨methM', cM, hmethM', -, -, -, -, -, -, hsigM⟩ := Cond.code_spec hnamed hcode
  cases hmethM.symm.trans hmethM'
  obtain ⟨c2, r2, m2, q1, q2, q3, q4, kP, hkP, hkPi⟩ := Cond.selects_spec hsel
  cases hcls.symm.trans q1
  cases (State.methodFound?_of_named hnamed hy).symm.trans q2
  cases hnamed.symm.trans q3
  have hselP : selectMethod e.platform s.vm cellB.cls mk = .method mk := by rw [Launch.admits_selectMethod X.admits]; exact q4
  obtain ⟨vm₁, X₁, hstep₁⟩ := X.invokevirtual hexec hown hlink hnamed hmethM hstM hkP hkPi hy (a := b) (cell := cellB) hcell
    (fun z h => by rw [h] at hobj; cases hobj) hselP hmethM habM hkP hkPi (g := g) hg (argsL := argsL) (rest := rest) (hlen _ hsigM) hstack hdg
  rcases hK m meth c ⟨T.setVm vm₁, locs, cells, slots⟩ { g with stack := rest } (.invokevirtual index) mk (Value.ref b :: argsL).toArray X₁ hg hsize hdg hW (X₁.named hnamed) (hpre vm₁ X₁.warmed) with ⟨v, B, X', hpost, hsteps⟩ | ⟨q, B, X', hpost, hsteps⟩
  · exact Or.inl ⟨v, vm₁, B, X₁.warmed, X', hpost, fun target h => hstep₁ _ fun acts => by rw [doInvoke_state]; exact hsteps.trans h⟩
  · exact Or.inr ⟨q, vm₁, B, X₁.warmed, X', hpost, hstep₁ _ fun acts => by rw [doInvoke_state]; exact hsteps⟩
theorem vx_callS (X : Stand p l e R s m args below meth c T locs cells slots) (hexec : p.tables.exec = Jvm.exec) {own : String} {index : Nat} {y : MethodName} {bytes : ByteArray} {maxL : Nat} {ret : Option FieldType}
    (hown : s.vm.findClass own = some m.cls) (hlink : (Cond.methodLink own index y).before args s = true) (hstat : (Cond.static y).before args s = true) (hinit : (Cond.initialized y.cls).before args s = true)
    (hcode : (Cond.code y bytes maxL ret).before args s = true) (hy : y.cls ≠ "java/lang/invoke/MethodHandle" ∧ y.cls ≠ "java/lang/invoke/VarHandle")
    {W9 : Nat} {Pre : Pt → Array Value → Prop} {Post : Pt → Array Value → Option Value → Pt → Prop} {PostX : Pt → Array Value → Addr → Pt → Prop} (hK : vx_Back l R p e below s args y 3 W9 Pre Post PostX)
    {g : JFrame} (hg : g.method = m) (hsize : g.locals.size = c.maxLocals) {argsL rest : List Value} (hlen : ∀ sig, parseMethodDescriptor y.desc = some sig → argsL.length = sig.parameters.length)
    (hstack : g.stack = argsL.reverse ++ rest) (hW : 2 * g.monitorRoom + (rest.map fun v => v.category).sum ≤ W9) (hdg : decode c.code g.pc = .ok (.invokestatic index, 3))
    (hpre : ∀ vm₁, s.WarmedH vm₁ → Pre ⟨T.setVm vm₁, locs, cells, slots⟩ argsL.toArray) :
    (∃ (v : Option Value) (vm₁ : Vm) (B : Pt), s.WarmedH vm₁ ∧ Stand p l e R s m args below meth c B.U B.locs B.cells B.slots ∧ Post ⟨T.setVm vm₁, locs, cells, slots⟩ argsL.toArray v B ∧
      ∀ target, Steps p.tables e below (B.U.setTop { g with pc := g.pc + 3, stack := v.toList ++ rest }) target → Steps p.tables e below (T.setTop g) target) ∨
    (∃ (q : Addr) (vm₁ : Vm) (B : Pt), s.WarmedH vm₁ ∧ Stand p l e R s m args below meth c B.U B.locs B.cells B.slots ∧ PostX ⟨T.setVm vm₁, locs, cells, slots⟩ argsL.toArray q B ∧
      Steps p.tables e below (T.setTop g) ((B.U.setTop { g with stack := rest }).pushFrame (.throwing q))) := by
  obtain ⟨mk, hnamed⟩ := Cond.code_named hcode
  obtain ⟨methM, cM, hmethM, -, -, -, -, -, -, hsigM⟩ := Cond.code_spec hnamed hcode
  have hstatic : methM.isStatic = true := Cond.static_spec hnamed hmethM hstat
  obtain ⟨kP, hkP, -⟩ := className_of_methodNamed hnamed
  have hinitP : kP.init = .initialized := Cond.initialized_spec (findClass_of_methodNamed hnamed) hkP hinit
  obtain ⟨vm₁, X₁, hstep₁⟩ := X.invokestatic hexec hown hlink hnamed hmethM hstatic hkP hinitP hy (g := g) hg (argsL := argsL) (rest := rest) (hlen _ hsigM) hstack hdg
  rcases hK m meth c ⟨T.setVm vm₁, locs, cells, slots⟩ { g with stack := rest } (.invokestatic index) mk argsL.toArray X₁ hg hsize hdg hW (X₁.named hnamed) (hpre vm₁ X₁.warmed) with ⟨v, B, X', hpost, hsteps⟩ | ⟨q, B, X', hpost, hsteps⟩
  · exact Or.inl ⟨v, vm₁, B, X₁.warmed, X', hpost, fun target h => hstep₁ _ fun acts => by rw [doInvoke_state]; exact hsteps.trans h⟩
  · exact Or.inr ⟨q, vm₁, B, X₁.warmed, X', hpost, hstep₁ _ fun acts => by rw [doInvoke_state]; exact hsteps⟩
end Calls
theorem vx_cls {s : State} {T : State} {vm₁ : Vm} {E : String} {k : ClassId} (hW : s.WarmedH vm₁) (h : (T.setVm vm₁).vm.findClass E = some k) : s.vm.findClass E = some k := by
  have h1 : vm₁.findClass E = some k := h
  rw [hW.alike.findClass] at h1
  exact h1
/-- the method's frame g, with q thrown over it -/
def vx_W (p : Program) (l : Launch) (e : Env) (R : Room) (s : State) (m : MethodId) (args : Array Value) (below : List Frame) (meth : Method) (c : Code) (H : Heap) (locs : List Loc) (cells slots : Nat) (Q : State → Prop) (g : JFrame) (q : Addr) : Prop :=
  ∀ T : State, T.heap = H → Stand p l e R s m args below meth c T locs cells slots → ∃ t, Steps p.tables e below ((T.setTop g).pushFrame (.throwing q)) t ∧ Q t
def vx_Run (p : Program) (l : Launch) (e : Env) (R : Room) (s : State) (m : MethodId) (args : Array Value) (below : List Frame) (meth : Method) (c : Code) (H : Heap) (locs : List Loc) (cells slots mc ms : Nat) (g : JFrame) (rest : List Value) (Qa : State → Outcome → State → Prop) (XC : String → State → State → Prop) (free : Addr → Prop) : Prop :=
  ∀ T : State, T.heap = H → Stand p l e R s m args below meth c T locs cells slots →
    (∃ (v : Option Value) (st₀ t T' : State) (L : List Loc), st₀.heap = H ∧ Stand p l e R s m args below meth c T' (locs ++ L) (cells + mc) (slots + ms) ∧ (∀ q ∈ L, free q.base) ∧ T'.heap = t.heap ∧ T'.vm = t.vm ∧ Qa st₀ (.returned v) t ∧
      Goes p e below T g T' { g with pc := g.pc + 3, stack := v.toList ++ rest }) ∨
    (∃ (q : Addr) (st₀ t T' : State) (L : List Loc) (E : String) (ce : Cell), st₀.heap = H ∧ Stand p l e R s m args below meth c T' (locs ++ L) (cells + mc) (slots + ms) ∧ (∀ z ∈ L, free z.base) ∧ T'.heap = t.heap ∧ T'.vm = t.vm ∧ XC E st₀ t ∧ t.heap[q]? = some ce ∧ ce.vm = .none ∧ s.vm.findClass E = some ce.cls ∧
      Steps p.tables e below (T.setTop g) ((T'.setTop { g with stack := rest }).pushFrame (.throwing q)))
def vx_X {S : Type} (px : S → Prop) (B : String → S → State → Prop) (A : Nat → Prop) : String → State → State → Prop := fun E st t => ∃ u : S, px u ∧ B E u t ∧ va_F A st t
section Runs
variable {p : Program} {l : Launch} {e : Env} {R : Room} {s : State} {m : MethodId} {args : Array Value} {below : List Frame} {meth : Method} {c : Code} {H : Heap} {locs : List Loc} {cells slots : Nat}
variable {y : MethodName} {bytes cc : ByteArray} {maxL nL mc ms n index : Nat} {ret : Option FieldType} {ws : List Cond} {rm : Room} {Pc : Array Value → State → Prop} {Qc : Array Value → State → Outcome → State → Prop} {XC : String → State → State → Prop} {free : Addr → Prop} {Ts : List Cond} {own C : String} {b : Addr} {As rest : List Value} {g : JFrame}
theorem vx_callBack (cb : CallB R s args own index y bytes maxL ret ws rm mc ms n) (hM : vx_Met l y ws rm Pc Qc XC mc ms free) (hbl : FrameBlind Pc) : vx_Back l R p e below s args y 3 8 (PreOf R mc ms Pc) (PostOf Qc mc ms free) (vx_Post XC mc ms free) := by
  obtain ⟨hrc, hrs, hfr, hlo, hws, hcw, -, hini, -⟩ := cb
  exact vx_back (bytes := bytes) (maxL := maxL) (ret := ret) hM hbl hrc hrs hfr hlo hws hcw (fun a' U hW => word_at hW (Or.inl (by first | rfl | simp [Cond.onTables, Cond.keeps, Cond.steady])) hini)
theorem vx_runV (S : CallFix p m c cc nL s args Ts own) (hM : vx_Met l y ws rm Pc Qc XC mc ms free) (cw : CallW R s args own C index y bytes maxL ret ws rm mc ms n) (hp : PreV s H C b Pc As)
    (hg : g.method = m) (hn : As.length = n) (hsize : g.locals.size = nL) (hstack : g.stack = As.reverse ++ .ref b :: rest) (hW : 2 * g.monitorRoom + (rest.map fun v => v.category).sum ≤ 8) (hdg : decode cc g.pc = .ok (.invokevirtual index, 3)) (hf : cells + mc ≤ R.cells ∧ slots + ms ≤ R.slots) :
    vx_Run p l e R s m args below meth c H locs cells slots mc ms g rest (Qc (Value.ref b :: As).toArray) XC free := by
  have hK : vx_Back l R p e below s args y 3 8 (PreOf R mc ms Pc) (PostOf Qc mc ms free) (vx_Post XC mc ms free) := vx_callBack cw.1 hM hp.1
  obtain ⟨⟨-, -, -, -, -, -, hcode, -, hy, hlen, hl⟩, hin, hse⟩ := cw
  obtain ⟨hx, hb, hml, ho, -⟩ := S
  obtain ⟨-, ⟨cellB, hcB, hoB, hclB⟩, hPc⟩ := hp
  intro T hT X
  rcases vx_callV X hx (C := C) (bytes := bytes) (maxL := maxL) (ret := ret) ho hl hin hse hcode hy hK (by rw [hT]; exact hcB) hoB hclB hg (hsize.trans hml.symm) (argsL := As) (rest := rest) (fun sig h => hn.trans (hlen sig h)) hstack hW (by rw [hb]; exact hdg)
    (fun vm₁ hW₁ => ⟨hf.1, hf.2, hPc (T.setVm vm₁) hT hW₁⟩) with ⟨v, vm₁, ⟨U', l2, c2, s2⟩, hW₁, X', ⟨g', mk, t, L, e1, e2, hq, h1, hL, h2, h3⟩, st⟩ | ⟨q, vm₁, ⟨U', l2, c2, s2⟩, hW₁, X', ⟨g', mk, t, L, E, ce, e1, e2, hq, hce, hcv, hcl, h1, hL, h2, h3⟩, st⟩
  · dsimp only [Pt.U, Pt.locs, Pt.cells, Pt.slots] at X' e1 e2 h1 h2 h3 st
    subst h1; subst h2; subst h3
    exact Or.inl ⟨v, (T.setVm vm₁).calling g' mk (Value.ref b :: As).toArray, t, U', L, hT, X', hL, e1, e2, hq, st⟩
  · dsimp only [Pt.U, Pt.locs, Pt.cells, Pt.slots] at X' e1 e2 h1 h2 h3 st hcl
    subst h1; subst h2; subst h3
    exact Or.inr ⟨q, (T.setVm vm₁).calling g' mk (Value.ref b :: As).toArray, t, U', L, E, ce, hT, X', hL, e1, e2, hq, hce, hcv, vx_cls hW₁ hcl, st⟩
theorem vx_runS (S : CallFix p m c cc nL s args Ts own) (hM : vx_Met l y ws rm Pc Qc XC mc ms free) (cw : CallB R s args own index y bytes maxL ret ws rm mc ms n ∧ (Cond.static y).before args s = true) (hp : PreS s H Pc As)
    (hg : g.method = m) (hn : As.length = n) (hsize : g.locals.size = nL) (hstack : g.stack = As.reverse ++ rest) (hW : 2 * g.monitorRoom + (rest.map fun v => v.category).sum ≤ 8) (hdg : decode cc g.pc = .ok (.invokestatic index, 3)) (hf : cells + mc ≤ R.cells ∧ slots + ms ≤ R.slots) :
    vx_Run p l e R s m args below meth c H locs cells slots mc ms g rest (Qc As.toArray) XC free := by
  have hK : vx_Back l R p e below s args y 3 8 (PreOf R mc ms Pc) (PostOf Qc mc ms free) (vx_Post XC mc ms free) := vx_callBack cw.1 hM hp.1
  obtain ⟨⟨-, -, -, -, -, -, hcode, hini, hy, hlen, hl⟩, hstt⟩ := cw
  obtain ⟨hx, hb, hml, ho, -⟩ := S
  intro T hT X
  rcases vx_callS X hx (bytes := bytes) (maxL := maxL) (ret := ret) ho hl hstt hini hcode hy hK hg (hsize.trans hml.symm) (argsL := As) (rest := rest) (fun sig h => hn.trans (hlen sig h)) hstack hW (by rw [hb]; exact hdg)
    (fun vm₁ hW₁ => ⟨hf.1, hf.2, hp.2 (T.setVm vm₁) hT hW₁⟩) with ⟨v, vm₁, ⟨U', l2, c2, s2⟩, hW₁, X', ⟨g', mk, t, L, e1, e2, hq, h1, hL, h2, h3⟩, st⟩ | ⟨q, vm₁, ⟨U', l2, c2, s2⟩, hW₁, X', ⟨g', mk, t, L, E, ce, e1, e2, hq, hce, hcv, hcl, h1, hL, h2, h3⟩, st⟩
  · dsimp only [Pt.U, Pt.locs, Pt.cells, Pt.slots] at X' e1 e2 h1 h2 h3 st
    subst h1; subst h2; subst h3
    exact Or.inl ⟨v, (T.setVm vm₁).calling g' mk As.toArray, t, U', L, hT, X', hL, e1, e2, hq, st⟩
  · dsimp only [Pt.U, Pt.locs, Pt.cells, Pt.slots] at X' e1 e2 h1 h2 h3 st hcl
    subst h1; subst h2; subst h3
    exact Or.inr ⟨q, (T.setVm vm₁).calling g' mk As.toArray, t, U', L, E, ce, hT, X', hL, e1, e2, hq, hce, hcv, vx_cls hW₁ hcl, st⟩
end Runs
section Rows
variable {p : Program} {l : Launch} {e : Env} {R : Room} {s : State} {m : MethodId} {args : Array Value} {below : List Frame} {meth : Method} {c : Code} {H : Heap} {locs : List Loc} {cells slots : Nat} {Q : State → Prop}
variable {mc ms : Nat} {free : Addr → Prop} {A0 A1 : Nat → Prop} {H0 : Heap} {a : Array Value} {pc : Nat} {ls : Array Slot} {st0 rest : List Value}
theorem vx_keep {st₀ t T' : State} {L : List Loc} (h0 : st₀.heap = H) (e1 : T'.heap = t.heap) (hS : va_S A0 H0 H locs) (hA : ∀ q, q < H.size → A1 q → A0 q) (hf : ∀ q, free q → A0 q) (hL : ∀ q ∈ L, free q.base) (hF : va_F A1 st₀ t) :
    H.size ≤ T'.heap.size ∧ (∀ q : Nat, q < H.size → ¬ A1 q → T'.heap[q]? = H[q]?) ∧ va_S A0 H0 T'.heap (locs ++ L) := by
  obtain ⟨hz, hk⟩ := hF
  rw [h0] at hz hk
  exact ⟨by rw [e1]; exact hz, fun q h1 h2 => by rw [e1]; exact hk q h1 h2,
    ⟨Nat.le_trans hS.1 (by rw [e1]; exact hz), fun q h1 h2 => by rw [e1, hk q (Nat.lt_of_lt_of_le h1 hS.1) (fun z => h2 (hA q (Nat.lt_of_lt_of_le h1 hS.1) z))]; exact hS.2.1 q h1 h2, fun q hq => by
      rcases List.mem_append.mp hq with h | h
      · exact hS.2.2 q h
      · exact hf _ (hL q h)⟩⟩
theorem vx_calli {S SX : Type} {post : Int32 → S → Prop} {px : SX → Prop} {B : S → State → Prop} {BX : String → SX → State → Prop} {AX : Nat → Prop} (hr : vx_Run p l e R s m args below meth c H locs cells slots mc ms (F0 m pc ls st0) rest (va_Qi post B A1 a) (vx_X px BX AX) free) (hS : va_S A0 H0 H locs) (hA : ∀ q, q < H.size → A1 q → A0 q) (hf : ∀ q, free q → A0 q) (hAX : ∀ q, q < H.size → AX q → A0 q)
    (kx : ∀ (E : String) (ce : Cell) (q9 : Addr) (u : SX) (t : State) (H1 : Heap) (locs1 : List Loc), t.heap = H1 → s.vm.Alike t.vm → px u → BX E u t → H.size ≤ H1.size → (∀ q : Nat, q < H.size → ¬ AX q → H1[q]? = H[q]?) → va_S A0 H0 H1 locs1 → H1[q9]? = some ce → ce.vm = .none → s.vm.findClass E = some ce.cls → vx_W p l e R s m args below meth c H1 locs1 (cells + mc) (slots + ms) Q (F0 m pc ls rest) q9)
    (kk : ∀ (r : Int32) (u : S) (t : State) (H1 : Heap) (locs1 : List Loc), t.heap = H1 → s.vm.Alike t.vm → post r u → B u t → H.size ≤ H1.size → (∀ q : Nat, q < H.size → ¬ A1 q → H1[q]? = H[q]?) → va_S A0 H0 H1 locs1 → W p l e R s m args below meth c H1 locs1 (cells + mc) (slots + ms) Q (F0 m (pc + 3) ls (.int r :: rest))) : W p l e R s m args below meth c H locs cells slots Q (F0 m pc ls st0) := by
  intro T hT X
  rcases hr T hT X with ⟨v, st₀, t, T', L, h0, X', hL, e1, e2, ⟨⟨r, u, hv, hp, hb⟩, hF⟩, st⟩ | ⟨q, st₀, t, T', L, E, ce, h0, X', hL, e1, e2, ⟨u, hp, hb, hF⟩, hce, hcv, hcl, st⟩
  · cases hv
    obtain ⟨k1, k2, k3⟩ := vx_keep h0 e1 hS hA hf hL hF
    obtain ⟨t2, a1, b1⟩ := kk r u t T'.heap (locs ++ L) e1.symm (by rw [← e2]; exact X'.warmed.alike) hp hb k1 k2 k3 T' rfl X'
    exact ⟨t2, st t2 a1, b1⟩
  · obtain ⟨k1, k2, k3⟩ := vx_keep h0 e1 hS hAX hf hL hF
    obtain ⟨t2, a1, b1⟩ := kx E ce q u t T'.heap (locs ++ L) e1.symm (by rw [← e2]; exact X'.warmed.alike) hp hb k1 k2 k3 (by rw [e1]; exact hce) hcv hcl T' rfl X'
    exact ⟨t2, st.trans a1, b1⟩
theorem vx_calll {S SX : Type} {post : Int64 → S → Prop} {px : SX → Prop} {B : S → State → Prop} {BX : String → SX → State → Prop} {AX : Nat → Prop} (hr : vx_Run p l e R s m args below meth c H locs cells slots mc ms (F0 m pc ls st0) rest (va_Ql post B A1 a) (vx_X px BX AX) free) (hS : va_S A0 H0 H locs) (hA : ∀ q, q < H.size → A1 q → A0 q) (hf : ∀ q, free q → A0 q) (hAX : ∀ q, q < H.size → AX q → A0 q)
    (kx : ∀ (E : String) (ce : Cell) (q9 : Addr) (u : SX) (t : State) (H1 : Heap) (locs1 : List Loc), t.heap = H1 → s.vm.Alike t.vm → px u → BX E u t → H.size ≤ H1.size → (∀ q : Nat, q < H.size → ¬ AX q → H1[q]? = H[q]?) → va_S A0 H0 H1 locs1 → H1[q9]? = some ce → ce.vm = .none → s.vm.findClass E = some ce.cls → vx_W p l e R s m args below meth c H1 locs1 (cells + mc) (slots + ms) Q (F0 m pc ls rest) q9)
    (kk : ∀ (r : Int64) (u : S) (t : State) (H1 : Heap) (locs1 : List Loc), t.heap = H1 → s.vm.Alike t.vm → post r u → B u t → H.size ≤ H1.size → (∀ q : Nat, q < H.size → ¬ A1 q → H1[q]? = H[q]?) → va_S A0 H0 H1 locs1 → W p l e R s m args below meth c H1 locs1 (cells + mc) (slots + ms) Q (F0 m (pc + 3) ls (.long r :: rest))) : W p l e R s m args below meth c H locs cells slots Q (F0 m pc ls st0) := by
  intro T hT X
  rcases hr T hT X with ⟨v, st₀, t, T', L, h0, X', hL, e1, e2, ⟨⟨r, u, hv, hp, hb⟩, hF⟩, st⟩ | ⟨q, st₀, t, T', L, E, ce, h0, X', hL, e1, e2, ⟨u, hp, hb, hF⟩, hce, hcv, hcl, st⟩
  · cases hv
    obtain ⟨k1, k2, k3⟩ := vx_keep h0 e1 hS hA hf hL hF
    obtain ⟨t2, a1, b1⟩ := kk r u t T'.heap (locs ++ L) e1.symm (by rw [← e2]; exact X'.warmed.alike) hp hb k1 k2 k3 T' rfl X'
    exact ⟨t2, st t2 a1, b1⟩
  · obtain ⟨k1, k2, k3⟩ := vx_keep h0 e1 hS hAX hf hL hF
    obtain ⟨t2, a1, b1⟩ := kx E ce q u t T'.heap (locs ++ L) e1.symm (by rw [← e2]; exact X'.warmed.alike) hp hb k1 k2 k3 (by rw [e1]; exact hce) hcv hcl T' rfl X'
    exact ⟨t2, st.trans a1, b1⟩
theorem vx_callf {S SX : Type} {post : UInt32 → S → Prop} {px : SX → Prop} {B : S → State → Prop} {BX : String → SX → State → Prop} {AX : Nat → Prop} (hr : vx_Run p l e R s m args below meth c H locs cells slots mc ms (F0 m pc ls st0) rest (va_Qf post B A1 a) (vx_X px BX AX) free) (hS : va_S A0 H0 H locs) (hA : ∀ q, q < H.size → A1 q → A0 q) (hf : ∀ q, free q → A0 q) (hAX : ∀ q, q < H.size → AX q → A0 q)
    (kx : ∀ (E : String) (ce : Cell) (q9 : Addr) (u : SX) (t : State) (H1 : Heap) (locs1 : List Loc), t.heap = H1 → s.vm.Alike t.vm → px u → BX E u t → H.size ≤ H1.size → (∀ q : Nat, q < H.size → ¬ AX q → H1[q]? = H[q]?) → va_S A0 H0 H1 locs1 → H1[q9]? = some ce → ce.vm = .none → s.vm.findClass E = some ce.cls → vx_W p l e R s m args below meth c H1 locs1 (cells + mc) (slots + ms) Q (F0 m pc ls rest) q9)
    (kk : ∀ (r : UInt32) (u : S) (t : State) (H1 : Heap) (locs1 : List Loc), t.heap = H1 → s.vm.Alike t.vm → post r u → B u t → H.size ≤ H1.size → (∀ q : Nat, q < H.size → ¬ A1 q → H1[q]? = H[q]?) → va_S A0 H0 H1 locs1 → W p l e R s m args below meth c H1 locs1 (cells + mc) (slots + ms) Q (F0 m (pc + 3) ls (.float r :: rest))) : W p l e R s m args below meth c H locs cells slots Q (F0 m pc ls st0) := by
  intro T hT X
  rcases hr T hT X with ⟨v, st₀, t, T', L, h0, X', hL, e1, e2, ⟨⟨r, u, hv, hp, hb⟩, hF⟩, st⟩ | ⟨q, st₀, t, T', L, E, ce, h0, X', hL, e1, e2, ⟨u, hp, hb, hF⟩, hce, hcv, hcl, st⟩
  · cases hv
    obtain ⟨k1, k2, k3⟩ := vx_keep h0 e1 hS hA hf hL hF
    obtain ⟨t2, a1, b1⟩ := kk r u t T'.heap (locs ++ L) e1.symm (by rw [← e2]; exact X'.warmed.alike) hp hb k1 k2 k3 T' rfl X'
    exact ⟨t2, st t2 a1, b1⟩
  · obtain ⟨k1, k2, k3⟩ := vx_keep h0 e1 hS hAX hf hL hF
    obtain ⟨t2, a1, b1⟩ := kx E ce q u t T'.heap (locs ++ L) e1.symm (by rw [← e2]; exact X'.warmed.alike) hp hb k1 k2 k3 (by rw [e1]; exact hce) hcv hcl T' rfl X'
    exact ⟨t2, st.trans a1, b1⟩
theorem vx_calld {S SX : Type} {post : UInt64 → S → Prop} {px : SX → Prop} {B : S → State → Prop} {BX : String → SX → State → Prop} {AX : Nat → Prop} (hr : vx_Run p l e R s m args below meth c H locs cells slots mc ms (F0 m pc ls st0) rest (va_Qd post B A1 a) (vx_X px BX AX) free) (hS : va_S A0 H0 H locs) (hA : ∀ q, q < H.size → A1 q → A0 q) (hf : ∀ q, free q → A0 q) (hAX : ∀ q, q < H.size → AX q → A0 q)
    (kx : ∀ (E : String) (ce : Cell) (q9 : Addr) (u : SX) (t : State) (H1 : Heap) (locs1 : List Loc), t.heap = H1 → s.vm.Alike t.vm → px u → BX E u t → H.size ≤ H1.size → (∀ q : Nat, q < H.size → ¬ AX q → H1[q]? = H[q]?) → va_S A0 H0 H1 locs1 → H1[q9]? = some ce → ce.vm = .none → s.vm.findClass E = some ce.cls → vx_W p l e R s m args below meth c H1 locs1 (cells + mc) (slots + ms) Q (F0 m pc ls rest) q9)
    (kk : ∀ (r : UInt64) (u : S) (t : State) (H1 : Heap) (locs1 : List Loc), t.heap = H1 → s.vm.Alike t.vm → post r u → B u t → H.size ≤ H1.size → (∀ q : Nat, q < H.size → ¬ A1 q → H1[q]? = H[q]?) → va_S A0 H0 H1 locs1 → W p l e R s m args below meth c H1 locs1 (cells + mc) (slots + ms) Q (F0 m (pc + 3) ls (.double r :: rest))) : W p l e R s m args below meth c H locs cells slots Q (F0 m pc ls st0) := by
  intro T hT X
  rcases hr T hT X with ⟨v, st₀, t, T', L, h0, X', hL, e1, e2, ⟨⟨r, u, hv, hp, hb⟩, hF⟩, st⟩ | ⟨q, st₀, t, T', L, E, ce, h0, X', hL, e1, e2, ⟨u, hp, hb, hF⟩, hce, hcv, hcl, st⟩
  · cases hv
    obtain ⟨k1, k2, k3⟩ := vx_keep h0 e1 hS hA hf hL hF
    obtain ⟨t2, a1, b1⟩ := kk r u t T'.heap (locs ++ L) e1.symm (by rw [← e2]; exact X'.warmed.alike) hp hb k1 k2 k3 T' rfl X'
    exact ⟨t2, st t2 a1, b1⟩
  · obtain ⟨k1, k2, k3⟩ := vx_keep h0 e1 hS hAX hf hL hF
    obtain ⟨t2, a1, b1⟩ := kx E ce q u t T'.heap (locs ++ L) e1.symm (by rw [← e2]; exact X'.warmed.alike) hp hb k1 k2 k3 (by rw [e1]; exact hce) hcv hcl T' rfl X'
    exact ⟨t2, st.trans a1, b1⟩
theorem vx_callv {S SX : Type} {post : S → Prop} {px : SX → Prop} {B : S → State → Prop} {BX : String → SX → State → Prop} {AX : Nat → Prop} (hr : vx_Run p l e R s m args below meth c H locs cells slots mc ms (F0 m pc ls st0) rest (va_Qv post B A1 a) (vx_X px BX AX) free) (hS : va_S A0 H0 H locs) (hA : ∀ q, q < H.size → A1 q → A0 q) (hf : ∀ q, free q → A0 q) (hAX : ∀ q, q < H.size → AX q → A0 q)
    (kx : ∀ (E : String) (ce : Cell) (q9 : Addr) (u : SX) (t : State) (H1 : Heap) (locs1 : List Loc), t.heap = H1 → s.vm.Alike t.vm → px u → BX E u t → H.size ≤ H1.size → (∀ q : Nat, q < H.size → ¬ AX q → H1[q]? = H[q]?) → va_S A0 H0 H1 locs1 → H1[q9]? = some ce → ce.vm = .none → s.vm.findClass E = some ce.cls → vx_W p l e R s m args below meth c H1 locs1 (cells + mc) (slots + ms) Q (F0 m pc ls rest) q9)
    (kk : ∀ (u : S) (t : State) (H1 : Heap) (locs1 : List Loc), t.heap = H1 → s.vm.Alike t.vm → post u → B u t → H.size ≤ H1.size → (∀ q : Nat, q < H.size → ¬ A1 q → H1[q]? = H[q]?) → va_S A0 H0 H1 locs1 → W p l e R s m args below meth c H1 locs1 (cells + mc) (slots + ms) Q (F0 m (pc + 3) ls (rest))) : W p l e R s m args below meth c H locs cells slots Q (F0 m pc ls st0) := by
  intro T hT X
  rcases hr T hT X with ⟨v, st₀, t, T', L, h0, X', hL, e1, e2, ⟨⟨u, hv, hp, hb⟩, hF⟩, st⟩ | ⟨q, st₀, t, T', L, E, ce, h0, X', hL, e1, e2, ⟨u, hp, hb, hF⟩, hce, hcv, hcl, st⟩
  · cases hv
    obtain ⟨k1, k2, k3⟩ := vx_keep h0 e1 hS hA hf hL hF
    obtain ⟨t2, a1, b1⟩ := kk u t T'.heap (locs ++ L) e1.symm (by rw [← e2]; exact X'.warmed.alike) hp hb k1 k2 k3 T' rfl X'
    exact ⟨t2, st t2 a1, b1⟩
  · obtain ⟨k1, k2, k3⟩ := vx_keep h0 e1 hS hAX hf hL hF
    obtain ⟨t2, a1, b1⟩ := kx E ce q u t T'.heap (locs ++ L) e1.symm (by rw [← e2]; exact X'.warmed.alike) hp hb k1 k2 k3 (by rw [e1]; exact hce) hcv hcl T' rfl X'
    exact ⟨t2, st.trans a1, b1⟩
/-- caught by the row x of this method's table; the rows ahead don't take it -/
theorem vx_catch {own name : String} {E : String} {ce : Cell} {q : Addr} (hown : s.vm.findClass own = some m.cls) (pre : List ExceptionTableEntry) (x : ExceptionTableEntry) (suf : List ExceptionTableEntry) (hsplit : c.exceptionTable.toList = pre ++ x :: suf)
    (hpass : ∀ z ∈ pre, covers z pc = false ∨ (z.catchType ≠ 0 ∧ ∃ nm : String, (Cond.classLink own z.catchType nm).before args s = true ∧ va_Nc E nm s)) (hx : covers x pc = true) (h0 : x.catchType ≠ 0)
    (hlink : (Cond.classLink own x.catchType name).before args s = true) (hcast : (Cond.castable E name).before args s = true) (hcell : H[q]? = some ce) (hv : ce.vm = .none) (hcl : s.vm.findClass E = some ce.cls)
    (kk : W p l e R s m args below meth c H locs cells slots Q (F0 m x.handlerPc ls [.ref q])) : vx_W p l e R s m args below meth c H locs cells slots Q (F0 m pc ls rest) q := by
  intro T hT X
  have hpl : e.platform.magicAccessors = ({} : Platform).magicAccessors := by rw [X.admits.platform]
  obtain ⟨c3, c4, hc3, hc4, hasg⟩ := Cond.castable_spec hcast
  cases Option.some.inj (hc3.symm.trans hcl)
  obtain ⟨c5, hc5, hcl5⟩ := Cond.classLink_spec hown hlink e.platform hpl
  cases Option.some.inj (hc4.symm.trans hc5)
  obtain ⟨vm', X', st⟩ := X.thenCaughtThrough q (g := F0 m pc ls rest) rfl (Steps.refl _) (by rw [hT]; exact hcell) (by rw [hv]; rfl) (by obtain ⟨k9, h9, -⟩ := Vm.findClass_spec hcl; exact ⟨k9, h9⟩) pre x suf hsplit
    (fun z hz => by
      rcases hpass z hz with h | ⟨hz0, nm, hl1, hn1⟩
      · exact Or.inl h
      · obtain ⟨c6, hc6, hcl6⟩ := Cond.classLink_spec hown hl1 e.platform hpl
        obtain ⟨a8, b8, h1, h2, h3⟩ := hn1
        cases Option.some.inj (h1.symm.trans hcl)
        cases Option.some.inj (h2.symm.trans hc6)
        exact Or.inr ⟨hz0, _, hcl6, h3⟩) hx (Or.inr ⟨h0, c4, hcl5, hasg⟩)
  obtain ⟨t, a1, b1⟩ := kk (T.setVm vm') hT X'
  exact ⟨t, st.trans a1, b1⟩
end Rows
section Ends
variable {p : Program} {l : Launch} {e : Env} {R : Room} {s : State} {m : MethodId} {args : Array Value} {below : List Frame} {meth : Method} {c : Code} {H : Heap} {locs : List Loc} {cells slots : Nat} {Q : State → Prop}
variable {mc ms : Nat} {free : Addr → Prop} {A0 A1 : Nat → Prop} {H0 : Heap} {a : Array Value} {ls : Array Slot} {st0 rest : List Value}
variable {Qc : Array Value → State → Outcome → State → Prop} {XC : String → State → State → Prop}
/-- what a body that may throw owes at its end -/
def vx_MQ (below : List Frame) (Qc : Array Value → State → Outcome → State → Prop) (XC : String → State → State → Prop) (a : Array Value) (s : State) (mc ms : Nat) (free : Addr → Prop) : State → Prop := fun t =>
  ∃ o, t.status = .running ∧ Ended t below o ∧ vx_Q Qc XC mc ms free a s o t
theorem vx_ret {g : JFrame} {mc ms : Nat} (k : W p l e R s m args below meth c H locs cells slots (MQ below Qc args s mc ms free) g) : W p l e R s m args below meth c H locs cells slots (vx_MQ below Qc XC args s mc ms free) g := by
  intro T hT X
  obtain ⟨t, a1, o, b1, b2, b3, b4⟩ := k T hT X
  exact ⟨t, a1, o, b1, b2, Or.inl ⟨b3, b4⟩⟩
/-- not caught here: it goes on to the caller -/
theorem vx_widen {g : JFrame} {q : Addr} {k n : Nat} (h1 : cells ≤ k) (h2 : slots ≤ n) (kk : vx_W p l e R s m args below meth c H locs k n Q g q) : vx_W p l e R s m args below meth c H locs cells slots Q g q := fun T hT X => kk T hT (stand_widen X h1 h2)
theorem vx_out {pc : Nat} {E : String} {ce : Cell} {q : Addr} {mc ms : Nat} (hout : ∀ x ∈ c.exceptionTable.toList, covers x pc = false) (hlocks : meth.locks = false) (hcell : H[q]? = some ce) (hv : ce.vm = .none) (hcl : s.vm.findClass E = some ce.cls)
    (hx : ∀ t : State, t.heap = H → s.vm.Alike t.vm → XC E s t) (hf : ∀ z ∈ locs, free z.base) (hc : cells ≤ mc) (hs : slots ≤ ms) :
    vx_W p l e R s m args below meth c H locs cells slots (vx_MQ below Qc XC args s mc ms free) (F0 m pc ls rest) q := by
  intro T hT X
  obtain ⟨st1, hrun, hend, hW, hsm⟩ := X.leaveThrown q (g := F0 m pc ls rest) rfl rfl rfl hout hlocks
  have hcell9 : (T.setFrames (.throwing q :: below)).heap[q]? = some ce := by
    show T.heap[q]? = some ce
    rw [hT]; exact hcell
  exact ⟨_, st1, .threw q, hrun, hend, Or.inr ⟨q, rfl, E, ce, locs, hx _ hT hW.alike, hcell9, hv, hcl, hW, hsm.mono hc hs, hf⟩⟩
theorem vx_frame {U : State} {k n : Nat} (h : s.sameButNew ({ U with vm := s.vm } : State) locs k n) : s.heap.size ≤ U.heap.size ∧ ∀ q : Nat, q < s.heap.size → (∀ z ∈ locs, z.base ≠ q) → U.heap[q]? = s.heap[q]? := by
  obtain ⟨-, h2, -, -, -, h6⟩ := h
  refine ⟨h2, fun q hq hz => ?_⟩
  obtain ⟨c9, e1, e2, e3, e4⟩ := h6 q _ (Array.getElem?_eq_getElem hq)
  have hs : c9.slots = (s.heap[q]).slots := Array.ext_getElem? fun i => e4 i fun hm => hz _ hm rfl
  have h9 : c9 = s.heap[q] := by
    rw [hs] at e2
    exact e2
  have e5 : U.heap[q]? = some c9 := e1
  rw [e5, h9, Array.getElem?_eq_getElem hq]
/-- the words of a throw but the four that speak of the heap -/
def vx_no (w : Cond) : Bool := decide (w ≠ .isRef (.static Bundle.tN "UNASSIGNED_STACK" Bundle.steD)) && decide (w ≠ .isRef (.static Bundle.tN "SUPPRESSED_SENTINEL" Bundle.listD)) && decide (w ≠ .laysStatic Bundle.tN "UNASSIGNED_STACK" Bundle.steD) && decide (w ≠ .laysStatic Bundle.tN "SUPPRESSED_SENTINEL" Bundle.listD)
def vx_at0 (own : String) (ic : Nat) (X : String) (names : List String) : List Cond := (Bundle.ownAtoms0 own ic X names).filter vx_no
def vx_atS (own : String) (ic : Nat) (X : String) (names : List String) : List Cond := (Bundle.ownAtoms own ic X names).filter vx_no
/-- a word that the tables alone decide, or a good one -/
def vx_ot (w : Cond) : Bool := w.onTables || goodWord w
theorem vx_ot_at {args a' : Array Value} {s U : State} {w : Cond} (hW : s.WarmedH U.vm) (hvm : s.vm = U.vm) (hg : vx_ot w = true) (h : w.before args s = true) : w.before a' U = true := by
  simp only [vx_ot, Bool.or_eq_true] at hg
  rcases hg with hg | hg
  · exact va_tabs hg hvm h
  · exact word_at hW (good_of_word hg) h
/-- a list's words: the good ones out of the method's own list, the others by premises of their own -/
theorem vx_hat {args : Array Value} {s : State} {L B : List Cond} (h1 : ∀ w ∈ L.filter goodWord, w.before args s = true) (h2 : ∀ w ∈ L.filter (fun w => !goodWord w), w ∈ B) (h3 : ∀ w ∈ B, w.before args s = true) : ∀ w ∈ L, w.before args s = true := by
  intro w hw
  by_cases g : goodWord w = true
  · exact h1 w (List.mem_filter.mpr ⟨hw, g⟩)
  · refine h3 w (h2 w (List.mem_filter.mpr ⟨hw, ?_⟩))
    show (!goodWord w) = true
    cases hgw : goodWord w
    · rfl
    · exact absurd hgw g
theorem vx_c {args : Array Value} {s : State} {w : Cond} {B : List Cond} (h : w.before args s = true) (t : ∀ w ∈ B, w.before args s = true) : ∀ w' ∈ w :: B, w'.before args s = true := fun w' h' => (List.mem_cons.mp h').elim (fun e => by rw [e]; exact h) (t w')
theorem vx_n {args : Array Value} {s : State} : ∀ w ∈ ([] : List Cond), w.before args s = true := fun _ h => nomatch h
theorem vx_own {args : Array Value} {s : State} {L : List Cond} (h1 : ∀ w ∈ L.filter vx_no, w.before args s = true)
    (hU : (Cond.isRef (.static Bundle.tN "UNASSIGNED_STACK" Bundle.steD)).before args s = true) (hN : (Cond.isRef (.static Bundle.tN "SUPPRESSED_SENTINEL" Bundle.listD)).before args s = true)
    (lU : (Cond.laysStatic Bundle.tN "UNASSIGNED_STACK" Bundle.steD).before args s = true) (lN : (Cond.laysStatic Bundle.tN "SUPPRESSED_SENTINEL" Bundle.listD).before args s = true) : ∀ w ∈ L, w.before args s = true := by
  intro w hw
  by_cases e1 : w = .isRef (.static Bundle.tN "UNASSIGNED_STACK" Bundle.steD)
  · rw [e1]; exact hU
  · by_cases e2 : w = .isRef (.static Bundle.tN "SUPPRESSED_SENTINEL" Bundle.listD)
    · rw [e2]; exact hN
    · by_cases e3 : w = .laysStatic Bundle.tN "UNASSIGNED_STACK" Bundle.steD
      · rw [e3]; exact lU
      · by_cases e4 : w = .laysStatic Bundle.tN "SUPPRESSED_SENTINEL" Bundle.listD
        · rw [e4]; exact lN
        · exact h1 w (List.mem_filter.mpr ⟨hw, by unfold vx_no; rw [decide_eq_true e1, decide_eq_true e2, decide_eq_true e3, decide_eq_true e4]; rfl⟩)
/-- where a static field lies, its class's statics cell in H -/
def vx_L (C n d : String) (A : Nat → Prop) (U : State) (H : Heap) : Prop := ∃ (c : ClassId) (k : Class) (i : Nat) (f : Field) (a : Nat) (cell : Cell), U.vm.findClass C = some c ∧ U.fieldFound? C n d = some (c, k, i, f) ∧ f.isStatic = true ∧ k.statics = some a ∧ H[a]? = some cell ∧ cell.vm.isStatics = true ∧ cell.cls = c ∧ f.slot < cell.slots.size ∧ k.staticTypes[f.slot]? = some f.type ∧ ¬ A a
theorem vx_L.moved {C n d : String} {A : Nat → Prop} {u U : State} {H : Heap} (hvm : u.vm.Alike U.vm) (h : vx_L C n d A u H) : vx_L C n d A U H := by
  obtain ⟨c, k, i, f, a, cell, h1, h2, h3, h4, h5, h6, h7, h8, h9, h10⟩ := h
  obtain ⟨k', hi', he⟩ := State.fieldFound?_setVm hvm h2
  exact ⟨c, k', i, f, a, cell, by rw [hvm.findClass]; exact h1, hi', h3, by rw [he]; exact h4, h5, h6, h7, h8, by rw [he]; exact h9, h10⟩
theorem vx_L.kept {C n d : String} {A : Nat → Prop} {U : State} {H H1 : Heap} (h : vx_L C n d A U H) (hq : ∀ a : Nat, a < H.size → ¬ A a → H1[a]? = H[a]?) : vx_L C n d A U H1 := by
  obtain ⟨c, k, i, f, a, cell, h1, h2, h3, h4, h5, h6, h7, h8, h9, h10⟩ := h
  exact ⟨c, k, i, f, a, cell, h1, h2, h3, h4, by rw [hq a (Array.getElem?_eq_some_iff.mp h5).1 h10]; exact h5, h6, h7, h8, h9, h10⟩
theorem vx_L.narrow {C n d : String} {A B : Nat → Prop} {U : State} {H : Heap} (h : vx_L C n d A U H) (hAB : ∀ q, B q → A q) : vx_L C n d B U H := by
  obtain ⟨c, k, i, f, a, cell, h1, h2, h3, h4, h5, h6, h7, h8, h9, h10⟩ := h
  exact ⟨c, k, i, f, a, cell, h1, h2, h3, h4, h5, h6, h7, h8, h9, fun z => h10 (hAB _ z)⟩
theorem vx_L.word {C n d : String} {A : Nat → Prop} {s : State} {args : Array Value} (h : vx_L C n d A s s.heap) : (Cond.laysStatic C n d).before args s = true := by
  obtain ⟨c, k, i, f, a, cell, h1, h2, h3, h4, h5, h6, h7, h8, h9, -⟩ := h
  show (Cond.laysStatic C n d).holds args s none s [] = true
  exact Cond.laysStatic_of h1 h2 h3 h4 h5 h6 h7 h8 h9
/-- .. and what it holds: null or some reference -/
def vx_Zq (C n d : String) (A : Nat → Prop) (U : State) (H : Heap) : Prop := va_Zq C n d A U H ∧ vx_L C n d A U H
theorem vx_Zq.moved {C n d : String} {A : Nat → Prop} {u U : State} {H : Heap} (hvm : u.vm.Alike U.vm) (h : vx_Zq C n d A u H) : vx_Zq C n d A U H := ⟨va_Zq.moved hvm h.1, vx_L.moved hvm h.2⟩
theorem vx_Zq.kept {C n d : String} {A : Nat → Prop} {U : State} {H H1 : Heap} (h : vx_Zq C n d A U H) (hq : ∀ a : Nat, a < H.size → ¬ A a → H1[a]? = H[a]?) : vx_Zq C n d A U H1 := ⟨va_Zq.kept h.1 hq, vx_L.kept h.2 hq⟩
theorem vx_Zq.narrow {C n d : String} {A B : Nat → Prop} {U : State} {H : Heap} (h : vx_Zq C n d A U H) (hAB : ∀ q, B q → A q) : vx_Zq C n d B U H := ⟨va_Zq.narrow h.1 hAB, vx_L.narrow h.2 hAB⟩
theorem vx_Zqof {args : Array Value} {s : State} {C n d : String} {A : Nat → Prop} (hl : (Cond.laysStatic C n d).before args s = true) (hini : (Cond.initialized C).before args s = true) (h : (Cond.isRef (.static C n d)).before args s = true) (hA : ∀ a : Nat, a < s.heap.size → ¬ A a) : vx_Zq C n d A s s.heap := by
  refine ⟨va_Zqof hl hini h hA, ?_⟩
  obtain ⟨c, k, i, f, a, cell, h1, h2, h3, h4, h5, h6, h7, h8, h9⟩ := Cond.laysStatic_spec hl
  exact ⟨c, k, i, f, a, cell, h1, h2, h3, h4, h5, h6, h7, h8, h9, hA a (Array.getElem?_eq_some_iff.mp h5).1⟩
theorem vx_isRef {C n d : String} {v : Value} {A : Nat → Prop} {s : State} {args : Array Value} (h : va_Z C n d v A s s.heap) (hv : v.isRef = true) : (Cond.isRef (.static C n d)).before args s = true := by
  obtain ⟨cf, kf, fi, f, a, cell, h1, h2, h3, h4, h5, h6, h7, -⟩ := h
  have he : (Term.static C n d).eval args s none [] s = some v := by
    simp [Term.eval, State.fieldNamed?, h1, h2, h4, h5, h6, h7]
  simp only [Cond.before, Cond.holds, Cond.value, he]
  cases v <;> simp_all [Value.isRef]
theorem vx_isRefq {C n d : String} {A : Nat → Prop} {s : State} {args : Array Value} (h : va_Zq C n d A s s.heap) : (Cond.isRef (.static C n d)).before args s = true := by
  rcases h with h | ⟨t, h⟩
  · exact vx_isRef h rfl
  · exact vx_isRef h rfl
/-- the same frame, seen from here: as if the method were called anew in this heap -/
theorem vx_rebase {T : State} (X : Stand p l e R s m args below meth c T locs cells slots) {R' : Room} (hf : R'.frames ≤ R.frames) (hl : R'.locals ≤ R.locals) (hc : cells + R'.cells ≤ R.cells) (hs : slots + R'.slots ≤ R.slots) :
    Stand p l e R' ((T.setVm s.vm).setFrames (.invoking m args :: below)) m args below meth c T [] 0 0 := by
  have htop : (T.setVm s.vm).topJava?.isSome := X.here.top
  have hF : ((T.setVm s.vm).setFrames (.invoking m args :: below)).frames = .invoking m args :: below := State.frames_setFrames _ (State.cur_lt_of_top htop)
  obtain ⟨g₀, hg0⟩ := Option.isSome_iff_exists.mp htop
  obtain ⟨r, hr⟩ := State.topJava?_eq_some.mp hg0
  have hl9 : e.platform.stackLimits (T.setVm s.vm).me = e.platform.stackLimits s.me := X.limits
  have hb9 : (T.setVm s.vm).me.stackBytes = s.me.stackBytes := X.bytes
  refine ⟨X.admits, X.cas, X.clock, hF, ?_, X.hears, X.method, X.code, X.here, X.tail, X.warmed, ?_, ?_, ?_⟩
  · have h := X.room
    have hU : ((T.setVm s.vm).setFrames (.invoking m args :: below)).localsInUse = s.localsInUse := by
      rw [State.localsInUse_invoking hF (meth := meth) (c := c) X.method X.code, State.localsInUse_invoking X.frames X.method X.code]
    simp only [State.hasRoom, Bool.and_eq_true, decide_eq_true_eq] at h ⊢
    obtain ⟨⟨⟨⟨h1, h2, h3, h4, h5, h6⟩, h7⟩, h8⟩, h9⟩ := h
    rw [X.frames, List.length_cons] at h2 h3
    have q1 := X.heapSize
    have q2 := X.used
    simp only [hF, hU, List.length_cons, State.stackLimits_setFrames, State.stackBytes_setFrames, hl9, hb9]
    refine ⟨⟨⟨⟨by omega, by omega, by omega, by omega, by omega, h6⟩, ?_⟩, ?_⟩, X.book⟩
    · show T.heap.size + R'.cells ≤ e.platform.maxCells
      omega
    · show T.slotsUsed + R'.slots ≤ e.platform.maxSlots
      omega
  · rw [State.stackLimits_setFrames]; rfl
  · rw [State.stackBytes_setFrames]; rfl
  · refine ⟨?_, Nat.le_refl _, Nat.le_refl _, ?_, ?_, fun a c9 h9 => ⟨c9, h9, rfl, rfl, fun _ _ => rfl⟩⟩
    · obtain ⟨t, ht, -⟩ := State.frames_cons hr
      show T.setVm s.vm = { ((T.setVm s.vm).setFrames (.invoking m args :: below)).setFrames (T.setVm s.vm).frames with heap := T.heap, slotsUsed := T.slotsUsed }
      rw [State.setFrames_setFrames, State.setFrames_self ht]
      rfl
    · show T.slotsUsed = T.slotsUsed + ((T.heap.toList.drop T.heap.size).map (·.slots.size)).sum
      rw [List.drop_eq_nil_of_le (Nat.le_of_eq Array.length_toList)]
      rfl
    · show ((T.heap.toList.drop T.heap.size).map (·.slots.size)).sum ≤ 0
      rw [List.drop_eq_nil_of_le (Nat.le_of_eq Array.length_toList)]
      exact Nat.le_refl _
/-- 'throw new E()': new; dup; invokespecial; athrow -/
theorem vx_throw0 {cc : ByteArray} {pc : Nat} (hexec : p.tables.exec = Jvm.exec) (hb : c.code = cc) (hl : l.stackTraces = false) {own cls : String} {names : List String} {ik ic mc ms : Nat} {A : Nat → Prop}
    (hown : s.vm.findClass own = some m.cls) (hcls : Bundle.fit cls = true) (hnames : ∀ n ∈ names, Bundle.fit n = true)
    (hk : (Cond.classLink own ik cls).before args s = true) (hini : (Cond.initialized cls).before args s = true) (hat : ∀ w ∈ vx_at0 own ic cls names, w.before args s = true)
    (hgood : ∀ w ∈ Cond.classLink own ik cls :: Cond.initialized cls :: vx_at0 own ic cls names, vx_ot w = true)
    (hU : vx_Zq Bundle.tN "UNASSIGNED_STACK" Bundle.steD A s s.heap) (hN : vx_Zq Bundle.tN "SUPPRESSED_SENTINEL" Bundle.listD A s s.heap) (hS : va_S A s.heap H locs) (hsize : ls.size = c.maxLocals)
    (d0 : decode cc pc = .ok (.new ik, 3)) (d3 : decode cc (pc + 3) = .ok (.dup, 1)) (d4 : decode cc (pc + 4) = .ok (.invokespecial ic, 3)) (d7 : decode cc (pc + 7) = .ok (.athrow, 1))
    (hout : ∀ x ∈ c.exceptionTable.toList, covers x (pc + 7) = false)
    (hRframes : names.length + 3 < R.frames) (hRlocals : (rest.map fun v => v.category).sum + (13 * (names.length + 1) + 42) ≤ R.locals) (hRcells : cells + 1 ≤ R.cells) (hRslots : slots + 6 ≤ R.slots) (hlocks : meth.locks = false)
    (hx : ∀ t : State, s.vm.Alike t.vm → H.size ≤ t.heap.size → (∀ q : Nat, q < H.size → t.heap[q]? = H[q]?) → XC cls s t)
    (hf : ∀ z ∈ locs, free z.base) (hc : cells + 1 ≤ mc) (hs : slots + 6 ≤ ms) :
    W p l e R s m args below meth c H locs cells slots (vx_MQ below Qc XC args s mc ms free) (F0 m pc ls rest) := by
  intro T hT X
  have htr : e.platform.stackTraces = false := (show e.platform.stackTraces = l.stackTraces by rw [X.admits.platform]).trans hl
  have Y := vx_rebase X (R' := { frames := R.frames, locals := R.locals, cells := 1, slots := 6 }) (Nat.le_refl _) (Nat.le_refl _) hRcells hRslots
  obtain ⟨s', hA⟩ : ∃ z, z = (T.setVm s.vm).setFrames (.invoking m args :: below) := ⟨_, rfl⟩
  rw [← hA] at Y
  have hvm : s'.vm = s.vm := by rw [hA]; rfl
  have hhp : s'.heap = H := by rw [hA]; exact hT
  have hW0 : s.WarmedH s'.vm := by rw [hvm]; exact State.WarmedH.refl s
  have hat' : ∀ w ∈ vx_at0 own ic cls names, w.before args s' = true := fun w hw => vx_ot_at hW0 hvm.symm (hgood w (List.mem_cons_of_mem _ (List.mem_cons_of_mem _ hw))) (hat w hw)
  have hk' : (Cond.classLink own ik cls).before args s' = true := vx_ot_at hW0 hvm.symm (hgood _ List.mem_cons_self) hk
  have hini' : (Cond.initialized cls).before args s' = true := vx_ot_at hW0 hvm.symm (hgood _ (List.mem_cons_of_mem _ List.mem_cons_self)) hini
  have hU' : vx_Zq Bundle.tN "UNASSIGNED_STACK" Bundle.steD A s' s'.heap := by rw [hhp]; exact vx_Zq.moved hW0.alike (hU.kept hS.2.1)
  have hN' : vx_Zq Bundle.tN "SUPPRESSED_SENTINEL" Bundle.listD A s' s'.heap := by rw [hhp]; exact vx_Zq.moved hW0.alike (hN.kept hS.2.1)
  have h : ∀ w ∈ Bundle.ownAtoms0 own ic cls names, w.before args s' = true := vx_own hat' (vx_isRefq hU'.1) (vx_isRefq hN'.1) hU'.2.word hN'.2.word
  have hown' : s'.vm.findClass own = some m.cls := by rw [hvm]; exact hown
  have hins : (Cond.instantiable cls 6).before args s' = true := h _ (by simp [Bundle.ownAtoms0])
  obtain ⟨vm₁, cX, kX, hfX, hkX, -, -, X₁, st1⟩ := Y.newCold hexec (own := own) (C := cls) (index := ik) (n := 6) hown' hk' hins hini'
    (g := F0 m pc ls rest) rfl (by rw [hb]; exact d0) (Nat.le_refl _) (Nat.le_refl _)
  generalize hT1 : (T.setVm vm₁).pushCell { cls := cX, slots := kX.instanceTypes.map defaultValue, vm := .none } = T1 at X₁ st1
  have hcat : (Value.ref T.heap.size).category = 1 := rfl
  have hcellA : T1.heap[T.heap.size]? = some (freshCell cX kX) := by rw [← hT1]; exact State.heap_pushCell_size _ _
  have d3' : decode c.code (pc + 3) = .ok (.dup, 1) := by rw [hb]; exact d3
  obtain ⟨U, hsteps, hrun, hend, hW, hsame, ce, hce, hO⟩ := X₁.ctorThrow0 hexec htr (own := own) (cls := cls) (names := names) (ic := ic) hown' hcls hnames h (fun x hx => nomatch hx) hfX hkX hcellA (by rw [hhp, hT]; exact Nat.le_refl _)
    (g := { method := m, pc := pc + 4, locals := ls, stack := .ref T.heap.size :: .ref T.heap.size :: rest, locked := none }) rfl hsize rfl rfl (rest := rest) rfl
    (by rw [hb]; exact d4) (by rw [hb]; exact d7) hout hRframes (by simp only [List.map_cons, List.sum_cons, hcat]; omega) hlocks
  obtain ⟨f1, f2⟩ := vx_frame hsame
  rw [hhp] at f1 f2
  have hWs : s.WarmedH U.vm := State.WarmedH.trans hW0 hW
  have hcl : s.vm.findClass cls = some ce.cls := by
    have h9 := hO.cls
    rw [hvm] at h9
    exact h9
  have hall : s.sameButNew ({ U with vm := s.vm } : State) locs mc ms := by
    subst hA
    obtain ⟨e1, e2⟩ := hsame
    rw [State.setFrames_setFrames] at e1
    have h2 : (T.setVm s.vm).sameButNew ({ U with vm := s.vm } : State) [] (0 + 1) (0 + 6) := ⟨e1, e2⟩
    have h3 := X.same.trans h2
    rw [List.append_nil] at h3
    exact h3.mono hc hs
  refine ⟨U, ?_, .threw T.heap.size, hrun, hend, Or.inr ⟨T.heap.size, rfl, cls, ce, locs, hx U hWs.alike f1 (fun q hq => f2 q hq (fun z hz => nomatch hz)), hce, hO.vm, hcl, hWs, hall, hf⟩⟩
  refine st1 _ ?_
  show Steps p.tables e below (T1.setTop { method := m, pc := pc + 3, locals := ls, stack := .ref T.heap.size :: rest, locked := none }) _
  jvm_step X₁.here [X₁.here.top, hexec, d3', Value.category]
  exact hsteps
/-- 'throw new E("text")': new; dup; ldc; invokespecial; athrow -/
theorem vx_throwS {cc : ByteArray} {pc : Nat} (hexec : p.tables.exec = Jvm.exec) (hb : c.code = cc) (hl : l.stackTraces = false) {own cls text : String} {names : List String} {ik is ic mc ms sa : Nat} {A : Nat → Prop}
    (hown : s.vm.findClass own = some m.cls) (hcls : Bundle.fit cls = true) (hnames : ∀ n ∈ names, Bundle.fit n = true)
    (hk : (Cond.classLink own ik cls).before args s = true) (hini : (Cond.initialized cls).before args s = true) (hstr : vk_R own is text sa s) (hat : ∀ w ∈ vx_atS own ic cls names, w.before args s = true)
    (hgood : ∀ w ∈ Cond.classLink own ik cls :: Cond.initialized cls :: vx_atS own ic cls names, vx_ot w = true)
    (hU : vx_Zq Bundle.tN "UNASSIGNED_STACK" Bundle.steD A s s.heap) (hN : vx_Zq Bundle.tN "SUPPRESSED_SENTINEL" Bundle.listD A s s.heap) (hS : va_S A s.heap H locs) (hsize : ls.size = c.maxLocals)
    (d0 : decode cc pc = .ok (.new ik, 3)) (d3 : decode cc (pc + 3) = .ok (.dup, 1)) (d4 : decode cc (pc + 4) = .ok (.ldc is, 2)) (d6 : decode cc (pc + 6) = .ok (.invokespecial ic, 3)) (d9 : decode cc (pc + 9) = .ok (.athrow, 1))
    (hout : ∀ x ∈ c.exceptionTable.toList, covers x (pc + 9) = false)
    (hRframes : names.length + 3 < R.frames) (hRlocals : (rest.map fun v => v.category).sum + (13 * (names.length + 1) + 43) ≤ R.locals) (hRcells : cells + 1 ≤ R.cells) (hRslots : slots + 6 ≤ R.slots) (hlocks : meth.locks = false)
    (hx : ∀ t : State, s.vm.Alike t.vm → H.size ≤ t.heap.size → (∀ q : Nat, q < H.size → t.heap[q]? = H[q]?) → XC cls s t)
    (hf : ∀ z ∈ locs, free z.base) (hc : cells + 1 ≤ mc) (hs : slots + 6 ≤ ms) :
    W p l e R s m args below meth c H locs cells slots (vx_MQ below Qc XC args s mc ms free) (F0 m pc ls rest) := by
  intro T hT X
  have htr : e.platform.stackTraces = false := (show e.platform.stackTraces = l.stackTraces by rw [X.admits.platform]).trans hl
  have Y := vx_rebase X (R' := { frames := R.frames, locals := R.locals, cells := 1, slots := 6 }) (Nat.le_refl _) (Nat.le_refl _) hRcells hRslots
  obtain ⟨s', hA⟩ : ∃ z, z = (T.setVm s.vm).setFrames (.invoking m args :: below) := ⟨_, rfl⟩
  rw [← hA] at Y
  have hvm : s'.vm = s.vm := by rw [hA]; rfl
  have hhp : s'.heap = H := by rw [hA]; exact hT
  have hW0 : s.WarmedH s'.vm := by rw [hvm]; exact State.WarmedH.refl s
  have hat' : ∀ w ∈ vx_atS own ic cls names, w.before args s' = true := fun w hw => vx_ot_at hW0 hvm.symm (hgood w (List.mem_cons_of_mem _ (List.mem_cons_of_mem _ hw))) (hat w hw)
  have hk' : (Cond.classLink own ik cls).before args s' = true := vx_ot_at hW0 hvm.symm (hgood _ List.mem_cons_self) hk
  have hini' : (Cond.initialized cls).before args s' = true := vx_ot_at hW0 hvm.symm (hgood _ (List.mem_cons_of_mem _ List.mem_cons_self)) hini
  have hU' : vx_Zq Bundle.tN "UNASSIGNED_STACK" Bundle.steD A s' s'.heap := by rw [hhp]; exact vx_Zq.moved hW0.alike (hU.kept hS.2.1)
  have hN' : vx_Zq Bundle.tN "SUPPRESSED_SENTINEL" Bundle.listD A s' s'.heap := by rw [hhp]; exact vx_Zq.moved hW0.alike (hN.kept hS.2.1)
  have h : ∀ w ∈ Bundle.ownAtoms own ic cls names, w.before args s' = true := vx_own hat' (vx_isRefq hU'.1) (vx_isRefq hN'.1) hU'.2.word hN'.2.word
  have hown' : s'.vm.findClass own = some m.cls := by rw [hvm]; exact hown
  have hins : (Cond.instantiable cls 6).before args s' = true := h _ (by simp [Bundle.ownAtoms])
  obtain ⟨vm₁, cX, kX, hfX, hkX, -, -, X₁, st1⟩ := Y.newCold hexec (own := own) (C := cls) (index := ik) (n := 6) hown' hk' hins hini'
    (g := F0 m pc ls rest) rfl (by rw [hb]; exact d0) (Nat.le_refl _) (Nat.le_refl _)
  generalize hT1 : (T.setVm vm₁).pushCell { cls := cX, slots := kX.instanceTypes.map defaultValue, vm := .none } = T1 at X₁ st1
  have hcat : (Value.ref T.heap.size).category = 1 := rfl
  have hcellA : T1.heap[T.heap.size]? = some (freshCell cX kX) := by rw [← hT1]; exact State.heap_pushCell_size _ _
  have d3' : decode c.code (pc + 3) = .ok (.dup, 1) := by rw [hb]; exact d3
  have d4' : decode c.code (pc + 4) = .ok (.ldc is, 2) := by rw [hb]; exact d4
  have hstr' : vk_R own is text sa s' := vk_R.warm hW0 hstr
  obtain ⟨U, hsteps, hrun, hend, hW, hsame, ce, hce, hO⟩ := X₁.ctorThrowS hexec htr (own := own) (cls := cls) (names := names) (ic := ic) hown' hcls hnames h (fun x hx => nomatch hx) hfX hkX hcellA (by rw [hhp, hT]; exact Nat.le_refl _) (msg := .ref sa) rfl
    (g := { method := m, pc := pc + 6, locals := ls, stack := .ref sa :: .ref T.heap.size :: .ref T.heap.size :: rest, locked := none }) rfl hsize rfl rfl (rest := rest) rfl
    (by rw [hb]; exact d6) (by rw [hb]; exact d9) hout hRframes (by simp only [List.map_cons, List.sum_cons, hcat]; omega) hlocks
  obtain ⟨f1, f2⟩ := vx_frame hsame
  rw [hhp] at f1 f2
  have hWs : s.WarmedH U.vm := State.WarmedH.trans hW0 hW
  have hcl : s.vm.findClass cls = some ce.cls := by
    have h9 := hO.cls
    rw [hvm] at h9
    exact h9
  have hall : s.sameButNew ({ U with vm := s.vm } : State) locs mc ms := by
    subst hA
    obtain ⟨e1, e2⟩ := hsame
    rw [State.setFrames_setFrames] at e1
    have h2 : (T.setVm s.vm).sameButNew ({ U with vm := s.vm } : State) [] (0 + 1) (0 + 6) := ⟨e1, e2⟩
    have h3 := X.same.trans h2
    rw [List.append_nil] at h3
    exact h3.mono hc hs
  refine ⟨U, ?_, .threw T.heap.size, hrun, hend, Or.inr ⟨T.heap.size, rfl, cls, ce, locs, hx U hWs.alike f1 (fun q hq => f2 q hq (fun z hz => nomatch hz)), hce, hO.vm, hcl, hWs, hall, hf⟩⟩
  refine st1 _ ?_
  show Steps p.tables e below (T1.setTop { method := m, pc := pc + 3, locals := ls, stack := .ref T.heap.size :: rest, locked := none }) _
  jvm_step X₁.here [X₁.here.top, hexec, d3', Value.category]
  exact X₁.ldcString hexec (own := own) (text := text) (index := is) (a := sa) hown' hstr'.1 hstr'.2
    (g := { method := m, pc := pc + 4, locals := ls, stack := .ref T.heap.size :: .ref T.heap.size :: rest, locked := none }) rfl d4' _ hsteps
/-- 'throw new E("text")', the text by a wide index -/
theorem vx_throwSW {cc : ByteArray} {pc : Nat} (hexec : p.tables.exec = Jvm.exec) (hb : c.code = cc) (hl : l.stackTraces = false) {own cls text : String} {names : List String} {ik is ic mc ms sa : Nat} {A : Nat → Prop}
    (hown : s.vm.findClass own = some m.cls) (hcls : Bundle.fit cls = true) (hnames : ∀ n ∈ names, Bundle.fit n = true)
    (hk : (Cond.classLink own ik cls).before args s = true) (hini : (Cond.initialized cls).before args s = true) (hstr : vk_R own is text sa s) (hat : ∀ w ∈ vx_atS own ic cls names, w.before args s = true)
    (hgood : ∀ w ∈ Cond.classLink own ik cls :: Cond.initialized cls :: vx_atS own ic cls names, vx_ot w = true)
    (hU : vx_Zq Bundle.tN "UNASSIGNED_STACK" Bundle.steD A s s.heap) (hN : vx_Zq Bundle.tN "SUPPRESSED_SENTINEL" Bundle.listD A s s.heap) (hS : va_S A s.heap H locs) (hsize : ls.size = c.maxLocals)
    (d0 : decode cc pc = .ok (.new ik, 3)) (d3 : decode cc (pc + 3) = .ok (.dup, 1)) (d4 : decode cc (pc + 4) = .ok (.ldc_w is, 3)) (d7 : decode cc (pc + 7) = .ok (.invokespecial ic, 3)) (d10 : decode cc (pc + 10) = .ok (.athrow, 1))
    (hout : ∀ x ∈ c.exceptionTable.toList, covers x (pc + 10) = false)
    (hRframes : names.length + 3 < R.frames) (hRlocals : (rest.map fun v => v.category).sum + (13 * (names.length + 1) + 43) ≤ R.locals) (hRcells : cells + 1 ≤ R.cells) (hRslots : slots + 6 ≤ R.slots) (hlocks : meth.locks = false)
    (hx : ∀ t : State, s.vm.Alike t.vm → H.size ≤ t.heap.size → (∀ q : Nat, q < H.size → t.heap[q]? = H[q]?) → XC cls s t)
    (hf : ∀ z ∈ locs, free z.base) (hc : cells + 1 ≤ mc) (hs : slots + 6 ≤ ms) :
    W p l e R s m args below meth c H locs cells slots (vx_MQ below Qc XC args s mc ms free) (F0 m pc ls rest) := by
  intro T hT X
  have htr : e.platform.stackTraces = false := (show e.platform.stackTraces = l.stackTraces by rw [X.admits.platform]).trans hl
  have Y := vx_rebase X (R' := { frames := R.frames, locals := R.locals, cells := 1, slots := 6 }) (Nat.le_refl _) (Nat.le_refl _) hRcells hRslots
  obtain ⟨s', hA⟩ : ∃ z, z = (T.setVm s.vm).setFrames (.invoking m args :: below) := ⟨_, rfl⟩
  rw [← hA] at Y
  have hvm : s'.vm = s.vm := by rw [hA]; rfl
  have hhp : s'.heap = H := by rw [hA]; exact hT
  have hW0 : s.WarmedH s'.vm := by rw [hvm]; exact State.WarmedH.refl s
  have hat' : ∀ w ∈ vx_atS own ic cls names, w.before args s' = true := fun w hw => vx_ot_at hW0 hvm.symm (hgood w (List.mem_cons_of_mem _ (List.mem_cons_of_mem _ hw))) (hat w hw)
  have hk' : (Cond.classLink own ik cls).before args s' = true := vx_ot_at hW0 hvm.symm (hgood _ List.mem_cons_self) hk
  have hini' : (Cond.initialized cls).before args s' = true := vx_ot_at hW0 hvm.symm (hgood _ (List.mem_cons_of_mem _ List.mem_cons_self)) hini
  have hU' : vx_Zq Bundle.tN "UNASSIGNED_STACK" Bundle.steD A s' s'.heap := by rw [hhp]; exact vx_Zq.moved hW0.alike (hU.kept hS.2.1)
  have hN' : vx_Zq Bundle.tN "SUPPRESSED_SENTINEL" Bundle.listD A s' s'.heap := by rw [hhp]; exact vx_Zq.moved hW0.alike (hN.kept hS.2.1)
  have h : ∀ w ∈ Bundle.ownAtoms own ic cls names, w.before args s' = true := vx_own hat' (vx_isRefq hU'.1) (vx_isRefq hN'.1) hU'.2.word hN'.2.word
  have hown' : s'.vm.findClass own = some m.cls := by rw [hvm]; exact hown
  have hins : (Cond.instantiable cls 6).before args s' = true := h _ (by simp [Bundle.ownAtoms])
  obtain ⟨vm₁, cX, kX, hfX, hkX, -, -, X₁, st1⟩ := Y.newCold hexec (own := own) (C := cls) (index := ik) (n := 6) hown' hk' hins hini'
    (g := F0 m pc ls rest) rfl (by rw [hb]; exact d0) (Nat.le_refl _) (Nat.le_refl _)
  generalize hT1 : (T.setVm vm₁).pushCell { cls := cX, slots := kX.instanceTypes.map defaultValue, vm := .none } = T1 at X₁ st1
  have hcat : (Value.ref T.heap.size).category = 1 := rfl
  have hcellA : T1.heap[T.heap.size]? = some (freshCell cX kX) := by rw [← hT1]; exact State.heap_pushCell_size _ _
  have d3' : decode c.code (pc + 3) = .ok (.dup, 1) := by rw [hb]; exact d3
  have d4' : decode c.code (pc + 4) = .ok (.ldc_w is, 3) := by rw [hb]; exact d4
  have hstr' : vk_R own is text sa s' := vk_R.warm hW0 hstr
  obtain ⟨U, hsteps, hrun, hend, hW, hsame, ce, hce, hO⟩ := X₁.ctorThrowS hexec htr (own := own) (cls := cls) (names := names) (ic := ic) hown' hcls hnames h (fun x hx => nomatch hx) hfX hkX hcellA (by rw [hhp, hT]; exact Nat.le_refl _) (msg := .ref sa) rfl
    (g := { method := m, pc := pc + 7, locals := ls, stack := .ref sa :: .ref T.heap.size :: .ref T.heap.size :: rest, locked := none }) rfl hsize rfl rfl (rest := rest) rfl
    (by rw [hb]; exact d7) (by rw [hb]; exact d10) hout hRframes (by simp only [List.map_cons, List.sum_cons, hcat]; omega) hlocks
  obtain ⟨f1, f2⟩ := vx_frame hsame
  rw [hhp] at f1 f2
  have hWs : s.WarmedH U.vm := State.WarmedH.trans hW0 hW
  have hcl : s.vm.findClass cls = some ce.cls := by
    have h9 := hO.cls
    rw [hvm] at h9
    exact h9
  have hall : s.sameButNew ({ U with vm := s.vm } : State) locs mc ms := by
    subst hA
    obtain ⟨e1, e2⟩ := hsame
    rw [State.setFrames_setFrames] at e1
    have h2 : (T.setVm s.vm).sameButNew ({ U with vm := s.vm } : State) [] (0 + 1) (0 + 6) := ⟨e1, e2⟩
    have h3 := X.same.trans h2
    rw [List.append_nil] at h3
    exact h3.mono hc hs
  refine ⟨U, ?_, .threw T.heap.size, hrun, hend, Or.inr ⟨T.heap.size, rfl, cls, ce, locs, hx U hWs.alike f1 (fun q hq => f2 q hq (fun z hz => nomatch hz)), hce, hO.vm, hcl, hWs, hall, hf⟩⟩
  refine st1 _ ?_
  show Steps p.tables e below (T1.setTop { method := m, pc := pc + 3, locals := ls, stack := .ref T.heap.size :: rest, locked := none }) _
  jvm_step X₁.here [X₁.here.top, hexec, d3', Value.category]
  exact X₁.ldcStringW hexec (own := own) (text := text) (index := is) (a := sa) hown' hstr'.1 hstr'.2
    (g := { method := m, pc := pc + 4, locals := ls, stack := .ref T.heap.size :: .ref T.heap.size :: rest, locked := none }) rfl d4' _ hsteps
end Ends
section Bodies
variable {l : Launch}
theorem vx_ofW {y : MethodName} {ws ws' : List Cond} {rm : Room} {Pc : Array Value → State → Prop} {Qc : Array Value → State → Outcome → State → Prop} {XC : String → State → State → Prop} {mc ms : Nat} {free : Addr → Prop} {cc : ByteArray} {maxL : Nat} {ret : Option FieldType}
    (hy : plainName y.cls = true) (hw : ws = Cond.code y cc maxL ret :: ws')
    (body : ∀ p e s m args below meth c s₁, BodyLoose p l y (headSpec ws rm) cc maxL ret e s m args below meth c s₁ → c.maxLocals = maxL → (∀ x ∈ c.exceptionTable.toList, False) → Pc args s →
      W p l e (headSpec ws rm).room s m args below meth c s.heap [] 0 0 (vx_MQ below Qc XC args s mc ms free) (entryFrame m args maxL)) : vx_Met l y ws rm Pc Qc XC mc ms free := by
  refine MetFree.of_bodyS (code := cc) (maxLocals := maxL) (ret := ret) hy ?_ ?_
  · intro args s m h hn
    obtain ⟨meth, c, h1, h2, h3, h4, h5, h6, -, -⟩ := Cond.code_spec hn (atoms_spec (ws := ws) h _ (by rw [hw]; exact List.mem_cons_self))
    exact ⟨meth, c, h1, h2, h3, h4, h5, h6⟩
  · intro p e s m args below meth c s₁ B hml hP _
    have hh0 : s₁.heap = s.heap := by rw [B.state]; rfl
    have ht : ∀ x ∈ c.exceptionTable.toList, False := by
      obtain ⟨meth9, c9, h1, h2, -, -, -, -, h7, -⟩ := Cond.code_spec B.named (atoms_spec (ws := ws) B.pre _ (by rw [hw]; exact List.mem_cons_self))
      cases Option.some.inj (h1.symm.trans B.method)
      cases Option.some.inj (h2.symm.trans (Stand.of_body B).code)
      intro x hx
      rw [Array.isEmpty_iff.mp h7] at hx
      cases hx
    obtain ⟨t, a1, o, b1, b2, b3⟩ := body p e s m args below meth c s₁ B hml ht hP s₁ hh0 (Stand.of_body B)
    exact ⟨t, o, a1, b1, b2, b3⟩
/-- the table of a body with handlers -/
theorem vx_table {p : Program} {x y : MethodName} {S : Spec} {cc bytes : ByteArray} {maxL maxL' : Nat} {ret ret' : Option FieldType} {e : Env} {s s₁ : State} {m : MethodId} {args : Array Value} {below : List Frame} {meth : Method} {c : Code} {hh : List (Nat × Nat × Nat × Nat)}
    (B : BodyLoose p l y S cc maxL ret e s m args below meth c s₁) (h : (Cond.codeWith y bytes maxL' ret' hh).before args s = true) : c.exceptionTable.toList = tableOf hh := by
  obtain ⟨m9, meth9, c9, hn9, h1, h2, -, -, h6, -⟩ := Cond.codeWith_spec h
  cases Option.some.inj (hn9.symm.trans B.named)
  cases Option.some.inj (h1.symm.trans B.method)
  cases Option.some.inj (h2.symm.trans (Stand.of_body B).code)
  rw [← h6, table_eq]
end Bodies
end VXA
/-! ===== END ===== -/
/-! ===== BEGIN a static call of a method with an exception table ===== -/
section VXS
variable {p : Program} {l : Launch} {e : Env} {R : Room} {s : State} {m : MethodId} {args : Array Value} {below : List Frame} {meth : Method} {c : Code} {T : State} {H : Heap} {locs : List Loc} {cells slots : Nat}
abbrev vx_CSW (R : Room) (s : State) (args : Array Value) (own : String) (index : Nat) (y : MethodName) (bytes : ByteArray) (maxL : Nat) (ret : Option FieldType) (hh : List (Nat × Nat × Nat × Nat)) (ws : List Cond) (rm : Room) (mc ms n : Nat) : Prop :=
  (rm.cells = mc ∧ rm.slots = ms ∧ rm.frames + 1 ≤ R.frames ∧ 8 + (maxL + 11) + rm.locals ≤ R.locals ∧ (∀ w ∈ ws, ∀ (a' : Array Value) (U : State), s.WarmedH U.vm → w.before a' U = true) ∧ Cond.codeWith y bytes maxL ret hh ∈ ws) ∧
  (Cond.codeWith y bytes maxL ret hh).before args s = true ∧ (Cond.initialized y.cls).before args s = true ∧ (y.cls ≠ "java/lang/invoke/MethodHandle" ∧ y.cls ≠ "java/lang/invoke/VarHandle") ∧
  (∀ sig, parseMethodDescriptor y.desc = some sig → n = sig.parameters.length) ∧ (Cond.methodLink own index y).before args s = true ∧ (Cond.static y).before args s = true
theorem vx_cwSW {own : String} {index maxL mc ms : Nat} {y : MethodName} {bytes : ByteArray} {ret : Option FieldType} {hh : List (Nat × Nat × Nat × Nat)} {Ts ws ws' : List Cond} {rm : Room} (n : Nat) (ht : ∀ w ∈ Ts, w.before args s = true) (hT : GoodIn Ts (va_wsS own index y ws)) (hw : ws = Cond.codeWith y bytes maxL ret hh :: ws') (hrc : rm.cells = mc) (hrs : rm.slots = ms)
    (hd : y.cls ≠ "java/lang/invoke/MethodHandle" ∧ y.cls ≠ "java/lang/invoke/VarHandle" ∧ (parseMethodDescriptor y.desc).map (fun d => d.parameters.length) = some n) (hR : rm.frames + 1 ≤ R.frames ∧ 8 + (maxL + 11) + rm.locals ≤ R.locals) :
    vx_CSW R s args own index y bytes maxL ret hh ws rm mc ms n := by
  have ok : ∀ w ∈ va_wsS own index y ws, w.before args s = true := fun w h => ht w (hT w h).1
  have hG : GoodIn Ts ws := fun w h => hT w (by unfold va_wsS; exact List.mem_append_right _ h)
  have hc : Cond.codeWith y bytes maxL ret hh ∈ ws := by rw [hw]; exact List.mem_cons_self
  refine ⟨⟨hrc, hrs, hR.1, hR.2, pay_in ht hG, hc⟩, ht _ (hG _ hc).1, ok _ (by simp [va_wsS]), ⟨hd.1, hd.2.1⟩, fun sig h => ?_, ok _ (by simp [va_wsS]), ok _ (by simp [va_wsS])⟩
  have h2 := hd.2.2
  rw [h] at h2
  exact (Option.some.inj h2).symm
theorem vx_callSW (X : Stand p l e R s m args below meth c T locs cells slots) (hexec : p.tables.exec = Jvm.exec) {own : String} {index : Nat} {y : MethodName} {bytes : ByteArray} {maxL : Nat} {ret : Option FieldType} {hh : List (Nat × Nat × Nat × Nat)}
    (hown : s.vm.findClass own = some m.cls) (hlink : (Cond.methodLink own index y).before args s = true) (hstat : (Cond.static y).before args s = true) (hinit : (Cond.initialized y.cls).before args s = true)
    (hcode : (Cond.codeWith y bytes maxL ret hh).before args s = true) (hy : y.cls ≠ "java/lang/invoke/MethodHandle" ∧ y.cls ≠ "java/lang/invoke/VarHandle")
    {W9 : Nat} {Pre : Pt → Array Value → Prop} {Post : Pt → Array Value → Option Value → Pt → Prop} (hK : Back l R p e below s args y 3 W9 Pre Post)
    {g : JFrame} (hg : g.method = m) (hsize : g.locals.size = c.maxLocals) {argsL rest : List Value} (hlen : ∀ sig, parseMethodDescriptor y.desc = some sig → argsL.length = sig.parameters.length)
    (hstack : g.stack = argsL.reverse ++ rest) (hW : 2 * g.monitorRoom + (rest.map fun v => v.category).sum ≤ W9) (hdg : decode c.code g.pc = .ok (.invokestatic index, 3))
    (hpre : ∀ vm₁, s.WarmedH vm₁ → Pre ⟨T.setVm vm₁, locs, cells, slots⟩ argsL.toArray) :
    ∃ (v : Option Value) (vm₁ : Vm) (B : Pt), s.WarmedH vm₁ ∧ Stand p l e R s m args below meth c B.U B.locs B.cells B.slots ∧ Post ⟨T.setVm vm₁, locs, cells, slots⟩ argsL.toArray v B ∧
      ∀ target, Steps p.tables e below (B.U.setTop { g with pc := g.pc + 3, stack := v.toList ++ rest }) target → Steps p.tables e below (T.setTop g) target := by
  obtain ⟨mk, methM, cM, hnamed, hmethM, -, -, -, -, -, -, hsigM⟩ := Cond.codeWith_spec hcode
  have hstatic : methM.isStatic = true := Cond.static_spec hnamed hmethM hstat
  obtain ⟨kP, hkP, -⟩ := className_of_methodNamed hnamed
  have hinitP : kP.init = .initialized := Cond.initialized_spec (findClass_of_methodNamed hnamed) hkP hinit
  obtain ⟨vm₁, X₁, hstep₁⟩ := X.invokestatic hexec hown hlink hnamed hmethM hstatic hkP hinitP hy (g := g) hg (argsL := argsL) (rest := rest) (hlen _ hsigM) hstack hdg
  obtain ⟨v, B, X', hpost, hsteps⟩ := hK m meth c ⟨T.setVm vm₁, locs, cells, slots⟩ { g with stack := rest } (.invokestatic index) mk argsL.toArray X₁ hg hsize hdg hW (X₁.named hnamed) (hpre vm₁ X₁.warmed)
  exact ⟨v, vm₁, B, X₁.warmed, X', hpost, fun target h => hstep₁ _ fun acts => by rw [doInvoke_state]; exact hsteps.trans h⟩
theorem vx_runSW {y : MethodName} {bytes cc : ByteArray} {maxL nL mc ms n index : Nat} {ret : Option FieldType} {hh : List (Nat × Nat × Nat × Nat)} {ws : List Cond} {rm : Room} {Pc : Array Value → State → Prop} {Qc : Array Value → State → Outcome → State → Prop} {free : Addr → Prop} {Ts : List Cond} {own : String} {As rest : List Value} {g : JFrame}
    (S : CallFix p m c cc nL s args Ts own) (hM : Met l y ws rm Pc Qc mc ms free) (cw : vx_CSW R s args own index y bytes maxL ret hh ws rm mc ms n) (hp : PreS s H Pc As)
    (hg : g.method = m) (hn : As.length = n) (hsize : g.locals.size = nL) (hstack : g.stack = As.reverse ++ rest) (hW : 2 * g.monitorRoom + (rest.map fun v => v.category).sum ≤ 8) (hdg : decode cc g.pc = .ok (.invokestatic index, 3)) (hf : cells + mc ≤ R.cells ∧ slots + ms ≤ R.slots) :
    va_Run p l e R s m args below meth c H locs cells slots mc ms g rest (Qc As.toArray) (free) := by
  obtain ⟨⟨hrc, hrs, hfr, hlo, hws, hcw⟩, hcode, hini, hy, hlen, hl, hstt⟩ := cw
  have hK : Back l R p e below s args y 3 8 (PreOf R mc ms Pc) (PostOf Qc mc ms free) := va_backW (hh := hh) (bytes := bytes) (maxL := maxL) (ret := ret) hM hp.1 hrc hrs hfr hlo hws hcw (fun a' U hW => word_at hW (Or.inl (by first | rfl | simp [Cond.onTables, Cond.keeps, Cond.steady])) hini)
  obtain ⟨hx, hb, hml, ho, -⟩ := S
  intro T hT X
  obtain ⟨v, vm₁, ⟨U', l2, c2, s2⟩, hW₁, X', ⟨g', mk, t, L, e1, e2, hq, h1, hL, h2, h3⟩, st⟩ := vx_callSW X hx (hh := hh) (bytes := bytes) (maxL := maxL) (ret := ret) ho hl hstt hini hcode hy hK hg (hsize.trans hml.symm) (argsL := As) (rest := rest) (fun sig h => hn.trans (hlen sig h)) hstack hW (by rw [hb]; exact hdg)
    (fun vm₁ hW₁ => ⟨hf.1, hf.2, hp.2 (T.setVm vm₁) hT hW₁⟩)
  dsimp only [Pt.U, Pt.locs, Pt.cells, Pt.slots] at X' e1 e2 h1 h2 h3 st
  subst h1; subst h2; subst h3
  exact ⟨v, (T.setVm vm₁).calling g' mk As.toArray, t, U', L, hT, X', hL, e1, e2, hq, st⟩
/-- not caught here, past rows that name other classes: it goes on to the caller -/
theorem vx_outP {p : Program} {l : Launch} {e : Env} {R : Room} {s : State} {m : MethodId} {args : Array Value} {below : List Frame} {meth : Method} {c : Code} {H : Heap} {locs : List Loc} {cells slots : Nat} {free : Addr → Prop} {ls : Array Slot} {rest : List Value} {Qc : Array Value → State → Outcome → State → Prop} {XC : String → State → State → Prop}
    {pc : Nat} {own E : String} {ce : Cell} {q : Addr} {mc ms : Nat} (hown : s.vm.findClass own = some m.cls) (hlocks : meth.locks = false)
    (hpass : ∀ z ∈ c.exceptionTable.toList, covers z pc = false ∨ (z.catchType ≠ 0 ∧ ∃ nm : String, (Cond.classLink own z.catchType nm).before args s = true ∧ va_Nc E nm s)) (hcell : H[q]? = some ce) (hv : ce.vm = .none) (hcl : s.vm.findClass E = some ce.cls)
    (hx : ∀ t : State, t.heap = H → s.vm.Alike t.vm → XC E s t) (hf : ∀ z ∈ locs, free z.base) (hc : cells ≤ mc) (hs : slots ≤ ms) :
    vx_W p l e R s m args below meth c H locs cells slots (vx_MQ below Qc XC args s mc ms free) (F0 m pc ls rest) q := by
  intro T hT X
  have hpl : e.platform.magicAccessors = ({} : Platform).magicAccessors := by rw [X.admits.platform]
  obtain ⟨vm', hW', X', st⟩ := X.outThrough hlocks q (g := F0 m pc ls rest) rfl rfl rfl (cell := ce) (by rw [hT]; exact hcell) (by rw [hv]; rfl)
    (by obtain ⟨k9, h9, -⟩ := Vm.findClass_spec hcl; exact ⟨k9, h9⟩) (fun z hz => by
      rcases hpass z hz with h | ⟨hz0, nm, hl1, hn1⟩
      · exact Or.inl h
      · obtain ⟨c6, hc6, hcl6⟩ := Cond.classLink_spec hown hl1 e.platform hpl
        obtain ⟨a8, b8, h1, h2, h3⟩ := hn1
        cases Option.some.inj (h1.symm.trans hcl)
        cases Option.some.inj (h2.symm.trans hc6)
        exact Or.inr ⟨hz0, _, hcl6, h3⟩)
  obtain ⟨g₀, hfr⟩ := X'.frames_eq
  have hcell9 : ((T.setVm vm').setFrames (.throwing q :: below)).heap[q]? = some ce := by
    show T.heap[q]? = some ce
    rw [hT]; exact hcell
  have hend : Ended ((T.setVm vm').setFrames (.throwing q :: below)) below (.threw q) := State.frames_setFrames _ (State.cur_lt_of_frames hfr)
  refine ⟨(T.setVm vm').setFrames (.throwing q :: below), ?_, .threw q, X'.here.running, hend, Or.inr ⟨q, rfl, E, ce, locs, hx _ hT (X'.ends _).1.alike, hcell9, hv, hcl, (X'.ends _).1, (X'.ends _).2.mono hc hs, hf⟩⟩
  rw [X.pushThrowing_eq]
  exact st
/-- a thing of a world lies in the heap -/
theorem vx_lt {D : va_G} {cl : List vw_C} {ws : va_W} {H1 : Heap} (h : va_P D cl ws H1) {k : Nat} {q : Nat × va_E} (hk : ws[k]? = some q) : q.1 < H1.size := (h k q hk).lt
end VXS
/-! ===== END ===== -/
/-! ===== BEGIN methods with a table of their own: called by a name, returning or throwing ===== -/
section VXH
/-! vx_backW, vx_callVX, vx_callSX, vx_callVW, vx_runVW, vx_runVX, vx_runSX, vx_ofWH follow the same proofs as their sisters above (Free/Laws.lean, Shelf42/LK1.lean); vx_outP calls Shelf42/NT130.lean (outThrough). -/
section
variable {l : Launch} {R : Room} {p : Program} {e : Env} {below : List Frame} {s : State} {sargs : Array Value} {y : MethodName} {len W9 : Nat}
theorem vx_backW {ws : List Cond} {rm : Room} {Pc : Array Value → State → Prop} {Qc : Array Value → State → Outcome → State → Prop} {XC : String → State → State → Prop} {mc ms : Nat} {free : Addr → Prop} {bytes : ByteArray} {maxL : Nat} {ret : Option FieldType} {hh : List (Nat × Nat × Nat × Nat)}
    (hM : vx_Met l y ws rm Pc Qc XC mc ms free) (hblind : FrameBlind Pc) (hrc : rm.cells = mc) (hrs : rm.slots = ms)
    (hframes : rm.frames + 1 ≤ R.frames) (hlocals : W9 + (maxL + 11) + rm.locals ≤ R.locals)
    (hws : ∀ w ∈ ws, ∀ a' U, s.WarmedH U.vm → w.before a' U = true) (hcode : Cond.codeWith y bytes maxL ret hh ∈ ws) (hinit : ∀ a' U, s.WarmedH U.vm → (Cond.initialized y.cls).before a' U = true) :
    vx_Back l R p e below s sargs y len W9 (PreOf R mc ms Pc) (PostOf Qc mc ms free) (vx_Post XC mc ms free) := by
  intro m meth c A g ig mk a X hg hsize hdg hW hn hp
  have h1 : (headSpec ws rm).pre.before a A.U = true := atoms_intro fun w hw => hws w hw _ _ X.warmed
  have h2 : (Cond.codeWith y bytes maxL ret hh).before a A.U = true := hws _ hcode _ _ X.warmed
  have h3 : (Cond.initialized y.cls).before a A.U = true := hinit _ _ X.warmed
  have h4 : A.cells + (headSpec ws rm).room.cells ≤ R.cells := by rw [show (headSpec ws rm).room.cells = mc from hrc]; exact hp.1
  have h5 : A.slots + (headSpec ws rm).room.slots ≤ R.slots := by rw [show (headSpec ws rm).room.slots = ms from hrs]; exact hp.2.1
  have hPc : Pc a (A.U.calling g mk a) := hblind _ _ _ _ hp.2.2
  obtain ⟨U, Ls, c0, s0⟩ := A
  dsimp only [Pt.U, Pt.locs, Pt.cells, Pt.slots] at h1 h2 h3 h4 h5 X hn hPc ⊢
  obtain ⟨m9, methY, cY, hn9, hmY, hcY, -, hlY, -⟩ := Cond.codeWith_spec h2
  cases Option.some.inj (hn9.symm.trans hn)
  obtain ⟨kY, hkY, -⟩ := className_of_methodNamed hn
  have hinitY : kY.init = .initialized := Cond.initialized_spec (findClass_of_methodNamed hn) hkY h3
  have h : At U g.method c below := by rw [hg]; exact X.here
  have hlocals9 : W9 + (maxL + 11) + (headSpec ws rm).room.locals ≤ R.locals := hlocals
  have happ : (headSpec ws rm).appliesLoose y e.platform (U.calling g mk a) = true :=
    Spec.appliesLoose_calling (g := g) h hdg hn hkY hinitY
      (X.room_calling (g := g) (R' := (headSpec ws rm).room) hsize hmY hcY hframes (by rw [hlY]; omega) h4 h5) h1
  obtain ⟨mid, hmid⟩ := h.above
  have hfr : (U.setTop g).frames = (.java g :: mid) ++ below := by rw [State.frames_setTop' g h.top, hmid]; rfl
  obtain ⟨o, s₂, hsteps, -, hend, hq⟩ := Steps.callFree hM p X.admits X.cas X.clock (acts := []) hfr happ hPc trivial
  have hq' : vx_Q Qc XC mc ms free a (U.calling g mk a) o s₂ := hq
  rw [State.frames_setTop' g h.top] at hend
  obtain ⟨g₀, hg0⟩ := Option.isSome_iff_exists.mp h.top
  obtain ⟨r, hr⟩ := State.topJava?_eq_some.mp hg0
  have hr' : (({ U with heap := s₂.heap, slotsUsed := s₂.slotsUsed } : State).setVm s₂.vm).frames = .java g₀ :: r := hr
  rcases hq' with ⟨hqc, L, hfe, hL⟩ | ⟨q, rfl, E, ce, L, hx, hce, hcv, hcl, hW₂, hsm, hL⟩
  · obtain ⟨⟨v, rfl⟩, hW₂, e2, q2, q3, q4, q5, q6⟩ := id hfe
    have e3 : s₂ = ({ (U.calling g mk a).setFrames s₂.frames with heap := s₂.heap, slotsUsed := s₂.slotsUsed } : State).setVm s₂.vm := by
      have : s₂ = ({ s₂ with vm := (U.calling g mk a).vm } : State).setVm s₂.vm := rfl
      rw [e2] at this
      exact this
    obtain ⟨c₂, i₂, len₂, hc₂, hd₂, hf₂⟩ := hend
    have hW' : U.WarmedH s₂.vm := hW₂
    have hcc : c₂ = c := by
      have h1 : s₂.code? g.method = U.code? g.method := by
        rw [State.code?_eq, State.code?_eq, hW'.alike.method?]
      exact Option.some.inj (hc₂.symm.trans (h1.trans h.code))
    subst hcc
    have hlen : len₂ = len := by rw [hdg] at hd₂; cases hd₂; rfl
    subst hlen
    have hs₂ : s₂ = (({ U with heap := s₂.heap, slotsUsed := s₂.slotsUsed } : State).setVm s₂.vm).setTop { g with pc := g.pc + len₂, stack := v.toList ++ g.stack } := by
      refine e3.trans ?_
      rw [hf₂, State.calling_eq h.top, State.setFrames_setFrames, State.setTop_of_frames _ hr', hr]
      rfl
    have hsame : U.sameButNew ({ U with heap := s₂.heap, slotsUsed := s₂.slotsUsed } : State) L mc ms := by
      refine ⟨?_, q2, q3, q4, q5, q6⟩
      obtain ⟨t, ht, -⟩ := State.frames_cons hr
      show ({ U with heap := s₂.heap, slotsUsed := s₂.slotsUsed } : State) = { U.setFrames U.frames with heap := s₂.heap, slotsUsed := s₂.slotsUsed }
      rw [State.setFrames_self ht]
    subst hg
    refine Or.inl ⟨v, ⟨(({ U with heap := s₂.heap, slotsUsed := s₂.slotsUsed } : State).setVm s₂.vm), Ls ++ L, c0 + mc, s0 + ms⟩,
      ⟨X.admits, X.cas, X.clock, X.frames, X.room, X.hears, X.method, X.code, (X.here.setHeapUsed s₂.heap s₂.slotsUsed).setVm hW'.alike, X.tail, State.WarmedH.trans X.warmed hW', X.limits, X.bytes, X.same.trans (hsame.setVm s.vm)⟩,
      ⟨g, mk, s₂, L, rfl, rfl, hqc, rfl, hL, rfl, rfl⟩, ?_⟩
    show Steps p.tables e below _ ((({ U with heap := s₂.heap, slotsUsed := s₂.slotsUsed } : State).setVm s₂.vm).setTop { g with pc := g.pc + len₂, stack := v.toList ++ g.stack })
    rw [← hs₂]
    exact hsteps
  · obtain ⟨e2, q2, q3, q4, q5, q6⟩ := id hsm
    have e3 : s₂ = ({ (U.calling g mk a).setFrames s₂.frames with heap := s₂.heap, slotsUsed := s₂.slotsUsed } : State).setVm s₂.vm := by
      have : s₂ = ({ s₂ with vm := (U.calling g mk a).vm } : State).setVm s₂.vm := rfl
      rw [e2] at this
      exact this
    have hf₂ : s₂.frames = .throwing q :: .java g :: U.frames.tail := hend
    have hW' : U.WarmedH s₂.vm := hW₂
    have hs₂ : s₂ = ((({ U with heap := s₂.heap, slotsUsed := s₂.slotsUsed } : State).setVm s₂.vm).setTop g).pushFrame (.throwing q) := by
      refine e3.trans ?_
      rw [hf₂, State.calling_eq h.top, State.setFrames_setFrames, State.pushFrame, State.frames_setTop _ hr', State.setTop_of_frames _ hr', State.setFrames_setFrames, hr]
      rfl
    have hsame : U.sameButNew ({ U with heap := s₂.heap, slotsUsed := s₂.slotsUsed } : State) L mc ms := by
      refine ⟨?_, q2, q3, q4, q5, q6⟩
      obtain ⟨t, ht, -⟩ := State.frames_cons hr
      show ({ U with heap := s₂.heap, slotsUsed := s₂.slotsUsed } : State) = { U.setFrames U.frames with heap := s₂.heap, slotsUsed := s₂.slotsUsed }
      rw [State.setFrames_self ht]
    subst hg
    refine Or.inr ⟨q, ⟨(({ U with heap := s₂.heap, slotsUsed := s₂.slotsUsed } : State).setVm s₂.vm), Ls ++ L, c0 + mc, s0 + ms⟩,
      ⟨X.admits, X.cas, X.clock, X.frames, X.room, X.hears, X.method, X.code, (X.here.setHeapUsed s₂.heap s₂.slotsUsed).setVm hW'.alike, X.tail, State.WarmedH.trans X.warmed hW', X.limits, X.bytes, X.same.trans (hsame.setVm s.vm)⟩,
      ⟨g, mk, s₂, L, E, ce, rfl, rfl, hx, hce, hcv, hcl, rfl, hL, rfl, rfl⟩, ?_⟩
    show Steps p.tables e below _ (((({ U with heap := s₂.heap, slotsUsed := s₂.slotsUsed } : State).setVm s₂.vm).setTop g).pushFrame (.throwing q))
    rw [← hs₂]
    exact hsteps
end
variable {p : Program} {l : Launch} {e : Env} {R : Room} {s : State} {m : MethodId} {args : Array Value} {below : List Frame} {meth : Method} {c : Code} {T : State} {H : Heap} {locs : List Loc} {cells slots : Nat}
theorem vx_callVX (X : Stand p l e R s m args below meth c T locs cells slots) (hexec : p.tables.exec = Jvm.exec) {own C : String} {index : Nat} {y : MethodName} {bytes : ByteArray} {maxL : Nat} {ret : Option FieldType} {hh : List (Nat × Nat × Nat × Nat)}
    (hown : s.vm.findClass own = some m.cls) (hlink : (Cond.methodLink own index y).before args s = true) (hinst : (Cond.instanceMethod y).before args s = true) (hsel : (Cond.selects C y y).before args s = true)
    (hcode : (Cond.codeWith y bytes maxL ret hh).before args s = true) (hy : y.cls ≠ "java/lang/invoke/MethodHandle" ∧ y.cls ≠ "java/lang/invoke/VarHandle")
    {W9 : Nat} {Pre : Pt → Array Value → Prop} {Post : Pt → Array Value → Option Value → Pt → Prop} {PostX : Pt → Array Value → Addr → Pt → Prop} (hK : vx_Back l R p e below s args y 3 W9 Pre Post PostX)
    {b : Addr} {cellB : Cell} (hcell : T.heap[b]? = some cellB) (hobj : cellB.vm.isStatics = false) (hcls : s.vm.findClass C = some cellB.cls)
    {g : JFrame} (hg : g.method = m) (hsize : g.locals.size = c.maxLocals) {argsL rest : List Value} (hlen : ∀ sig, parseMethodDescriptor y.desc = some sig → argsL.length = sig.parameters.length)
    (hstack : g.stack = argsL.reverse ++ .ref b :: rest) (hW : 2 * g.monitorRoom + (rest.map fun v => v.category).sum ≤ W9) (hdg : decode c.code g.pc = .ok (.invokevirtual index, 3))
    (hpre : ∀ vm₁, s.WarmedH vm₁ → Pre ⟨T.setVm vm₁, locs, cells, slots⟩ (Value.ref b :: argsL).toArray) :
    (∃ (v : Option Value) (vm₁ : Vm) (B : Pt), s.WarmedH vm₁ ∧ Stand p l e R s m args below meth c B.U B.locs B.cells B.slots ∧ Post ⟨T.setVm vm₁, locs, cells, slots⟩ (Value.ref b :: argsL).toArray v B ∧
      ∀ target, Steps p.tables e below (B.U.setTop { g with pc := g.pc + 3, stack := v.toList ++ rest }) target → Steps p.tables e below (T.setTop g) target) ∨
    (∃ (q : Addr) (vm₁ : Vm) (B : Pt), s.WarmedH vm₁ ∧ Stand p l e R s m args below meth c B.U B.locs B.cells B.slots ∧ PostX ⟨T.setVm vm₁, locs, cells, slots⟩ (Value.ref b :: argsL).toArray q B ∧
      Steps p.tables e below (T.setTop g) ((B.U.setTop { g with stack := rest }).pushFrame (.throwing q))) := by
  obtain ⟨mk, methM, hnamed, hmethM, hstM, habM⟩ := Cond.instanceMethod_spec hinst
  obtain ⟨m8, methM', cM, hn8, hmethM', -, -, -, -, -, -, hsigM⟩ := Cond.codeWith_spec hcode
  cases Option.some.inj (hn8.symm.trans hnamed)
  cases hmethM.symm.trans hmethM'
  obtain ⟨c2, r2, m2, q1, q2, q3, q4, kP, hkP, hkPi⟩ := Cond.selects_spec hsel
  cases hcls.symm.trans q1
  cases (State.methodFound?_of_named hnamed hy).symm.trans q2
  cases hnamed.symm.trans q3
  have hselP : selectMethod e.platform s.vm cellB.cls mk = .method mk := by rw [Launch.admits_selectMethod X.admits]; exact q4
  obtain ⟨vm₁, X₁, hstep₁⟩ := X.invokevirtual hexec hown hlink hnamed hmethM hstM hkP hkPi hy (a := b) (cell := cellB) hcell
    (fun z h => by rw [h] at hobj; cases hobj) hselP hmethM habM hkP hkPi (g := g) hg (argsL := argsL) (rest := rest) (hlen _ hsigM) hstack hdg
  rcases hK m meth c ⟨T.setVm vm₁, locs, cells, slots⟩ { g with stack := rest } (.invokevirtual index) mk (Value.ref b :: argsL).toArray X₁ hg hsize hdg hW (X₁.named hnamed) (hpre vm₁ X₁.warmed) with ⟨v, B, X', hpost, hsteps⟩ | ⟨q, B, X', hpost, hsteps⟩
  · exact Or.inl ⟨v, vm₁, B, X₁.warmed, X', hpost, fun target h => hstep₁ _ fun acts => by rw [doInvoke_state]; exact hsteps.trans h⟩
  · exact Or.inr ⟨q, vm₁, B, X₁.warmed, X', hpost, hstep₁ _ fun acts => by rw [doInvoke_state]; exact hsteps⟩
theorem vx_callSX (X : Stand p l e R s m args below meth c T locs cells slots) (hexec : p.tables.exec = Jvm.exec) {own : String} {index : Nat} {y : MethodName} {bytes : ByteArray} {maxL : Nat} {ret : Option FieldType} {hh : List (Nat × Nat × Nat × Nat)}
    (hown : s.vm.findClass own = some m.cls) (hlink : (Cond.methodLink own index y).before args s = true) (hstat : (Cond.static y).before args s = true) (hinit : (Cond.initialized y.cls).before args s = true)
    (hcode : (Cond.codeWith y bytes maxL ret hh).before args s = true) (hy : y.cls ≠ "java/lang/invoke/MethodHandle" ∧ y.cls ≠ "java/lang/invoke/VarHandle")
    {W9 : Nat} {Pre : Pt → Array Value → Prop} {Post : Pt → Array Value → Option Value → Pt → Prop} {PostX : Pt → Array Value → Addr → Pt → Prop} (hK : vx_Back l R p e below s args y 3 W9 Pre Post PostX)
    {g : JFrame} (hg : g.method = m) (hsize : g.locals.size = c.maxLocals) {argsL rest : List Value} (hlen : ∀ sig, parseMethodDescriptor y.desc = some sig → argsL.length = sig.parameters.length)
    (hstack : g.stack = argsL.reverse ++ rest) (hW : 2 * g.monitorRoom + (rest.map fun v => v.category).sum ≤ W9) (hdg : decode c.code g.pc = .ok (.invokestatic index, 3))
    (hpre : ∀ vm₁, s.WarmedH vm₁ → Pre ⟨T.setVm vm₁, locs, cells, slots⟩ argsL.toArray) :
    (∃ (v : Option Value) (vm₁ : Vm) (B : Pt), s.WarmedH vm₁ ∧ Stand p l e R s m args below meth c B.U B.locs B.cells B.slots ∧ Post ⟨T.setVm vm₁, locs, cells, slots⟩ argsL.toArray v B ∧
      ∀ target, Steps p.tables e below (B.U.setTop { g with pc := g.pc + 3, stack := v.toList ++ rest }) target → Steps p.tables e below (T.setTop g) target) ∨
    (∃ (q : Addr) (vm₁ : Vm) (B : Pt), s.WarmedH vm₁ ∧ Stand p l e R s m args below meth c B.U B.locs B.cells B.slots ∧ PostX ⟨T.setVm vm₁, locs, cells, slots⟩ argsL.toArray q B ∧
      Steps p.tables e below (T.setTop g) ((B.U.setTop { g with stack := rest }).pushFrame (.throwing q))) := by
  obtain ⟨mk, methM, cM, hnamed, hmethM, -, -, -, -, -, -, hsigM⟩ := Cond.codeWith_spec hcode
  have hstatic : methM.isStatic = true := Cond.static_spec hnamed hmethM hstat
  obtain ⟨kP, hkP, -⟩ := className_of_methodNamed hnamed
  have hinitP : kP.init = .initialized := Cond.initialized_spec (findClass_of_methodNamed hnamed) hkP hinit
  obtain ⟨vm₁, X₁, hstep₁⟩ := X.invokestatic hexec hown hlink hnamed hmethM hstatic hkP hinitP hy (g := g) hg (argsL := argsL) (rest := rest) (hlen _ hsigM) hstack hdg
  rcases hK m meth c ⟨T.setVm vm₁, locs, cells, slots⟩ { g with stack := rest } (.invokestatic index) mk argsL.toArray X₁ hg hsize hdg hW (X₁.named hnamed) (hpre vm₁ X₁.warmed) with ⟨v, B, X', hpost, hsteps⟩ | ⟨q, B, X', hpost, hsteps⟩
  · exact Or.inl ⟨v, vm₁, B, X₁.warmed, X', hpost, fun target h => hstep₁ _ fun acts => by rw [doInvoke_state]; exact hsteps.trans h⟩
  · exact Or.inr ⟨q, vm₁, B, X₁.warmed, X', hpost, hstep₁ _ fun acts => by rw [doInvoke_state]; exact hsteps⟩
theorem vx_callVW (X : Stand p l e R s m args below meth c T locs cells slots) (hexec : p.tables.exec = Jvm.exec) {own C : String} {index : Nat} {y : MethodName} {bytes : ByteArray} {maxL : Nat} {ret : Option FieldType} {hh : List (Nat × Nat × Nat × Nat)}
    (hown : s.vm.findClass own = some m.cls) (hlink : (Cond.methodLink own index y).before args s = true) (hinst : (Cond.instanceMethod y).before args s = true) (hsel : (Cond.selects C y y).before args s = true)
    (hcode : (Cond.codeWith y bytes maxL ret hh).before args s = true) (hy : y.cls ≠ "java/lang/invoke/MethodHandle" ∧ y.cls ≠ "java/lang/invoke/VarHandle")
    {W9 : Nat} {Pre : Pt → Array Value → Prop} {Post : Pt → Array Value → Option Value → Pt → Prop} (hK : Back l R p e below s args y 3 W9 Pre Post)
    {b : Addr} {cellB : Cell} (hcell : T.heap[b]? = some cellB) (hobj : cellB.vm.isStatics = false) (hcls : s.vm.findClass C = some cellB.cls)
    {g : JFrame} (hg : g.method = m) (hsize : g.locals.size = c.maxLocals) {argsL rest : List Value} (hlen : ∀ sig, parseMethodDescriptor y.desc = some sig → argsL.length = sig.parameters.length)
    (hstack : g.stack = argsL.reverse ++ .ref b :: rest) (hW : 2 * g.monitorRoom + (rest.map fun v => v.category).sum ≤ W9) (hdg : decode c.code g.pc = .ok (.invokevirtual index, 3))
    (hpre : ∀ vm₁, s.WarmedH vm₁ → Pre ⟨T.setVm vm₁, locs, cells, slots⟩ (Value.ref b :: argsL).toArray) :
    ∃ (v : Option Value) (vm₁ : Vm) (B : Pt), s.WarmedH vm₁ ∧ Stand p l e R s m args below meth c B.U B.locs B.cells B.slots ∧ Post ⟨T.setVm vm₁, locs, cells, slots⟩ (Value.ref b :: argsL).toArray v B ∧
      ∀ target, Steps p.tables e below (B.U.setTop { g with pc := g.pc + 3, stack := v.toList ++ rest }) target → Steps p.tables e below (T.setTop g) target := by
  obtain ⟨mk, methM, hnamed, hmethM, hstM, habM⟩ := Cond.instanceMethod_spec hinst
  obtain ⟨m8, methM', cM, hn8, hmethM', -, -, -, -, -, -, hsigM⟩ := Cond.codeWith_spec hcode
  cases Option.some.inj (hn8.symm.trans hnamed)
  cases hmethM.symm.trans hmethM'
  obtain ⟨c2, r2, m2, q1, q2, q3, q4, kP, hkP, hkPi⟩ := Cond.selects_spec hsel
  cases hcls.symm.trans q1
  cases (State.methodFound?_of_named hnamed hy).symm.trans q2
  cases hnamed.symm.trans q3
  have hselP : selectMethod e.platform s.vm cellB.cls mk = .method mk := by rw [Launch.admits_selectMethod X.admits]; exact q4
  obtain ⟨vm₁, X₁, hstep₁⟩ := X.invokevirtual hexec hown hlink hnamed hmethM hstM hkP hkPi hy (a := b) (cell := cellB) hcell
    (fun z h => by rw [h] at hobj; cases hobj) hselP hmethM habM hkP hkPi (g := g) hg (argsL := argsL) (rest := rest) (hlen _ hsigM) hstack hdg
  obtain ⟨v, B, X', hpost, hsteps⟩ := hK m meth c ⟨T.setVm vm₁, locs, cells, slots⟩ { g with stack := rest } (.invokevirtual index) mk (Value.ref b :: argsL).toArray X₁ hg hsize hdg hW (X₁.named hnamed) (hpre vm₁ X₁.warmed)
  exact ⟨v, vm₁, B, X₁.warmed, X', hpost, fun target h => hstep₁ _ fun acts => by rw [doInvoke_state]; exact hsteps.trans h⟩
abbrev vx_CVW (R : Room) (s : State) (args : Array Value) (own C : String) (index : Nat) (y : MethodName) (bytes : ByteArray) (maxL : Nat) (ret : Option FieldType) (hh : List (Nat × Nat × Nat × Nat)) (ws : List Cond) (rm : Room) (mc ms n : Nat) : Prop :=
  (rm.cells = mc ∧ rm.slots = ms ∧ rm.frames + 1 ≤ R.frames ∧ 8 + (maxL + 11) + rm.locals ≤ R.locals ∧ (∀ w ∈ ws, ∀ (a' : Array Value) (U : State), s.WarmedH U.vm → w.before a' U = true) ∧ Cond.codeWith y bytes maxL ret hh ∈ ws) ∧
  (Cond.codeWith y bytes maxL ret hh).before args s = true ∧ (Cond.initialized y.cls).before args s = true ∧ (y.cls ≠ "java/lang/invoke/MethodHandle" ∧ y.cls ≠ "java/lang/invoke/VarHandle") ∧
  (∀ sig, parseMethodDescriptor y.desc = some sig → n = sig.parameters.length) ∧ (Cond.methodLink own index y).before args s = true ∧ (Cond.instanceMethod y).before args s = true ∧ (Cond.selects C y y).before args s = true
theorem vx_cwVW {own C : String} {index maxL mc ms : Nat} {y : MethodName} {bytes : ByteArray} {ret : Option FieldType} {hh : List (Nat × Nat × Nat × Nat)} {Ts ws ws' : List Cond} {rm : Room} (n : Nat) (ht : ∀ w ∈ Ts, w.before args s = true) (hT : GoodIn Ts (wsV own index C y ws)) (hw : ws = Cond.codeWith y bytes maxL ret hh :: ws') (hrc : rm.cells = mc) (hrs : rm.slots = ms)
    (hd : y.cls = C ∧ y.cls ≠ "java/lang/invoke/MethodHandle" ∧ y.cls ≠ "java/lang/invoke/VarHandle" ∧ (parseMethodDescriptor y.desc).map (fun d => d.parameters.length) = some n) (hR : rm.frames + 1 ≤ R.frames ∧ 8 + (maxL + 11) + rm.locals ≤ R.locals) :
    vx_CVW R s args own C index y bytes maxL ret hh ws rm mc ms n := by
  obtain ⟨hC, hd⟩ := hd
  subst hC
  have ok : ∀ w ∈ wsV own index y.cls y ws, w.before args s = true := fun w h => ht w (hT w h).1
  have hG : GoodIn Ts ws := fun w h => hT w (by unfold wsV; exact List.mem_append_right _ h)
  have hc : Cond.codeWith y bytes maxL ret hh ∈ ws := by rw [hw]; exact List.mem_cons_self
  refine ⟨⟨hrc, hrs, hR.1, hR.2, pay_in ht hG, hc⟩, ht _ (hG _ hc).1, ok _ (by simp [wsV]), ⟨hd.1, hd.2.1⟩, fun sig h => ?_, ok _ (by simp [wsV]), ok _ (by simp [wsV]), ok _ (by simp [wsV])⟩
  have h2 := hd.2.2
  rw [h] at h2
  exact (Option.some.inj h2).symm
theorem vx_runVW {y : MethodName} {bytes cc : ByteArray} {maxL nL mc ms n index : Nat} {ret : Option FieldType} {hh : List (Nat × Nat × Nat × Nat)} {ws : List Cond} {rm : Room} {Pc : Array Value → State → Prop} {Qc : Array Value → State → Outcome → State → Prop} {free : Addr → Prop} {Ts : List Cond} {own C : String} {b : Addr} {As rest : List Value} {g : JFrame}
    (S : CallFix p m c cc nL s args Ts own) (hM : Met l y ws rm Pc Qc mc ms free) (cw : vx_CVW R s args own C index y bytes maxL ret hh ws rm mc ms n) (hp : PreV s H C b Pc As)
    (hg : g.method = m) (hn : As.length = n) (hsize : g.locals.size = nL) (hstack : g.stack = As.reverse ++ .ref b :: rest) (hW : 2 * g.monitorRoom + (rest.map fun v => v.category).sum ≤ 8) (hdg : decode cc g.pc = .ok (.invokevirtual index, 3)) (hf : cells + mc ≤ R.cells ∧ slots + ms ≤ R.slots) :
    va_Run p l e R s m args below meth c H locs cells slots mc ms g rest (Qc (Value.ref b :: As).toArray) free := by
  obtain ⟨⟨hrc, hrs, hfr, hlo, hws, hcw⟩, hcode, hini, hy, hlen, hl, hin, hse⟩ := cw
  have hK : Back l R p e below s args y 3 8 (PreOf R mc ms Pc) (PostOf Qc mc ms free) := va_backW (hh := hh) (bytes := bytes) (maxL := maxL) (ret := ret) hM hp.1 hrc hrs hfr hlo hws hcw (fun a' U hW => word_at hW (Or.inl (by first | rfl | simp [Cond.onTables, Cond.keeps, Cond.steady])) hini)
  obtain ⟨hx, hb, hml, ho, -⟩ := S
  obtain ⟨-, ⟨cellB, hcB, hoB, hclB⟩, hPc⟩ := hp
  intro T hT X
  obtain ⟨v, vm₁, ⟨U', l2, c2, s2⟩, hW₁, X', ⟨g', mk, t, L, e1, e2, hq, h1, hL, h2, h3⟩, st⟩ := vx_callVW X hx (C := C) (hh := hh) (bytes := bytes) (maxL := maxL) (ret := ret) ho hl hin hse hcode hy hK (by rw [hT]; exact hcB) hoB hclB hg (hsize.trans hml.symm) (argsL := As) (rest := rest) (fun sig h => hn.trans (hlen sig h)) hstack hW (by rw [hb]; exact hdg)
    (fun vm₁ hW₁ => ⟨hf.1, hf.2, hPc (T.setVm vm₁) hT hW₁⟩)
  dsimp only [Pt.U, Pt.locs, Pt.cells, Pt.slots] at X' e1 e2 h1 h2 h3 st
  subst h1; subst h2; subst h3
  exact ⟨v, (T.setVm vm₁).calling g' mk (Value.ref b :: As).toArray, t, U', L, hT, X', hL, e1, e2, hq, st⟩
section
variable {y : MethodName} {bytes cc : ByteArray} {maxL nL mc ms n index : Nat} {ret : Option FieldType} {ws : List Cond} {rm : Room} {Pc : Array Value → State → Prop} {Qc : Array Value → State → Outcome → State → Prop} {XC : String → State → State → Prop} {free : Addr → Prop} {Ts : List Cond} {own C : String} {b : Addr} {As rest : List Value} {g : JFrame}
theorem vx_runVX {hh : List (Nat × Nat × Nat × Nat)} (S : CallFix p m c cc nL s args Ts own) (hM : vx_Met l y ws rm Pc Qc XC mc ms free) (cw : vx_CVW R s args own C index y bytes maxL ret hh ws rm mc ms n) (hp : PreV s H C b Pc As)
    (hg : g.method = m) (hn : As.length = n) (hsize : g.locals.size = nL) (hstack : g.stack = As.reverse ++ .ref b :: rest) (hW : 2 * g.monitorRoom + (rest.map fun v => v.category).sum ≤ 8) (hdg : decode cc g.pc = .ok (.invokevirtual index, 3)) (hf : cells + mc ≤ R.cells ∧ slots + ms ≤ R.slots) :
    vx_Run p l e R s m args below meth c H locs cells slots mc ms g rest (Qc (Value.ref b :: As).toArray) XC free := by
  obtain ⟨⟨hrc, hrs, hfr, hlo, hws, hcw⟩, hcode, hini, hy, hlen, hl, hin, hse⟩ := cw
  have hK : vx_Back l R p e below s args y 3 8 (PreOf R mc ms Pc) (PostOf Qc mc ms free) (vx_Post XC mc ms free) := vx_backW (hh := hh) (bytes := bytes) (maxL := maxL) (ret := ret) hM hp.1 hrc hrs hfr hlo hws hcw (fun a' U hW => word_at hW (Or.inl (by first | rfl | simp [Cond.onTables, Cond.keeps, Cond.steady])) hini)
  obtain ⟨hx, hb, hml, ho, -⟩ := S
  obtain ⟨-, ⟨cellB, hcB, hoB, hclB⟩, hPc⟩ := hp
  intro T hT X
  rcases vx_callVX X hx (C := C) (hh := hh) (bytes := bytes) (maxL := maxL) (ret := ret) ho hl hin hse hcode hy hK (by rw [hT]; exact hcB) hoB hclB hg (hsize.trans hml.symm) (argsL := As) (rest := rest) (fun sig h => hn.trans (hlen sig h)) hstack hW (by rw [hb]; exact hdg)
    (fun vm₁ hW₁ => ⟨hf.1, hf.2, hPc (T.setVm vm₁) hT hW₁⟩) with ⟨v, vm₁, ⟨U', l2, c2, s2⟩, hW₁, X', ⟨g', mk, t, L, e1, e2, hq, h1, hL, h2, h3⟩, st⟩ | ⟨q, vm₁, ⟨U', l2, c2, s2⟩, hW₁, X', ⟨g', mk, t, L, E, ce, e1, e2, hq, hce, hcv, hcl, h1, hL, h2, h3⟩, st⟩
  · dsimp only [Pt.U, Pt.locs, Pt.cells, Pt.slots] at X' e1 e2 h1 h2 h3 st
    subst h1; subst h2; subst h3
    exact Or.inl ⟨v, (T.setVm vm₁).calling g' mk (Value.ref b :: As).toArray, t, U', L, hT, X', hL, e1, e2, hq, st⟩
  · dsimp only [Pt.U, Pt.locs, Pt.cells, Pt.slots] at X' e1 e2 h1 h2 h3 st hcl
    subst h1; subst h2; subst h3
    exact Or.inr ⟨q, (T.setVm vm₁).calling g' mk (Value.ref b :: As).toArray, t, U', L, E, ce, hT, X', hL, e1, e2, hq, hce, hcv, vx_cls hW₁ hcl, st⟩
theorem vx_runSX {hh : List (Nat × Nat × Nat × Nat)} (S : CallFix p m c cc nL s args Ts own) (hM : vx_Met l y ws rm Pc Qc XC mc ms free) (cw : vx_CSW R s args own index y bytes maxL ret hh ws rm mc ms n) (hp : PreS s H Pc As)
    (hg : g.method = m) (hn : As.length = n) (hsize : g.locals.size = nL) (hstack : g.stack = As.reverse ++ rest) (hW : 2 * g.monitorRoom + (rest.map fun v => v.category).sum ≤ 8) (hdg : decode cc g.pc = .ok (.invokestatic index, 3)) (hf : cells + mc ≤ R.cells ∧ slots + ms ≤ R.slots) :
    vx_Run p l e R s m args below meth c H locs cells slots mc ms g rest (Qc As.toArray) XC free := by
  obtain ⟨⟨hrc, hrs, hfr, hlo, hws, hcw⟩, hcode, hini, hy, hlen, hl, hstt⟩ := cw
  have hK : vx_Back l R p e below s args y 3 8 (PreOf R mc ms Pc) (PostOf Qc mc ms free) (vx_Post XC mc ms free) := vx_backW (hh := hh) (bytes := bytes) (maxL := maxL) (ret := ret) hM hp.1 hrc hrs hfr hlo hws hcw (fun a' U hW => word_at hW (Or.inl (by first | rfl | simp [Cond.onTables, Cond.keeps, Cond.steady])) hini)
  obtain ⟨hx, hb, hml, ho, -⟩ := S
  intro T hT X
  rcases vx_callSX X hx (hh := hh) (bytes := bytes) (maxL := maxL) (ret := ret) ho hl hstt hini hcode hy hK hg (hsize.trans hml.symm) (argsL := As) (rest := rest) (fun sig h => hn.trans (hlen sig h)) hstack hW (by rw [hb]; exact hdg)
    (fun vm₁ hW₁ => ⟨hf.1, hf.2, hp.2 (T.setVm vm₁) hT hW₁⟩) with ⟨v, vm₁, ⟨U', l2, c2, s2⟩, hW₁, X', ⟨g', mk, t, L, e1, e2, hq, h1, hL, h2, h3⟩, st⟩ | ⟨q, vm₁, ⟨U', l2, c2, s2⟩, hW₁, X', ⟨g', mk, t, L, E, ce, e1, e2, hq, hce, hcv, hcl, h1, hL, h2, h3⟩, st⟩
  · dsimp only [Pt.U, Pt.locs, Pt.cells, Pt.slots] at X' e1 e2 h1 h2 h3 st
    subst h1; subst h2; subst h3
    exact Or.inl ⟨v, (T.setVm vm₁).calling g' mk As.toArray, t, U', L, hT, X', hL, e1, e2, hq, st⟩
  · dsimp only [Pt.U, Pt.locs, Pt.cells, Pt.slots] at X' e1 e2 h1 h2 h3 st hcl
    subst h1; subst h2; subst h3
    exact Or.inr ⟨q, (T.setVm vm₁).calling g' mk As.toArray, t, U', L, E, ce, hT, X', hL, e1, e2, hq, hce, hcv, vx_cls hW₁ hcl, st⟩
end
end VXH
theorem vx_ofWH {l : Launch} {y : MethodName} {ws ws' : List Cond} {rm : Room} {Pc : Array Value → State → Prop} {Qc : Array Value → State → Outcome → State → Prop} {XC : String → State → State → Prop} {mc ms : Nat} {free : Addr → Prop} {cc : ByteArray} {maxL : Nat} {ret : Option FieldType} {hh : List (Nat × Nat × Nat × Nat)}
    (hy : plainName y.cls = true) (hw : ws = Cond.codeWith y cc maxL ret hh :: ws')
    (body : ∀ p e s m args below meth c s₁, BodyLoose p l y (headSpec ws rm) cc maxL ret e s m args below meth c s₁ → c.maxLocals = maxL → Pc args s →
      W p l e (headSpec ws rm).room s m args below meth c s.heap [] 0 0 (vx_MQ below Qc XC args s mc ms free) (entryFrame m args maxL)) : vx_Met l y ws rm Pc Qc XC mc ms free := by
  refine MetFree.of_bodyS (code := cc) (maxLocals := maxL) (ret := ret) hy ?_ ?_
  · intro args s m h hn
    obtain ⟨m9, meth, c, hn9, h1, h2, h3, h4, -, h5, h6, -⟩ := Cond.codeWith_spec (atoms_spec (ws := ws) h _ (by rw [hw]; exact List.mem_cons_self))
    cases hn.symm.trans hn9
    exact ⟨meth, c, h1, h2, h3, h4, h5, h6⟩
  · intro p e s m args below meth c s₁ B hml hP _
    have hh0 : s₁.heap = s.heap := by rw [B.state]; rfl
    obtain ⟨t, a1, o, b1, b2, b3⟩ := body p e s m args below meth c s₁ B hml hP s₁ hh0 (Stand.of_body B)
    exact ⟨t, o, a1, b1, b2, b3⟩
/-! ===== END ===== -/
end
section
def RX0 : String := "MemoParser$Grammar"
def TX0 : u_T := fun k => match k with
  | 0 => ("MemoParser$Grammar", "kinds", "[I", true)
  | 1 => ("MemoParser$Grammar", "firsts", "[I", true)
  | 2 => ("MemoParser$Grammar", "seconds", "[I", true)
  | 3 => ("MemoParser$Grammar", "ruleExpressions", "[I", true)
  | 4 => ("MemoParser$Grammar", "count", "I", false)
  | 5 => ("MemoParser$Grammar", "empties", "[Z", true)
  | 6 => ("MemoParser$Grammar", "emptyRules", "[Z", true)
  | _ => ("MemoParser$Grammar", "beginnings", "[I", true)
def tyX0 : Nat → FieldType := fun k => match k with
  | 0 => .array .int
  | 1 => .array .int
  | 2 => .array .int
  | 3 => .array .int
  | 4 => .int
  | 5 => .array .boolean
  | 6 => .array .boolean
  | _ => .array .int
abbrev wsX00 : List Cond := u_ws RX0 TX0 8
theorem nmX0 : ∀ a, a < 8 → ∀ b, b < 8 → a ≠ b → (TX0 a).2.1 ≠ (TX0 b).2.1 := by decide +kernel
theorem tyX0_ok : ∀ k, k < 8 → parseFieldDescriptor (TX0 k).2.2.1 = some (tyX0 k) := by decide +kernel
abbrev cX0_init : ByteArray := prog_2_method_1_code
def yX0_init : MethodName := ⟨RX0, "<init>", "()V"⟩
abbrev cX0_isFull : ByteArray := prog_2_method_2_code
def yX0_isFull : MethodName := ⟨RX0, "isFull", "()Z"⟩
abbrev cX0_has : ByteArray := prog_2_method_3_code
def yX0_has : MethodName := ⟨RX0, "has", "(I)Z"⟩
abbrev cX0_add : ByteArray := prog_2_method_4_code
def yX0_add : MethodName := ⟨RX0, "add", "(III)I"⟩
abbrev cX0_give : ByteArray := prog_2_method_5_code
def yX0_give : MethodName := ⟨RX0, "give", "(II)I"⟩
abbrev cX0_succeedsInPlace : ByteArray := prog_2_method_6_code
def yX0_succeedsInPlace : MethodName := ⟨RX0, "succeedsInPlace", "(I)Z"⟩
abbrev cX0_beginsWithItself : ByteArray := prog_2_method_7_code
def yX0_beginsWithItself : MethodName := ⟨RX0, "beginsWithItself", "(I)Z"⟩
abbrev cX0_addToDigest : ByteArray := prog_2_method_8_code
def yX0_addToDigest : MethodName := ⟨RX0, "addToDigest", "(J)J"⟩
abbrev cX0_findEmpties : ByteArray := prog_2_method_9_code
def yX0_findEmpties : MethodName := ⟨RX0, "findEmpties", "()V"⟩
abbrev cX0_isEmptyByForm : ByteArray := prog_2_method_10_code
def yX0_isEmptyByForm : MethodName := ⟨RX0, "isEmptyByForm", "(I)Z"⟩
abbrev cX0_addEmptyRules : ByteArray := prog_2_method_11_code
def yX0_addEmptyRules : MethodName := ⟨RX0, "addEmptyRules", "()Z"⟩
abbrev cX0_findBeginnings : ByteArray := prog_2_method_12_code
def yX0_findBeginnings : MethodName := ⟨RX0, "findBeginnings", "()V"⟩
abbrev cX0_beginningsByForm : ByteArray := prog_2_method_13_code
def yX0_beginningsByForm : MethodName := ⟨RX0, "beginningsByForm", "(I)I"⟩
abbrev cX0_beginningsOfRule : ByteArray := prog_2_method_14_code
def yX0_beginningsOfRule : MethodName := ⟨RX0, "beginningsOfRule", "(I)I"⟩
def RX1 : String := "MemoParser$Memory"
def TX1 : u_T := fun k => match k with
  | 0 => ("MemoParser$Memory", "results", "[I", true)
  | 1 => ("MemoParser$Memory", "reaches", "[I", true)
  | _ => ("MemoParser$Memory", "names", "[I", true)
def tyX1 : Nat → FieldType := fun k => match k with
  | 0 => .array .int
  | 1 => .array .int
  | _ => .array .int
abbrev wsX10 : List Cond := u_ws RX1 TX1 3
theorem nmX1 : ∀ a, a < 3 → ∀ b, b < 3 → a ≠ b → (TX1 a).2.1 ≠ (TX1 b).2.1 := by decide +kernel
theorem tyX1_ok : ∀ k, k < 3 → parseFieldDescriptor (TX1 k).2.2.1 = some (tyX1 k) := by decide +kernel
abbrev cX1_init : ByteArray := prog_3_method_1_code
def yX1_init : MethodName := ⟨RX1, "<init>", "()V"⟩
abbrev cX1_holds : ByteArray := prog_3_method_2_code
def yX1_holds : MethodName := ⟨RX1, "holds", "(I)Z"⟩
abbrev cX1_put : ByteArray := prog_3_method_3_code
def yX1_put : MethodName := ⟨RX1, "put", "(IIII)V"⟩
abbrev cX1_clear : ByteArray := prog_3_method_4_code
def yX1_clear : MethodName := ⟨RX1, "clear", "()V"⟩
abbrev cX1_count : ByteArray := prog_3_method_5_code
def yX1_count : MethodName := ⟨RX1, "count", "()I"⟩
abbrev cX1_keepUnchanged : ByteArray := prog_3_method_6_code
def yX1_keepUnchanged : MethodName := ⟨RX1, "keepUnchanged", "(II)I"⟩
abbrev cX1_shift : ByteArray := prog_3_method_7_code
def yX1_shift : MethodName := ⟨RX1, "shift", "(II)V"⟩
abbrev cX1_addToDigest : ByteArray := prog_3_method_8_code
def yX1_addToDigest : MethodName := ⟨RX1, "addToDigest", "(J)J"⟩
abbrev cX1_move : ByteArray := prog_3_method_9_code
def yX1_move : MethodName := ⟨RX1, "move", "(II)V"⟩
abbrev cX1_drop : ByteArray := prog_3_method_10_code
def yX1_drop : MethodName := ⟨RX1, "drop", "(I)V"⟩
def RX2 : String := "MemoParser$Progress"
def TX2 : u_T := fun k => match k with
  | 0 => ("MemoParser$Progress", "rules", "[I", true)
  | 1 => ("MemoParser$Progress", "places", "[I", true)
  | 2 => ("MemoParser$Progress", "seeds", "[I", true)
  | 3 => ("MemoParser$Progress", "asked", "[Z", true)
  | 4 => ("MemoParser$Progress", "reaches", "[I", true)
  | 5 => ("MemoParser$Progress", "names", "[I", true)
  | 6 => ("MemoParser$Progress", "earliestAsked", "[I", true)
  | 7 => ("MemoParser$Progress", "numberOf", "[I", true)
  | 8 => ("MemoParser$Progress", "rulesAt", "[I", true)
  | _ => ("MemoParser$Progress", "open", "I", false)
def tyX2 : Nat → FieldType := fun k => match k with
  | 0 => .array .int
  | 1 => .array .int
  | 2 => .array .int
  | 3 => .array .boolean
  | 4 => .array .int
  | 5 => .array .int
  | 6 => .array .int
  | 7 => .array .int
  | 8 => .array .int
  | _ => .int
abbrev wsX20 : List Cond := u_ws RX2 TX2 10
theorem nmX2 : ∀ a, a < 10 → ∀ b, b < 10 → a ≠ b → (TX2 a).2.1 ≠ (TX2 b).2.1 := by decide +kernel
theorem tyX2_ok : ∀ k, k < 10 → parseFieldDescriptor (TX2 k).2.2.1 = some (tyX2 k) := by decide +kernel
abbrev cX2_init : ByteArray := prog_4_method_1_code
def yX2_init : MethodName := ⟨RX2, "<init>", "()V"⟩
abbrev cX2_isFull : ByteArray := prog_4_method_2_code
def yX2_isFull : MethodName := ⟨RX2, "isFull", "()Z"⟩
abbrev cX2_hasOneOf : ByteArray := prog_4_method_3_code
def yX2_hasOneOf : MethodName := ⟨RX2, "hasOneOf", "(II)Z"⟩
abbrev cX2_begin : ByteArray := prog_4_method_4_code
def yX2_begin : MethodName := ⟨RX2, "begin", "(II)I"⟩
abbrev cX2_end : ByteArray := prog_4_method_5_code
def yX2_end : MethodName := ⟨RX2, "end", "()V"⟩
abbrev cX2_askSeed : ByteArray := prog_4_method_6_code
def yX2_askSeed : MethodName := ⟨RX2, "askSeed", "(I)I"⟩
abbrev cX2_countLook : ByteArray := prog_4_method_7_code
def yX2_countLook : MethodName := ⟨RX2, "countLook", "(I)V"⟩
abbrev cX2_countNames : ByteArray := prog_4_method_8_code
def yX2_countNames : MethodName := ⟨RX2, "countNames", "(II)V"⟩
abbrev cX2_askedEarlierOne : ByteArray := prog_4_method_9_code
def yX2_askedEarlierOne : MethodName := ⟨RX2, "askedEarlierOne", "(I)Z"⟩
abbrev cX2_countAsked : ByteArray := prog_4_method_10_code
def yX2_countAsked : MethodName := ⟨RX2, "countAsked", "(I)V"⟩
def RX3 : String := "MemoParser$Search"
def TX3 : u_T := fun k => match k with
  | 0 => ("MemoParser$Search", "grammar", "LMemoParser$Grammar;", true)
  | 1 => ("MemoParser$Search", "text", "LMemoParser$Text;", true)
  | 2 => ("MemoParser$Search", "memory", "LMemoParser$Memory;", true)
  | 3 => ("MemoParser$Search", "progress", "LMemoParser$Progress;", true)
  | 4 => ("MemoParser$Search", "work", "I", false)
  | 5 => ("MemoParser$Search", "hits", "I", false)
  | 6 => ("MemoParser$Search", "growths", "I", false)
  | 7 => ("MemoParser$Search", "farthest", "I", false)
  | _ => ("MemoParser$Search", "cut", "Z", false)
def tyX3 : Nat → FieldType := fun k => match k with
  | 0 => .object "MemoParser$Grammar"
  | 1 => .object "MemoParser$Text"
  | 2 => .object "MemoParser$Memory"
  | 3 => .object "MemoParser$Progress"
  | 4 => .int
  | 5 => .int
  | 6 => .int
  | 7 => .int
  | _ => .boolean
abbrev wsX30 : List Cond := u_ws RX3 TX3 9
theorem nmX3 : ∀ a, a < 9 → ∀ b, b < 9 → a ≠ b → (TX3 a).2.1 ≠ (TX3 b).2.1 := by decide +kernel
theorem tyX3_ok : ∀ k, k < 9 → parseFieldDescriptor (TX3 k).2.2.1 = some (tyX3 k) := by decide +kernel
abbrev cX3_init : ByteArray := prog_5_method_1_code
def yX3_init : MethodName := ⟨RX3, "<init>", "(LMemoParser$Grammar;LMemoParser$Text;LMemoParser$Memory;)V"⟩
abbrev cX3_run : ByteArray := prog_5_method_2_code
def yX3_run : MethodName := ⟨RX3, "run", "(II)I"⟩
abbrev cX3_look : ByteArray := prog_5_method_3_code
def yX3_look : MethodName := ⟨RX3, "look", "(III)I"⟩
abbrev cX3_lookForRange : ByteArray := prog_5_method_4_code
def yX3_lookForRange : MethodName := ⟨RX3, "lookForRange", "(III)I"⟩
abbrev cX3_lookForSequence : ByteArray := prog_5_method_5_code
def yX3_lookForSequence : MethodName := ⟨RX3, "lookForSequence", "(IIII)I"⟩
abbrev cX3_lookForChoice : ByteArray := prog_5_method_6_code
def yX3_lookForChoice : MethodName := ⟨RX3, "lookForChoice", "(IIII)I"⟩
abbrev cX3_lookForStar : ByteArray := prog_5_method_7_code
def yX3_lookForStar : MethodName := ⟨RX3, "lookForStar", "(III)I"⟩
abbrev cX3_lookForOptional : ByteArray := prog_5_method_8_code
def yX3_lookForOptional : MethodName := ⟨RX3, "lookForOptional", "(III)I"⟩
abbrev cX3_lookForAnd : ByteArray := prog_5_method_9_code
def yX3_lookForAnd : MethodName := ⟨RX3, "lookForAnd", "(III)I"⟩
abbrev cX3_lookForNot : ByteArray := prog_5_method_10_code
def yX3_lookForNot : MethodName := ⟨RX3, "lookForNot", "(III)I"⟩
abbrev cX3_lookForRule : ByteArray := prog_5_method_11_code
def yX3_lookForRule : MethodName := ⟨RX3, "lookForRule", "(III)I"⟩
abbrev cX3_knownResult : ByteArray := prog_5_method_12_code
def yX3_knownResult : MethodName := ⟨RX3, "knownResult", "(II)I"⟩
abbrev cX3_finish : ByteArray := prog_5_method_13_code
def yX3_finish : MethodName := ⟨RX3, "finish", "(II)V"⟩
def RX4 : String := "MemoParser$Text"
def TX4 : u_T := fun k => match k with
  | 0 => ("MemoParser$Text", "bytes", "[I", true)
  | _ => ("MemoParser$Text", "size", "I", false)
def tyX4 : Nat → FieldType := fun k => match k with
  | 0 => .array .int
  | _ => .int
abbrev wsX40 : List Cond := u_ws RX4 TX4 2
theorem nmX4 : ∀ a, a < 2 → ∀ b, b < 2 → a ≠ b → (TX4 a).2.1 ≠ (TX4 b).2.1 := by decide +kernel
theorem tyX4_ok : ∀ k, k < 2 → parseFieldDescriptor (TX4 k).2.2.1 = some (tyX4 k) := by decide +kernel
abbrev cX4_init : ByteArray := prog_6_method_1_code
def yX4_init : MethodName := ⟨RX4, "<init>", "()V"⟩
abbrev cX4_hasByte : ByteArray := prog_6_method_2_code
def yX4_hasByte : MethodName := ⟨RX4, "hasByte", "(I)Z"⟩
abbrev cX4_byteOrNone : ByteArray := prog_6_method_3_code
def yX4_byteOrNone : MethodName := ⟨RX4, "byteOrNone", "(I)I"⟩
abbrev cX4_splice : ByteArray := prog_6_method_4_code
def yX4_splice : MethodName := ⟨RX4, "splice", "(IIJ)V"⟩
abbrev cX4_addToDigest : ByteArray := prog_6_method_5_code
def yX4_addToDigest : MethodName := ⟨RX4, "addToDigest", "(J)J"⟩
def RX5 : String := "MemoParser"
def TX5 : u_T := fun k => match k with
  | 0 => ("MemoParser", "grammar", "LMemoParser$Grammar;", true)
  | 1 => ("MemoParser", "text", "LMemoParser$Text;", true)
  | 2 => ("MemoParser", "memory", "LMemoParser$Memory;", true)
  | _ => ("MemoParser", "search", "LMemoParser$Search;", true)
def tyX5 : Nat → FieldType := fun k => match k with
  | 0 => .object "MemoParser$Grammar"
  | 1 => .object "MemoParser$Text"
  | 2 => .object "MemoParser$Memory"
  | _ => .object "MemoParser$Search"
abbrev wsX50 : List Cond := u_ws RX5 TX5 4
theorem nmX5 : ∀ a, a < 4 → ∀ b, b < 4 → a ≠ b → (TX5 a).2.1 ≠ (TX5 b).2.1 := by decide +kernel
theorem tyX5_ok : ∀ k, k < 4 → parseFieldDescriptor (TX5 k).2.2.1 = some (tyX5 k) := by decide +kernel
abbrev cX5_init : ByteArray := prog_1_method_1_code
def yX5_init : MethodName := ⟨RX5, "<init>", "()V"⟩
abbrev cX5_plain : ByteArray := prog_1_method_2_code
def yX5_plain : MethodName := ⟨RX5, "plain", "(I)I"⟩
abbrev cX5_range : ByteArray := prog_1_method_3_code
def yX5_range : MethodName := ⟨RX5, "range", "(II)I"⟩
abbrev cX5_rule : ByteArray := prog_1_method_4_code
def yX5_rule : MethodName := ⟨RX5, "rule", "(I)I"⟩
abbrev cX5_join : ByteArray := prog_1_method_5_code
def yX5_join : MethodName := ⟨RX5, "join", "(III)I"⟩
abbrev cX5_wrap : ByteArray := prog_1_method_6_code
def yX5_wrap : MethodName := ⟨RX5, "wrap", "(II)I"⟩
abbrev cX5_define : ByteArray := prog_1_method_7_code
def yX5_define : MethodName := ⟨RX5, "define", "(II)I"⟩
abbrev cX5_expressionCount : ByteArray := prog_1_method_8_code
def yX5_expressionCount : MethodName := ⟨RX5, "expressionCount", "()I"⟩
abbrev cX5_canBeEmpty : ByteArray := prog_1_method_9_code
def yX5_canBeEmpty : MethodName := ⟨RX5, "canBeEmpty", "(I)Z"⟩
abbrev cX5_isLeftRecursive : ByteArray := prog_1_method_10_code
def yX5_isLeftRecursive : MethodName := ⟨RX5, "isLeftRecursive", "(I)Z"⟩
abbrev cX5_replace : ByteArray := prog_1_method_11_code
def yX5_replace : MethodName := ⟨RX5, "replace", "(IIJ)I"⟩
abbrev cX5_size : ByteArray := prog_1_method_12_code
def yX5_size : MethodName := ⟨RX5, "size", "()I"⟩
abbrev cX5_byteAt : ByteArray := prog_1_method_13_code
def yX5_byteAt : MethodName := ⟨RX5, "byteAt", "(I)I"⟩
abbrev cX5_parse : ByteArray := prog_1_method_14_code
def yX5_parse : MethodName := ⟨RX5, "parse", "(II)I"⟩
abbrev cX5_work : ByteArray := prog_1_method_15_code
def yX5_work : MethodName := ⟨RX5, "work", "()I"⟩
abbrev cX5_hits : ByteArray := prog_1_method_16_code
def yX5_hits : MethodName := ⟨RX5, "hits", "()I"⟩
abbrev cX5_growths : ByteArray := prog_1_method_17_code
def yX5_growths : MethodName := ⟨RX5, "growths", "()I"⟩
abbrev cX5_farthest : ByteArray := prog_1_method_18_code
def yX5_farthest : MethodName := ⟨RX5, "farthest", "()I"⟩
abbrev cX5_remembered : ByteArray := prog_1_method_19_code
def yX5_remembered : MethodName := ⟨RX5, "remembered", "()I"⟩
abbrev cX5_result : ByteArray := prog_1_method_20_code
def yX5_result : MethodName := ⟨RX5, "result", "(II)I"⟩
abbrev cX5_reach : ByteArray := prog_1_method_21_code
def yX5_reach : MethodName := ⟨RX5, "reach", "(II)I"⟩
abbrev cX5_forget : ByteArray := prog_1_method_22_code
def yX5_forget : MethodName := ⟨RX5, "forget", "()I"⟩
abbrev cX5_digest : ByteArray := prog_1_method_23_code
def yX5_digest : MethodName := ⟨RX5, "digest", "()J"⟩
abbrev cX5_refuseIfFull : ByteArray := prog_1_method_24_code
def yX5_refuseIfFull : MethodName := ⟨RX5, "refuseIfFull", "()V"⟩
abbrev cX5_refuseUnknownExpression : ByteArray := prog_1_method_25_code
def yX5_refuseUnknownExpression : MethodName := ⟨RX5, "refuseUnknownExpression", "(I)V"⟩
abbrev cX5_refuseUnknownPlace : ByteArray := prog_1_method_26_code
def yX5_refuseUnknownPlace : MethodName := ⟨RX5, "refuseUnknownPlace", "(I)V"⟩
abbrev cX5_refuseUnknownRule : ByteArray := prog_1_method_27_code
def yX5_refuseUnknownRule : MethodName := ⟨RX5, "refuseUnknownRule", "(I)V"⟩
abbrev cX5_isByte : ByteArray := prog_1_method_28_code
def yX5_isByte : MethodName := ⟨RX5, "isByte", "(I)Z"⟩
abbrev cX5_packedByte : ByteArray := prog_1_method_29_code
def yX5_packedByte : MethodName := ⟨RX5, "packedByte", "(JI)I"⟩
abbrev cX5_areBytes : ByteArray := prog_1_method_30_code
def yX5_areBytes : MethodName := ⟨RX5, "areBytes", "(J)Z"⟩
abbrev cX5_countBytes : ByteArray := prog_1_method_31_code
def yX5_countBytes : MethodName := ⟨RX5, "countBytes", "(J)I"⟩
abbrev cX5_cell : ByteArray := prog_1_method_32_code
def yX5_cell : MethodName := ⟨RX5, "cell", "(II)I"⟩
abbrev cX5_bit : ByteArray := prog_1_method_33_code
def yX5_bit : MethodName := ⟨RX5, "bit", "(I)I"⟩
abbrev cX5_mix : ByteArray := prog_1_method_34_code
def yX5_mix : MethodName := ⟨RX5, "mix", "(JI)J"⟩
def RX6 : String := "MemoParserModel"
def TX6 : u_T := fun k => match k with
  | 0 => ("MemoParserModel", "thrown", "I", false)
  | 1 => ("MemoParserModel", "expressions", "I", false)
  | 2 => ("MemoParserModel", "kinds", "[I", true)
  | 3 => ("MemoParserModel", "as", "[I", true)
  | 4 => ("MemoParserModel", "bs", "[I", true)
  | 5 => ("MemoParserModel", "rules", "[I", true)
  | 6 => ("MemoParserModel", "size", "I", false)
  | 7 => ("MemoParserModel", "text", "[I", false)
  | 8 => ("MemoParserModel", "isKnown", "[Z", false)
  | 9 => ("MemoParserModel", "results", "[I", false)
  | 10 => ("MemoParserModel", "reaches", "[I", false)
  | 11 => ("MemoParserModel", "names", "[I", false)
  | 12 => ("MemoParserModel", "progresses", "I", false)
  | 13 => ("MemoParserModel", "progressRules", "[I", true)
  | 14 => ("MemoParserModel", "progressPlaces", "[I", true)
  | 15 => ("MemoParserModel", "seeds", "[I", true)
  | 16 => ("MemoParserModel", "areAsked", "[Z", true)
  | 17 => ("MemoParserModel", "lean", "[Z", true)
  | 18 => ("MemoParserModel", "looked", "[I", true)
  | 19 => ("MemoParserModel", "named", "[I", true)
  | 20 => ("MemoParserModel", "isExhausted", "Z", false)
  | 21 => ("MemoParserModel", "hasCut", "Z", false)
  | 22 => ("MemoParserModel", "work", "I", false)
  | 23 => ("MemoParserModel", "hits", "I", false)
  | 24 => ("MemoParserModel", "growths", "I", false)
  | 25 => ("MemoParserModel", "farthest", "I", false)
  | 26 => ("MemoParserModel", "ruleCan", "[Z", true)
  | 27 => ("MemoParserModel", "areEmpty", "[Z", true)
  | _ => ("MemoParserModel", "begins", "[I", true)
def tyX6 : Nat → FieldType := fun k => match k with
  | 0 => .int
  | 1 => .int
  | 2 => .array .int
  | 3 => .array .int
  | 4 => .array .int
  | 5 => .array .int
  | 6 => .int
  | 7 => .array .int
  | 8 => .array .boolean
  | 9 => .array .int
  | 10 => .array .int
  | 11 => .array .int
  | 12 => .int
  | 13 => .array .int
  | 14 => .array .int
  | 15 => .array .int
  | 16 => .array .boolean
  | 17 => .array .boolean
  | 18 => .array .int
  | 19 => .array .int
  | 20 => .boolean
  | 21 => .boolean
  | 22 => .int
  | 23 => .int
  | 24 => .int
  | 25 => .int
  | 26 => .array .boolean
  | 27 => .array .boolean
  | _ => .array .int
abbrev wsX60 : List Cond := u_ws RX6 TX6 29
theorem nmX6 : ∀ a, a < 29 → ∀ b, b < 29 → a ≠ b → (TX6 a).2.1 ≠ (TX6 b).2.1 := by decide +kernel
theorem tyX6_ok : ∀ k, k < 29 → parseFieldDescriptor (TX6 k).2.2.1 = some (tyX6 k) := by decide +kernel
abbrev cX6_init : ByteArray := prog_8_method_1_code
def yX6_init : MethodName := ⟨RX6, "<init>", "()V"⟩
abbrev cX6_thrown : ByteArray := prog_8_method_2_code
def yX6_thrown : MethodName := ⟨RX6, "thrown", "()I"⟩
abbrev cX6_fail : ByteArray := prog_8_method_3_code
def yX6_fail : MethodName := ⟨RX6, "fail", "(I)I"⟩
abbrev cX6_isExpression : ByteArray := prog_8_method_4_code
def yX6_isExpression : MethodName := ⟨RX6, "isExpression", "(I)Z"⟩
abbrev cX6_isRule : ByteArray := prog_8_method_5_code
def yX6_isRule : MethodName := ⟨RX6, "isRule", "(I)Z"⟩
abbrev cX6_isByte : ByteArray := prog_8_method_6_code
def yX6_isByte : MethodName := ⟨RX6, "isByte", "(I)Z"⟩
abbrev cX6_add : ByteArray := prog_8_method_7_code
def yX6_add : MethodName := ⟨RX6, "add", "(III)I"⟩
abbrev cX6_plain : ByteArray := prog_8_method_8_code
def yX6_plain : MethodName := ⟨RX6, "plain", "(I)I"⟩
abbrev cX6_range : ByteArray := prog_8_method_9_code
def yX6_range : MethodName := ⟨RX6, "range", "(II)I"⟩
abbrev cX6_rule : ByteArray := prog_8_method_10_code
def yX6_rule : MethodName := ⟨RX6, "rule", "(I)I"⟩
abbrev cX6_join : ByteArray := prog_8_method_11_code
def yX6_join : MethodName := ⟨RX6, "join", "(III)I"⟩
abbrev cX6_wrap : ByteArray := prog_8_method_12_code
def yX6_wrap : MethodName := ⟨RX6, "wrap", "(II)I"⟩
abbrev cX6_define : ByteArray := prog_8_method_13_code
def yX6_define : MethodName := ⟨RX6, "define", "(II)I"⟩
abbrev cX6_expressionCount : ByteArray := prog_8_method_14_code
def yX6_expressionCount : MethodName := ⟨RX6, "expressionCount", "()I"⟩
abbrev cX6_can : ByteArray := prog_8_method_15_code
def yX6_can : MethodName := ⟨RX6, "can", "(I)Z"⟩
abbrev cX6_beginsWith : ByteArray := prog_8_method_16_code
def yX6_beginsWith : MethodName := ⟨RX6, "beginsWith", "(I)I"⟩
abbrev cX6_findForms : ByteArray := prog_8_method_17_code
def yX6_findForms : MethodName := ⟨RX6, "findForms", "()V"⟩
abbrev cX6_canBeEmpty : ByteArray := prog_8_method_18_code
def yX6_canBeEmpty : MethodName := ⟨RX6, "canBeEmpty", "(I)Z"⟩
abbrev cX6_isLeftRecursive : ByteArray := prog_8_method_19_code
def yX6_isLeftRecursive : MethodName := ⟨RX6, "isLeftRecursive", "(I)Z"⟩
abbrev cX6_byteOf : ByteArray := prog_8_method_20_code
def yX6_byteOf : MethodName := ⟨RX6, "byteOf", "(JI)I"⟩
abbrev cX6_replace : ByteArray := prog_8_method_21_code
def yX6_replace : MethodName := ⟨RX6, "replace", "(IIJ)I"⟩
abbrev cX6_keep : ByteArray := prog_8_method_22_code
def yX6_keep : MethodName := ⟨RX6, "keep", "(III)I"⟩
abbrev cX6_size : ByteArray := prog_8_method_23_code
def yX6_size : MethodName := ⟨RX6, "size", "()I"⟩
abbrev cX6_byteAt : ByteArray := prog_8_method_24_code
def yX6_byteAt : MethodName := ⟨RX6, "byteAt", "(I)I"⟩
abbrev cX6_succeed : ByteArray := prog_8_method_25_code
def yX6_succeed : MethodName := ⟨RX6, "succeed", "(I)I"⟩
abbrev cX6_miss : ByteArray := prog_8_method_26_code
def yX6_miss : MethodName := ⟨RX6, "miss", "(Z)I"⟩
abbrev cX6_look : ByteArray := prog_8_method_27_code
def yX6_look : MethodName := ⟨RX6, "look", "(III)I"⟩
abbrev cX6_lookAt : ByteArray := prog_8_method_28_code
def yX6_lookAt : MethodName := ⟨RX6, "lookAt", "(III)I"⟩
abbrev cX6_lookAgain : ByteArray := prog_8_method_29_code
def yX6_lookAgain : MethodName := ⟨RX6, "lookAgain", "(III)I"⟩
abbrev cX6_isInProgress : ByteArray := prog_8_method_30_code
def yX6_isInProgress : MethodName := ⟨RX6, "isInProgress", "(II)Z"⟩
abbrev cX6_isShut : ByteArray := prog_8_method_31_code
def yX6_isShut : MethodName := ⟨RX6, "isShut", "(II)Z"⟩
abbrev cX6_name : ByteArray := prog_8_method_32_code
def yX6_name : MethodName := ⟨RX6, "name", "(II)V"⟩
abbrev cX6_lookRule : ByteArray := prog_8_method_33_code
def yX6_lookRule : MethodName := ⟨RX6, "lookRule", "(III)I"⟩
abbrev cX6_ask : ByteArray := prog_8_method_34_code
def yX6_ask : MethodName := ⟨RX6, "ask", "(I)I"⟩
abbrev cX6_isPlace : ByteArray := prog_8_method_35_code
def yX6_isPlace : MethodName := ⟨RX6, "isPlace", "(I)Z"⟩
abbrev cX6_parse : ByteArray := prog_8_method_36_code
def yX6_parse : MethodName := ⟨RX6, "parse", "(II)I"⟩
abbrev cX6_work : ByteArray := prog_8_method_37_code
def yX6_work : MethodName := ⟨RX6, "work", "()I"⟩
abbrev cX6_hits : ByteArray := prog_8_method_38_code
def yX6_hits : MethodName := ⟨RX6, "hits", "()I"⟩
abbrev cX6_growths : ByteArray := prog_8_method_39_code
def yX6_growths : MethodName := ⟨RX6, "growths", "()I"⟩
abbrev cX6_farthest : ByteArray := prog_8_method_40_code
def yX6_farthest : MethodName := ⟨RX6, "farthest", "()I"⟩
abbrev cX6_countAll : ByteArray := prog_8_method_41_code
def yX6_countAll : MethodName := ⟨RX6, "countAll", "()I"⟩
abbrev cX6_forgetAll : ByteArray := prog_8_method_42_code
def yX6_forgetAll : MethodName := ⟨RX6, "forgetAll", "()I"⟩
abbrev cX6_remembered : ByteArray := prog_8_method_43_code
def yX6_remembered : MethodName := ⟨RX6, "remembered", "()I"⟩
abbrev cX6_result : ByteArray := prog_8_method_44_code
def yX6_result : MethodName := ⟨RX6, "result", "(II)I"⟩
abbrev cX6_reach : ByteArray := prog_8_method_45_code
def yX6_reach : MethodName := ⟨RX6, "reach", "(II)I"⟩
abbrev cX6_forget : ByteArray := prog_8_method_46_code
def yX6_forget : MethodName := ⟨RX6, "forget", "()I"⟩
abbrev cX6_digest : ByteArray := prog_8_method_47_code
def yX6_digest : MethodName := ⟨RX6, "digest", "()J"⟩
def RJx145de : String := "java/io/Serializable"
def TJx145de : u_T := fun k => match k with
  | _ => ("", "", "", false)
def tyJx145de : Nat → FieldType := fun k => match k with
  | _ => .int
abbrev wsJx145de0 : List Cond := u_ws RJx145de TJx145de 0
theorem nmJx145de : ∀ a, a < 0 → ∀ b, b < 0 → a ≠ b → (TJx145de a).2.1 ≠ (TJx145de b).2.1 := by decide +kernel
theorem tyJx145de_ok : ∀ k, k < 0 → parseFieldDescriptor (TJx145de k).2.2.1 = some (tyJx145de k) := by decide +kernel
def RJ9 : String := "java/lang/Math"
def TJ9 : u_T := fun k => match k with
  | _ => ("", "", "", false)
def tyJ9 : Nat → FieldType := fun k => match k with
  | _ => .int
abbrev wsJ90 : List Cond := u_ws RJ9 TJ9 0
theorem nmJ9 : ∀ a, a < 0 → ∀ b, b < 0 → a ≠ b → (TJ9 a).2.1 ≠ (TJ9 b).2.1 := by decide +kernel
theorem tyJ9_ok : ∀ k, k < 0 → parseFieldDescriptor (TJ9 k).2.2.1 = some (tyJ9 k) := by decide +kernel
abbrev cJ9_max_7cf53 : ByteArray := prog_13_method_65_code
def yJ9_max_7cf53 : MethodName := ⟨RJ9, "max", "(II)I"⟩
abbrev cJ9_min_7cf53 : ByteArray := prog_13_method_69_code
def yJ9_min_7cf53 : MethodName := ⟨RJ9, "min", "(II)I"⟩
def RJ0 : String := "java/lang/String"
def TJ0 : u_T := fun k => match k with
  | _ => ("", "", "", false)
def tyJ0 : Nat → FieldType := fun k => match k with
  | _ => .int
abbrev wsJ00 : List Cond := u_ws RJ0 TJ0 0
theorem nmJ0 : ∀ a, a < 0 → ∀ b, b < 0 → a ≠ b → (TJ0 a).2.1 ≠ (TJ0 b).2.1 := by decide +kernel
theorem tyJ0_ok : ∀ k, k < 0 → parseFieldDescriptor (TJ0 k).2.2.1 = some (tyJ0 k) := by decide +kernel
def RJ10 : String := "java/lang/System"
def TJ10 : u_T := fun k => match k with
  | _ => ("", "", "", false)
def tyJ10 : Nat → FieldType := fun k => match k with
  | _ => .int
abbrev wsJ100 : List Cond := u_ws RJ10 TJ10 0
theorem nmJ10 : ∀ a, a < 0 → ∀ b, b < 0 → a ≠ b → (TJ10 a).2.1 ≠ (TJ10 b).2.1 := by decide +kernel
theorem tyJ10_ok : ∀ k, k < 0 → parseFieldDescriptor (TJ10 k).2.2.1 = some (tyJ10 k) := by decide +kernel
def RJ7 : String := "java/util/Arrays"
def TJ7 : u_T := fun k => match k with
  | _ => ("", "", "", false)
def tyJ7 : Nat → FieldType := fun k => match k with
  | _ => .int
abbrev wsJ70 : List Cond := u_ws RJ7 TJ7 0
theorem nmJ7 : ∀ a, a < 0 → ∀ b, b < 0 → a ≠ b → (TJ7 a).2.1 ≠ (TJ7 b).2.1 := by decide +kernel
theorem tyJ7_ok : ∀ k, k < 0 → parseFieldDescriptor (TJ7 k).2.2.1 = some (tyJ7 k) := by decide +kernel
abbrev cJ7_fill_53178 : ByteArray := prog_18_method_103_code
def yJ7_fill_53178 : MethodName := ⟨RJ7, "fill", "([II)V"⟩
abbrev cJ7_fill_49daa : ByteArray := prog_18_method_111_code
def yJ7_fill_49daa : MethodName := ⟨RJ7, "fill", "([ZZ)V"⟩
def RL : String := "MemoParserLaw"
abbrev cL_plain : ByteArray := method_3_code
def yL_plain : MethodName := ⟨RL, "plain", "(LMemoParser;I[J)I"⟩
abbrev cL_range : ByteArray := method_4_code
def yL_range : MethodName := ⟨RL, "range", "(LMemoParser;II[J)I"⟩
abbrev cL_rule : ByteArray := method_5_code
def yL_rule : MethodName := ⟨RL, "rule", "(LMemoParser;I[J)I"⟩
abbrev cL_join : ByteArray := method_6_code
def yL_join : MethodName := ⟨RL, "join", "(LMemoParser;III[J)I"⟩
abbrev cL_wrap : ByteArray := method_7_code
def yL_wrap : MethodName := ⟨RL, "wrap", "(LMemoParser;II[J)I"⟩
abbrev cL_define : ByteArray := method_8_code
def yL_define : MethodName := ⟨RL, "define", "(LMemoParser;II[J)I"⟩
abbrev cL_canBeEmpty : ByteArray := method_9_code
def yL_canBeEmpty : MethodName := ⟨RL, "canBeEmpty", "(LMemoParser;I[J)I"⟩
abbrev cL_isLeftRecursive : ByteArray := method_10_code
def yL_isLeftRecursive : MethodName := ⟨RL, "isLeftRecursive", "(LMemoParser;I[J)I"⟩
abbrev cL_replace : ByteArray := method_11_code
def yL_replace : MethodName := ⟨RL, "replace", "(LMemoParser;IIJ[J)I"⟩
abbrev cL_byteAt : ByteArray := method_12_code
def yL_byteAt : MethodName := ⟨RL, "byteAt", "(LMemoParser;I[J)I"⟩
abbrev cL_parse : ByteArray := method_13_code
def yL_parse : MethodName := ⟨RL, "parse", "(LMemoParser;II[J)I"⟩
abbrev cL_result : ByteArray := method_14_code
def yL_result : MethodName := ⟨RL, "result", "(LMemoParser;II[J)I"⟩
abbrev cL_reach : ByteArray := method_15_code
def yL_reach : MethodName := ⟨RL, "reach", "(LMemoParser;II[J)I"⟩
abbrev cL_law : ByteArray := code
def yL_law : MethodName := ⟨RL, "law", "([I)Z"⟩
def wsJ7_fill_53178 : List Cond := .code yJ7_fill_53178 cJ7_fill_53178 4 none :: ([])
def wsX0_init : List Cond := .code yX0_init cX0_init 1 none :: ([.methodLink RX0 3 objectInit, .instanceMethod objectInit, .code objectInit ⟨#[0xb1]⟩ 1 none, .arrayClass .int, .fieldLink RX0 9 "MemoParser$Grammar" "kinds" "[I", .fieldLink RX0 15 "MemoParser$Grammar" "firsts" "[I", .fieldLink RX0 18 "MemoParser$Grammar" "seconds" "[I", .fieldLink RX0 21 "MemoParser$Grammar" "ruleExpressions" "[I", .fieldLink RX0 24 "MemoParser$Grammar" "count" "I", .arrayClass .boolean, .fieldLink RX0 28 "MemoParser$Grammar" "empties" "[Z", .fieldLink RX0 32 "MemoParser$Grammar" "emptyRules" "[Z", .fieldLink RX0 35 "MemoParser$Grammar" "beginnings" "[I", .methodLink RX0 38 yJ7_fill_53178, .static yJ7_fill_53178, .initialized RJ7, .code yJ7_fill_53178 cJ7_fill_53178 4 none] ++ wsX00)
def wsX0_isFull : List Cond := .code yX0_isFull cX0_isFull 1 (some .boolean) :: ([.fieldLink RX0 24 "MemoParser$Grammar" "count" "I"] ++ wsX00)
def wsX0_has : List Cond := .code yX0_has cX0_has 2 (some .boolean) :: ([.fieldLink RX0 24 "MemoParser$Grammar" "count" "I"] ++ wsX00)
def wsX0_add : List Cond := .code yX0_add cX0_add 5 (some .int) :: ([.fieldLink RX0 24 "MemoParser$Grammar" "count" "I", .fieldLink RX0 9 "MemoParser$Grammar" "kinds" "[I", .fieldLink RX0 15 "MemoParser$Grammar" "firsts" "[I", .fieldLink RX0 18 "MemoParser$Grammar" "seconds" "[I"] ++ wsX00)
def wsX0_give : List Cond := .code yX0_give cX0_give 4 (some .int) :: ([.fieldLink RX0 21 "MemoParser$Grammar" "ruleExpressions" "[I"] ++ wsX00)
def wsJ7_fill_49daa : List Cond := .code yJ7_fill_49daa cJ7_fill_49daa 4 none :: ([])
def wsX0_isEmptyByForm : List Cond := .code yX0_isEmptyByForm cX0_isEmptyByForm 4 (some .boolean) :: ([.fieldLink RX0 15 "MemoParser$Grammar" "firsts" "[I", .fieldLink RX0 18 "MemoParser$Grammar" "seconds" "[I", .fieldLink RX0 9 "MemoParser$Grammar" "kinds" "[I", .fieldLink RX0 32 "MemoParser$Grammar" "emptyRules" "[Z", .fieldLink RX0 28 "MemoParser$Grammar" "empties" "[Z"] ++ wsX00)
def wsX0_addEmptyRules : List Cond := .code yX0_addEmptyRules cX0_addEmptyRules 4 (some .boolean) :: ([.fieldLink RX0 21 "MemoParser$Grammar" "ruleExpressions" "[I", .fieldLink RX0 32 "MemoParser$Grammar" "emptyRules" "[Z", .fieldLink RX0 28 "MemoParser$Grammar" "empties" "[Z", .methodLink RX0 72 yX0_has, .instanceMethod yX0_has, .selects RX0 yX0_has yX0_has, .initialized RX0, .code yX0_has cX0_has 2 (some .boolean), .fieldLink RX0 24 "MemoParser$Grammar" "count" "I"] ++ wsX00)
def wsX0_findEmpties : List Cond := .code yX0_findEmpties cX0_findEmpties 4 none :: ([.fieldLink RX0 32 "MemoParser$Grammar" "emptyRules" "[Z", .fieldLink RX0 24 "MemoParser$Grammar" "count" "I", .fieldLink RX0 28 "MemoParser$Grammar" "empties" "[Z", .methodLink RX0 61 yJ7_fill_49daa, .static yJ7_fill_49daa, .initialized RJ7, .code yJ7_fill_49daa cJ7_fill_49daa 4 none, .methodLink RX0 64 yX0_isEmptyByForm, .instanceMethod yX0_isEmptyByForm, .selects RX0 yX0_isEmptyByForm yX0_isEmptyByForm, .initialized RX0, .code yX0_isEmptyByForm cX0_isEmptyByForm 4 (some .boolean), .fieldLink RX0 15 "MemoParser$Grammar" "firsts" "[I", .fieldLink RX0 18 "MemoParser$Grammar" "seconds" "[I", .fieldLink RX0 9 "MemoParser$Grammar" "kinds" "[I", .methodLink RX0 68 yX0_addEmptyRules, .instanceMethod yX0_addEmptyRules, .selects RX0 yX0_addEmptyRules yX0_addEmptyRules, .code yX0_addEmptyRules cX0_addEmptyRules 4 (some .boolean), .fieldLink RX0 21 "MemoParser$Grammar" "ruleExpressions" "[I", .methodLink RX0 72 yX0_has, .instanceMethod yX0_has, .selects RX0 yX0_has yX0_has, .code yX0_has cX0_has 2 (some .boolean)] ++ wsX00)
def wsX0_succeedsInPlace_r1 : List Cond := [Cond.fieldLink RX0 28 "MemoParser$Grammar" "empties" "[Z", Cond.methodLink RX0 44 yX0_findEmpties, Cond.instanceMethod yX0_findEmpties, Cond.selects RX0 yX0_findEmpties yX0_findEmpties, Cond.initialized RX0, Cond.code yX0_findEmpties cX0_findEmpties 4 none, Cond.fieldLink RX0 32 "MemoParser$Grammar" "emptyRules" "[Z", Cond.fieldLink RX0 24 "MemoParser$Grammar" "count" "I", Cond.methodLink RX0 61 yJ7_fill_49daa, Cond.static yJ7_fill_49daa, Cond.initialized RJ7, Cond.code yJ7_fill_49daa cJ7_fill_49daa 4 none, Cond.methodLink RX0 64 yX0_isEmptyByForm, Cond.instanceMethod yX0_isEmptyByForm, Cond.selects RX0 yX0_isEmptyByForm yX0_isEmptyByForm, Cond.code yX0_isEmptyByForm cX0_isEmptyByForm 4 (some .boolean), Cond.fieldLink RX0 15 "MemoParser$Grammar" "firsts" "[I", Cond.fieldLink RX0 18 "MemoParser$Grammar" "seconds" "[I", Cond.fieldLink RX0 9 "MemoParser$Grammar" "kinds" "[I", Cond.methodLink RX0 68 yX0_addEmptyRules, Cond.instanceMethod yX0_addEmptyRules, Cond.selects RX0 yX0_addEmptyRules yX0_addEmptyRules, Cond.code yX0_addEmptyRules cX0_addEmptyRules 4 (some .boolean), Cond.fieldLink RX0 21 "MemoParser$Grammar" "ruleExpressions" "[I"]
def wsX0_succeedsInPlace_r2 : List Cond := [Cond.methodLink RX0 72 yX0_has, Cond.instanceMethod yX0_has, Cond.selects RX0 yX0_has yX0_has, Cond.code yX0_has cX0_has 2 (some .boolean)]
def wsX0_succeedsInPlace : List Cond := .code yX0_succeedsInPlace cX0_succeedsInPlace 2 (some .boolean) :: ((wsX0_succeedsInPlace_r1 ++ wsX0_succeedsInPlace_r2) ++ wsX00)
def wsX5_bit : List Cond := .code yX5_bit cX5_bit 1 (some .int) :: ([])
def wsX0_beginningsByForm : List Cond := .code yX0_beginningsByForm cX0_beginningsByForm 4 (some .int) :: ([.fieldLink RX0 15 "MemoParser$Grammar" "firsts" "[I", .fieldLink RX0 18 "MemoParser$Grammar" "seconds" "[I", .fieldLink RX0 9 "MemoParser$Grammar" "kinds" "[I", .fieldLink RX0 35 "MemoParser$Grammar" "beginnings" "[I", .fieldLink RX0 28 "MemoParser$Grammar" "empties" "[Z", .static yX5_bit, .initialized RX5, .code yX5_bit cX5_bit 1 (some .int)] ++ wsX00)
def wsX0_findBeginnings : List Cond := .code yX0_findBeginnings cX0_findBeginnings 2 none :: ([.fieldLink RX0 24 "MemoParser$Grammar" "count" "I", .fieldLink RX0 35 "MemoParser$Grammar" "beginnings" "[I", .methodLink RX0 75 yX0_beginningsByForm, .instanceMethod yX0_beginningsByForm, .selects RX0 yX0_beginningsByForm yX0_beginningsByForm, .initialized RX0, .code yX0_beginningsByForm cX0_beginningsByForm 4 (some .int), .fieldLink RX0 15 "MemoParser$Grammar" "firsts" "[I", .fieldLink RX0 18 "MemoParser$Grammar" "seconds" "[I", .fieldLink RX0 9 "MemoParser$Grammar" "kinds" "[I", .fieldLink RX0 28 "MemoParser$Grammar" "empties" "[Z", .static yX5_bit, .initialized RX5, .code yX5_bit cX5_bit 1 (some .int)] ++ wsX00)
def wsX0_beginningsOfRule : List Cond := .code yX0_beginningsOfRule cX0_beginningsOfRule 3 (some .int) :: ([.fieldLink RX0 21 "MemoParser$Grammar" "ruleExpressions" "[I", .fieldLink RX0 35 "MemoParser$Grammar" "beginnings" "[I", .methodLink RX0 72 yX0_has, .instanceMethod yX0_has, .selects RX0 yX0_has yX0_has, .initialized RX0, .code yX0_has cX0_has 2 (some .boolean), .fieldLink RX0 24 "MemoParser$Grammar" "count" "I"] ++ wsX00)
def wsX0_beginsWithItself_r1 : List Cond := [Cond.methodLink RX0 44 yX0_findEmpties, Cond.instanceMethod yX0_findEmpties, Cond.selects RX0 yX0_findEmpties yX0_findEmpties, Cond.initialized RX0, Cond.code yX0_findEmpties cX0_findEmpties 4 none, Cond.fieldLink RX0 32 "MemoParser$Grammar" "emptyRules" "[Z", Cond.fieldLink RX0 24 "MemoParser$Grammar" "count" "I", Cond.fieldLink RX0 28 "MemoParser$Grammar" "empties" "[Z", Cond.methodLink RX0 61 yJ7_fill_49daa, Cond.static yJ7_fill_49daa, Cond.initialized RJ7, Cond.code yJ7_fill_49daa cJ7_fill_49daa 4 none, Cond.methodLink RX0 64 yX0_isEmptyByForm, Cond.instanceMethod yX0_isEmptyByForm, Cond.selects RX0 yX0_isEmptyByForm yX0_isEmptyByForm, Cond.code yX0_isEmptyByForm cX0_isEmptyByForm 4 (some .boolean), Cond.fieldLink RX0 15 "MemoParser$Grammar" "firsts" "[I", Cond.fieldLink RX0 18 "MemoParser$Grammar" "seconds" "[I", Cond.fieldLink RX0 9 "MemoParser$Grammar" "kinds" "[I", Cond.methodLink RX0 68 yX0_addEmptyRules, Cond.instanceMethod yX0_addEmptyRules, Cond.selects RX0 yX0_addEmptyRules yX0_addEmptyRules, Cond.code yX0_addEmptyRules cX0_addEmptyRules 4 (some .boolean), Cond.fieldLink RX0 21 "MemoParser$Grammar" "ruleExpressions" "[I"]
def wsX0_beginsWithItself_r2 : List Cond := [Cond.methodLink RX0 72 yX0_has, Cond.instanceMethod yX0_has, Cond.selects RX0 yX0_has yX0_has, Cond.code yX0_has cX0_has 2 (some .boolean), Cond.methodLink RX0 47 yX0_findBeginnings, Cond.instanceMethod yX0_findBeginnings, Cond.selects RX0 yX0_findBeginnings yX0_findBeginnings, Cond.code yX0_findBeginnings cX0_findBeginnings 2 none, Cond.fieldLink RX0 35 "MemoParser$Grammar" "beginnings" "[I", Cond.methodLink RX0 75 yX0_beginningsByForm, Cond.instanceMethod yX0_beginningsByForm, Cond.selects RX0 yX0_beginningsByForm yX0_beginningsByForm, Cond.code yX0_beginningsByForm cX0_beginningsByForm 4 (some .int), Cond.static yX5_bit, Cond.initialized RX5, Cond.code yX5_bit cX5_bit 1 (some .int), Cond.methodLink RX0 50 yX0_beginningsOfRule, Cond.instanceMethod yX0_beginningsOfRule, Cond.selects RX0 yX0_beginningsOfRule yX0_beginningsOfRule, Cond.code yX0_beginningsOfRule cX0_beginningsOfRule 3 (some .int)]
def wsX0_beginsWithItself : List Cond := .code yX0_beginsWithItself cX0_beginsWithItself 5 (some .boolean) :: ((wsX0_beginsWithItself_r1 ++ wsX0_beginsWithItself_r2) ++ wsX00)
def wsX5_mix : List Cond := .code yX5_mix cX5_mix 3 (some .long) :: ([.constantLong RX5 190 (31)])
def wsX0_addToDigest : List Cond := .code yX0_addToDigest cX0_addToDigest 6 (some .long) :: ([.fieldLink RX0 24 "MemoParser$Grammar" "count" "I", .fieldLink RX0 21 "MemoParser$Grammar" "ruleExpressions" "[I", .static yX5_mix, .initialized RX5, .code yX5_mix cX5_mix 3 (some .long), .constantLong RX5 190 (31)] ++ wsX00)
def wsX1_init : List Cond := .code yX1_init cX1_init 1 none :: ([.methodLink RX1 3 objectInit, .instanceMethod objectInit, .code objectInit ⟨#[0xb1]⟩ 1 none, .arrayClass .int, .fieldLink RX1 9 "MemoParser$Memory" "results" "[I", .fieldLink RX1 15 "MemoParser$Memory" "reaches" "[I", .fieldLink RX1 18 "MemoParser$Memory" "names" "[I", .methodLink RX1 21 yJ7_fill_53178, .static yJ7_fill_53178, .initialized RJ7, .code yJ7_fill_53178 cJ7_fill_53178 4 none] ++ wsX10)
def wsX1_holds : List Cond := .code yX1_holds cX1_holds 2 (some .boolean) :: ([.fieldLink RX1 9 "MemoParser$Memory" "results" "[I"] ++ wsX10)
def wsX1_put : List Cond := .code yX1_put cX1_put 5 none :: ([.fieldLink RX1 9 "MemoParser$Memory" "results" "[I", .fieldLink RX1 15 "MemoParser$Memory" "reaches" "[I", .fieldLink RX1 18 "MemoParser$Memory" "names" "[I"] ++ wsX10)
def wsX1_drop : List Cond := .code yX1_drop cX1_drop 2 none :: ([.methodLink RX1 43 yX1_put, .instanceMethod yX1_put, .selects RX1 yX1_put yX1_put, .initialized RX1, .code yX1_put cX1_put 5 none, .fieldLink RX1 9 "MemoParser$Memory" "results" "[I", .fieldLink RX1 15 "MemoParser$Memory" "reaches" "[I", .fieldLink RX1 18 "MemoParser$Memory" "names" "[I"] ++ wsX10)
def wsX1_clear : List Cond := .code yX1_clear cX1_clear 2 none :: ([.methodLink RX1 27 yX1_drop, .instanceMethod yX1_drop, .selects RX1 yX1_drop yX1_drop, .initialized RX1, .code yX1_drop cX1_drop 2 none, .methodLink RX1 43 yX1_put, .instanceMethod yX1_put, .selects RX1 yX1_put yX1_put, .code yX1_put cX1_put 5 none, .fieldLink RX1 9 "MemoParser$Memory" "results" "[I", .fieldLink RX1 15 "MemoParser$Memory" "reaches" "[I", .fieldLink RX1 18 "MemoParser$Memory" "names" "[I"] ++ wsX10)
def wsX1_count : List Cond := .code yX1_count cX1_count 3 (some .int) :: ([.methodLink RX1 31 yX1_holds, .instanceMethod yX1_holds, .selects RX1 yX1_holds yX1_holds, .initialized RX1, .code yX1_holds cX1_holds 2 (some .boolean), .fieldLink RX1 9 "MemoParser$Memory" "results" "[I"] ++ wsX10)
def wsX1_keepUnchanged : List Cond := .code yX1_keepUnchanged cX1_keepUnchanged 5 (some .int) :: ([.fieldLink RX1 15 "MemoParser$Memory" "reaches" "[I", .methodLink RX1 31 yX1_holds, .instanceMethod yX1_holds, .selects RX1 yX1_holds yX1_holds, .initialized RX1, .code yX1_holds cX1_holds 2 (some .boolean), .fieldLink RX1 9 "MemoParser$Memory" "results" "[I", .methodLink RX1 27 yX1_drop, .instanceMethod yX1_drop, .selects RX1 yX1_drop yX1_drop, .code yX1_drop cX1_drop 2 none, .methodLink RX1 43 yX1_put, .instanceMethod yX1_put, .selects RX1 yX1_put yX1_put, .code yX1_put cX1_put 5 none, .fieldLink RX1 18 "MemoParser$Memory" "names" "[I"] ++ wsX10)
def wsX1_move : List Cond := .code yX1_move cX1_move 5 none :: ([.fieldLink RX1 9 "MemoParser$Memory" "results" "[I", .fieldLink RX1 15 "MemoParser$Memory" "reaches" "[I", .fieldLink RX1 18 "MemoParser$Memory" "names" "[I", .methodLink RX1 31 yX1_holds, .instanceMethod yX1_holds, .selects RX1 yX1_holds yX1_holds, .initialized RX1, .code yX1_holds cX1_holds 2 (some .boolean), .methodLink RX1 43 yX1_put, .instanceMethod yX1_put, .selects RX1 yX1_put yX1_put, .code yX1_put cX1_put 5 none, .methodLink RX1 27 yX1_drop, .instanceMethod yX1_drop, .selects RX1 yX1_drop yX1_drop, .code yX1_drop cX1_drop 2 none] ++ wsX10)
def wsX1_shift : List Cond := .code yX1_shift cX1_shift 5 none :: ([.methodLink RX1 35 yX1_move, .instanceMethod yX1_move, .selects RX1 yX1_move yX1_move, .initialized RX1, .code yX1_move cX1_move 5 none, .fieldLink RX1 9 "MemoParser$Memory" "results" "[I", .fieldLink RX1 15 "MemoParser$Memory" "reaches" "[I", .fieldLink RX1 18 "MemoParser$Memory" "names" "[I", .methodLink RX1 31 yX1_holds, .instanceMethod yX1_holds, .selects RX1 yX1_holds yX1_holds, .code yX1_holds cX1_holds 2 (some .boolean), .methodLink RX1 43 yX1_put, .instanceMethod yX1_put, .selects RX1 yX1_put yX1_put, .code yX1_put cX1_put 5 none, .methodLink RX1 27 yX1_drop, .instanceMethod yX1_drop, .selects RX1 yX1_drop yX1_drop, .code yX1_drop cX1_drop 2 none] ++ wsX10)
def wsX1_addToDigest : List Cond := .code yX1_addToDigest cX1_addToDigest 6 (some .long) :: ([.fieldLink RX1 9 "MemoParser$Memory" "results" "[I", .fieldLink RX1 15 "MemoParser$Memory" "reaches" "[I", .methodLink RX1 31 yX1_holds, .instanceMethod yX1_holds, .selects RX1 yX1_holds yX1_holds, .initialized RX1, .code yX1_holds cX1_holds 2 (some .boolean), .static yX5_mix, .initialized RX5, .code yX5_mix cX5_mix 3 (some .long), .constantLong RX5 190 (31)] ++ wsX10)
def wsX2_init : List Cond := .code yX2_init cX2_init 1 none :: ([.methodLink RX2 3 objectInit, .instanceMethod objectInit, .code objectInit ⟨#[0xb1]⟩ 1 none, .arrayClass .int, .fieldLink RX2 9 "MemoParser$Progress" "rules" "[I", .fieldLink RX2 15 "MemoParser$Progress" "places" "[I", .fieldLink RX2 18 "MemoParser$Progress" "seeds" "[I", .arrayClass .boolean, .fieldLink RX2 21 "MemoParser$Progress" "asked" "[Z", .fieldLink RX2 25 "MemoParser$Progress" "reaches" "[I", .fieldLink RX2 28 "MemoParser$Progress" "names" "[I", .fieldLink RX2 31 "MemoParser$Progress" "earliestAsked" "[I", .fieldLink RX2 34 "MemoParser$Progress" "numberOf" "[I", .fieldLink RX2 37 "MemoParser$Progress" "rulesAt" "[I", .fieldLink RX2 40 "MemoParser$Progress" "open" "I", .methodLink RX2 44 yJ7_fill_53178, .static yJ7_fill_53178, .initialized RJ7, .code yJ7_fill_53178 cJ7_fill_53178 4 none] ++ wsX20)
def wsX2_isFull : List Cond := .code yX2_isFull cX2_isFull 1 (some .boolean) :: ([.fieldLink RX2 40 "MemoParser$Progress" "open" "I"] ++ wsX20)
def wsX2_hasOneOf : List Cond := .code yX2_hasOneOf cX2_hasOneOf 3 (some .boolean) :: ([.fieldLink RX2 37 "MemoParser$Progress" "rulesAt" "[I"] ++ wsX20)
def wsX5_cell : List Cond := .code yX5_cell cX5_cell 2 (some .int) :: ([])
def wsX2_begin : List Cond := .code yX2_begin cX2_begin 4 (some .int) :: ([.fieldLink RX2 40 "MemoParser$Progress" "open" "I", .fieldLink RX2 9 "MemoParser$Progress" "rules" "[I", .fieldLink RX2 15 "MemoParser$Progress" "places" "[I", .fieldLink RX2 18 "MemoParser$Progress" "seeds" "[I", .fieldLink RX2 21 "MemoParser$Progress" "asked" "[Z", .fieldLink RX2 25 "MemoParser$Progress" "reaches" "[I", .fieldLink RX2 28 "MemoParser$Progress" "names" "[I", .fieldLink RX2 31 "MemoParser$Progress" "earliestAsked" "[I", .fieldLink RX2 34 "MemoParser$Progress" "numberOf" "[I", .fieldLink RX2 37 "MemoParser$Progress" "rulesAt" "[I", .static yX5_bit, .initialized RX5, .code yX5_bit cX5_bit 1 (some .int), .static yX5_cell, .code yX5_cell cX5_cell 2 (some .int)] ++ wsX20)
def wsX2_countLook : List Cond := .code yX2_countLook cX2_countLook 2 none :: ([.fieldLink RX2 40 "MemoParser$Progress" "open" "I", .fieldLink RX2 25 "MemoParser$Progress" "reaches" "[I", .methodLink RX2 69 Lib.Math.max.name, .static Lib.Math.max.name, .initialized "java/lang/Math", .code Lib.Math.max.name Lib.Math.max.code 2 (some .int)] ++ wsX20)
def wsX2_countNames : List Cond := .code yX2_countNames cX2_countNames 3 none :: ([.fieldLink RX2 40 "MemoParser$Progress" "open" "I", .fieldLink RX2 15 "MemoParser$Progress" "places" "[I", .fieldLink RX2 28 "MemoParser$Progress" "names" "[I"] ++ wsX20)
def wsX2_countAsked : List Cond := .code yX2_countAsked cX2_countAsked 2 none :: ([.fieldLink RX2 40 "MemoParser$Progress" "open" "I", .fieldLink RX2 31 "MemoParser$Progress" "earliestAsked" "[I", .methodLink RX2 74 Lib.Math.min.name, .static Lib.Math.min.name, .initialized "java/lang/Math", .code Lib.Math.min.name Lib.Math.min.code 2 (some .int)] ++ wsX20)
def wsX2_end_r1 : List Cond := [Cond.fieldLink RX2 40 "MemoParser$Progress" "open" "I", Cond.fieldLink RX2 15 "MemoParser$Progress" "places" "[I", Cond.fieldLink RX2 34 "MemoParser$Progress" "numberOf" "[I", Cond.fieldLink RX2 9 "MemoParser$Progress" "rules" "[I", Cond.fieldLink RX2 37 "MemoParser$Progress" "rulesAt" "[I", Cond.fieldLink RX2 25 "MemoParser$Progress" "reaches" "[I", Cond.fieldLink RX2 28 "MemoParser$Progress" "names" "[I", Cond.fieldLink RX2 31 "MemoParser$Progress" "earliestAsked" "[I", Cond.static yX5_cell, Cond.initialized RX5, Cond.code yX5_cell cX5_cell 2 (some .int), Cond.static yX5_bit, Cond.code yX5_bit cX5_bit 1 (some .int), Cond.methodLink RX2 58 yX2_countLook, Cond.instanceMethod yX2_countLook, Cond.selects RX2 yX2_countLook yX2_countLook, Cond.initialized RX2, Cond.code yX2_countLook cX2_countLook 2 none, Cond.methodLink RX2 69 Lib.Math.max.name, Cond.static Lib.Math.max.name, Cond.initialized "java/lang/Math", Cond.code Lib.Math.max.name Lib.Math.max.code 2 (some .int), Cond.methodLink RX2 62 yX2_countNames, Cond.instanceMethod yX2_countNames]
def wsX2_end_r2 : List Cond := [Cond.selects RX2 yX2_countNames yX2_countNames, Cond.code yX2_countNames cX2_countNames 3 none, Cond.methodLink RX2 66 yX2_countAsked, Cond.instanceMethod yX2_countAsked, Cond.selects RX2 yX2_countAsked yX2_countAsked, Cond.code yX2_countAsked cX2_countAsked 2 none, Cond.methodLink RX2 74 Lib.Math.min.name, Cond.static Lib.Math.min.name, Cond.code Lib.Math.min.name Lib.Math.min.code 2 (some .int)]
def wsX2_end : List Cond := .code yX2_end cX2_end 3 none :: ((wsX2_end_r1 ++ wsX2_end_r2) ++ wsX20)
def wsX2_askSeed : List Cond := .code yX2_askSeed cX2_askSeed 2 (some .int) :: ([.fieldLink RX2 21 "MemoParser$Progress" "asked" "[Z", .fieldLink RX2 18 "MemoParser$Progress" "seeds" "[I", .methodLink RX2 66 yX2_countAsked, .instanceMethod yX2_countAsked, .selects RX2 yX2_countAsked yX2_countAsked, .initialized RX2, .code yX2_countAsked cX2_countAsked 2 none, .fieldLink RX2 40 "MemoParser$Progress" "open" "I", .fieldLink RX2 31 "MemoParser$Progress" "earliestAsked" "[I", .methodLink RX2 74 Lib.Math.min.name, .static Lib.Math.min.name, .initialized "java/lang/Math", .code Lib.Math.min.name Lib.Math.min.code 2 (some .int)] ++ wsX20)
def wsX2_askedEarlierOne : List Cond := .code yX2_askedEarlierOne cX2_askedEarlierOne 2 (some .boolean) :: ([.fieldLink RX2 31 "MemoParser$Progress" "earliestAsked" "[I"] ++ wsX20)
def wsX3_init_r1 : List Cond := [Cond.methodLink RX3 3 objectInit, Cond.instanceMethod objectInit, Cond.code objectInit ⟨#[0xb1]⟩ 1 none, Cond.classLink RX3 9 RX2, Cond.instantiable RX2 10, Cond.initialized RX2, Cond.fieldLink RX3 12 "MemoParser$Search" "progress" "LMemoParser$Progress;", Cond.fieldLink RX3 18 "MemoParser$Search" "work" "I", Cond.fieldLink RX3 22 "MemoParser$Search" "hits" "I", Cond.fieldLink RX3 25 "MemoParser$Search" "growths" "I", Cond.fieldLink RX3 28 "MemoParser$Search" "farthest" "I", Cond.fieldLink RX3 31 "MemoParser$Search" "cut" "Z", Cond.fieldLink RX3 35 "MemoParser$Search" "grammar" "LMemoParser$Grammar;", Cond.fieldLink RX3 39 "MemoParser$Search" "text" "LMemoParser$Text;", Cond.fieldLink RX3 43 "MemoParser$Search" "memory" "LMemoParser$Memory;", Cond.methodLink RX3 11 yX2_init, Cond.instanceMethod yX2_init, Cond.code yX2_init cX2_init 1 none, Cond.methodLink RX2 3 objectInit, Cond.arrayClass .int, Cond.fieldLink RX2 9 "MemoParser$Progress" "rules" "[I", Cond.fieldLink RX2 15 "MemoParser$Progress" "places" "[I", Cond.fieldLink RX2 18 "MemoParser$Progress" "seeds" "[I", Cond.arrayClass .boolean]
def wsX3_init_r2 : List Cond := [Cond.fieldLink RX2 21 "MemoParser$Progress" "asked" "[Z", Cond.fieldLink RX2 25 "MemoParser$Progress" "reaches" "[I", Cond.fieldLink RX2 28 "MemoParser$Progress" "names" "[I", Cond.fieldLink RX2 31 "MemoParser$Progress" "earliestAsked" "[I", Cond.fieldLink RX2 34 "MemoParser$Progress" "numberOf" "[I", Cond.fieldLink RX2 37 "MemoParser$Progress" "rulesAt" "[I", Cond.fieldLink RX2 40 "MemoParser$Progress" "open" "I", Cond.methodLink RX2 44 yJ7_fill_53178, Cond.static yJ7_fill_53178, Cond.initialized RJ7, Cond.code yJ7_fill_53178 cJ7_fill_53178 4 none]
def wsX3_init : List Cond := .code yX3_init cX3_init 4 none :: ((wsX3_init_r1 ++ wsX3_init_r2) ++ wsX20 ++ wsX30)
def wsX4_hasByte : List Cond := .code yX4_hasByte cX4_hasByte 2 (some .boolean) :: ([.fieldLink RX4 15 "MemoParser$Text" "size" "I"] ++ wsX40)
def wsX4_byteOrNone : List Cond := .code yX4_byteOrNone cX4_byteOrNone 2 (some .int) :: ([.fieldLink RX4 9 "MemoParser$Text" "bytes" "[I", .methodLink RX4 19 yX4_hasByte, .instanceMethod yX4_hasByte, .selects RX4 yX4_hasByte yX4_hasByte, .initialized RX4, .code yX4_hasByte cX4_hasByte 2 (some .boolean), .fieldLink RX4 15 "MemoParser$Text" "size" "I"] ++ wsX40)
def wsX3_lookForRange_r1 : List Cond := [Cond.fieldLink RX3 12 "MemoParser$Search" "progress" "LMemoParser$Progress;", Cond.fieldLink RX3 39 "MemoParser$Search" "text" "LMemoParser$Text;", Cond.fieldLink RX3 28 "MemoParser$Search" "farthest" "I", Cond.methodLink RX3 100 Lib.Math.max.name, Cond.static Lib.Math.max.name, Cond.initialized "java/lang/Math", Cond.code Lib.Math.max.name Lib.Math.max.code 2 (some .int), Cond.methodLink RX3 90 yX2_countLook, Cond.instanceMethod yX2_countLook, Cond.selects RX2 yX2_countLook yX2_countLook, Cond.initialized RX2, Cond.code yX2_countLook cX2_countLook 2 none, Cond.fieldLink RX2 40 "MemoParser$Progress" "open" "I", Cond.fieldLink RX2 25 "MemoParser$Progress" "reaches" "[I", Cond.methodLink RX2 69 Lib.Math.max.name, Cond.methodLink RX3 94 yX4_byteOrNone, Cond.instanceMethod yX4_byteOrNone, Cond.selects RX4 yX4_byteOrNone yX4_byteOrNone, Cond.initialized RX4, Cond.code yX4_byteOrNone cX4_byteOrNone 2 (some .int), Cond.fieldLink RX4 9 "MemoParser$Text" "bytes" "[I", Cond.methodLink RX4 19 yX4_hasByte, Cond.instanceMethod yX4_hasByte, Cond.selects RX4 yX4_hasByte yX4_hasByte]
def wsX3_lookForRange_r2 : List Cond := [Cond.code yX4_hasByte cX4_hasByte 2 (some .boolean), Cond.fieldLink RX4 15 "MemoParser$Text" "size" "I"]
def wsX3_lookForRange : List Cond := .code yX3_lookForRange cX3_lookForRange 5 (some .int) :: ((wsX3_lookForRange_r1 ++ wsX3_lookForRange_r2) ++ wsX30 ++ wsX20 ++ wsX40)
def wsX3_knownResult_r1 : List Cond := [Cond.fieldLink RX3 35 "MemoParser$Search" "grammar" "LMemoParser$Grammar;", Cond.fieldLink RX3 43 "MemoParser$Search" "memory" "LMemoParser$Memory;", Cond.fieldLink RX3 12 "MemoParser$Search" "progress" "LMemoParser$Progress;", Cond.fieldLink RX3 22 "MemoParser$Search" "hits" "I", Cond.methodLink RX3 133 yX0_has, Cond.instanceMethod yX0_has, Cond.selects RX0 yX0_has yX0_has, Cond.initialized RX0, Cond.code yX0_has cX0_has 2 (some .boolean), Cond.fieldLink RX0 24 "MemoParser$Grammar" "count" "I", Cond.static yX5_cell, Cond.initialized RX5, Cond.code yX5_cell cX5_cell 2 (some .int), Cond.methodLink RX3 140 yX1_holds, Cond.instanceMethod yX1_holds, Cond.selects RX1 yX1_holds yX1_holds, Cond.initialized RX1, Cond.code yX1_holds cX1_holds 2 (some .boolean), Cond.fieldLink RX1 9 "MemoParser$Memory" "results" "[I", Cond.methodLink RX3 146 yX2_hasOneOf, Cond.instanceMethod yX2_hasOneOf, Cond.selects RX2 yX2_hasOneOf yX2_hasOneOf, Cond.initialized RX2, Cond.code yX2_hasOneOf cX2_hasOneOf 3 (some .boolean)]
def wsX3_knownResult_r2 : List Cond := [Cond.fieldLink RX2 37 "MemoParser$Progress" "rulesAt" "[I", Cond.methodLink RX3 90 yX2_countLook, Cond.instanceMethod yX2_countLook, Cond.selects RX2 yX2_countLook yX2_countLook, Cond.code yX2_countLook cX2_countLook 2 none, Cond.fieldLink RX2 40 "MemoParser$Progress" "open" "I", Cond.fieldLink RX2 25 "MemoParser$Progress" "reaches" "[I", Cond.methodLink RX2 69 Lib.Math.max.name, Cond.static Lib.Math.max.name, Cond.initialized "java/lang/Math", Cond.code Lib.Math.max.name Lib.Math.max.code 2 (some .int), Cond.methodLink RX3 153 yX2_countNames, Cond.instanceMethod yX2_countNames, Cond.selects RX2 yX2_countNames yX2_countNames, Cond.code yX2_countNames cX2_countNames 3 none, Cond.fieldLink RX2 15 "MemoParser$Progress" "places" "[I", Cond.fieldLink RX2 28 "MemoParser$Progress" "names" "[I", Cond.methodLink RX3 162 yX2_askSeed, Cond.instanceMethod yX2_askSeed, Cond.selects RX2 yX2_askSeed yX2_askSeed, Cond.code yX2_askSeed cX2_askSeed 2 (some .int), Cond.fieldLink RX2 21 "MemoParser$Progress" "asked" "[Z", Cond.fieldLink RX2 18 "MemoParser$Progress" "seeds" "[I", Cond.methodLink RX2 66 yX2_countAsked]
def wsX3_knownResult_r3 : List Cond := [Cond.instanceMethod yX2_countAsked, Cond.selects RX2 yX2_countAsked yX2_countAsked, Cond.code yX2_countAsked cX2_countAsked 2 none, Cond.fieldLink RX2 31 "MemoParser$Progress" "earliestAsked" "[I", Cond.methodLink RX2 74 Lib.Math.min.name, Cond.static Lib.Math.min.name, Cond.code Lib.Math.min.name Lib.Math.min.code 2 (some .int)]
def wsX3_knownResult : List Cond := .code yX3_knownResult cX3_knownResult 5 (some .int) :: ((wsX3_knownResult_r1 ++ (wsX3_knownResult_r2 ++ wsX3_knownResult_r3)) ++ wsX30 ++ wsX00 ++ wsX10 ++ wsX20)
def wsX3_finish_r1 : List Cond := [Cond.fieldLink RX3 12 "MemoParser$Search" "progress" "LMemoParser$Progress;", Cond.fieldLink RX3 43 "MemoParser$Search" "memory" "LMemoParser$Memory;", Cond.methodLink RX3 165 yX2_askedEarlierOne, Cond.instanceMethod yX2_askedEarlierOne, Cond.selects RX2 yX2_askedEarlierOne yX2_askedEarlierOne, Cond.initialized RX2, Cond.code yX2_askedEarlierOne cX2_askedEarlierOne 2 (some .boolean), Cond.fieldLink RX2 31 "MemoParser$Progress" "earliestAsked" "[I", Cond.static yX5_cell, Cond.initialized RX5, Cond.code yX5_cell cX5_cell 2 (some .int), Cond.methodLink RX3 176 yX1_put, Cond.instanceMethod yX1_put, Cond.selects RX1 yX1_put yX1_put, Cond.initialized RX1, Cond.code yX1_put cX1_put 5 none, Cond.fieldLink RX1 9 "MemoParser$Memory" "results" "[I", Cond.fieldLink RX1 15 "MemoParser$Memory" "reaches" "[I", Cond.fieldLink RX1 18 "MemoParser$Memory" "names" "[I", Cond.methodLink RX3 180 yX2_end, Cond.instanceMethod yX2_end, Cond.selects RX2 yX2_end yX2_end, Cond.code yX2_end cX2_end 3 none, Cond.fieldLink RX2 40 "MemoParser$Progress" "open" "I"]
def wsX3_finish_r2 : List Cond := [Cond.fieldLink RX2 15 "MemoParser$Progress" "places" "[I", Cond.fieldLink RX2 34 "MemoParser$Progress" "numberOf" "[I", Cond.fieldLink RX2 9 "MemoParser$Progress" "rules" "[I", Cond.fieldLink RX2 37 "MemoParser$Progress" "rulesAt" "[I", Cond.fieldLink RX2 25 "MemoParser$Progress" "reaches" "[I", Cond.fieldLink RX2 28 "MemoParser$Progress" "names" "[I", Cond.static yX5_bit, Cond.code yX5_bit cX5_bit 1 (some .int), Cond.methodLink RX2 58 yX2_countLook, Cond.instanceMethod yX2_countLook, Cond.selects RX2 yX2_countLook yX2_countLook, Cond.code yX2_countLook cX2_countLook 2 none, Cond.methodLink RX2 69 Lib.Math.max.name, Cond.static Lib.Math.max.name, Cond.initialized "java/lang/Math", Cond.code Lib.Math.max.name Lib.Math.max.code 2 (some .int), Cond.methodLink RX2 62 yX2_countNames, Cond.instanceMethod yX2_countNames, Cond.selects RX2 yX2_countNames yX2_countNames, Cond.code yX2_countNames cX2_countNames 3 none, Cond.methodLink RX2 66 yX2_countAsked, Cond.instanceMethod yX2_countAsked, Cond.selects RX2 yX2_countAsked yX2_countAsked, Cond.code yX2_countAsked cX2_countAsked 2 none]
def wsX3_finish_r3 : List Cond := [Cond.methodLink RX2 74 Lib.Math.min.name, Cond.static Lib.Math.min.name, Cond.code Lib.Math.min.name Lib.Math.min.code 2 (some .int)]
def wsX3_finish : List Cond := .code yX3_finish cX3_finish 4 none :: ((wsX3_finish_r1 ++ (wsX3_finish_r2 ++ wsX3_finish_r3)) ++ wsX30 ++ wsX20 ++ wsX10)
def wsX3_look_r1 : List Cond := [Cond.fieldLink RX3 18 "MemoParser$Search" "work" "I", Cond.fieldLink RX3 31 "MemoParser$Search" "cut" "Z", Cond.fieldLink RX3 35 "MemoParser$Search" "grammar" "LMemoParser$Grammar;", Cond.methodLink RX3 68 yX3_lookForRange, Cond.instanceMethod yX3_lookForRange, Cond.selects RX3 yX3_lookForRange yX3_lookForRange, Cond.initialized RX3, Cond.code yX3_lookForRange cX3_lookForRange 5 (some .int), Cond.fieldLink RX3 12 "MemoParser$Search" "progress" "LMemoParser$Progress;", Cond.fieldLink RX3 39 "MemoParser$Search" "text" "LMemoParser$Text;", Cond.fieldLink RX3 28 "MemoParser$Search" "farthest" "I", Cond.methodLink RX3 100 Lib.Math.max.name, Cond.static Lib.Math.max.name, Cond.initialized "java/lang/Math", Cond.code Lib.Math.max.name Lib.Math.max.code 2 (some .int), Cond.methodLink RX3 90 yX2_countLook, Cond.instanceMethod yX2_countLook, Cond.selects RX2 yX2_countLook yX2_countLook, Cond.initialized RX2, Cond.code yX2_countLook cX2_countLook 2 none, Cond.fieldLink RX2 40 "MemoParser$Progress" "open" "I", Cond.fieldLink RX2 25 "MemoParser$Progress" "reaches" "[I", Cond.methodLink RX2 69 Lib.Math.max.name, Cond.methodLink RX3 94 yX4_byteOrNone]
def wsX3_look_r2 : List Cond := [Cond.instanceMethod yX4_byteOrNone, Cond.selects RX4 yX4_byteOrNone yX4_byteOrNone, Cond.initialized RX4, Cond.code yX4_byteOrNone cX4_byteOrNone 2 (some .int), Cond.fieldLink RX4 9 "MemoParser$Text" "bytes" "[I", Cond.methodLink RX4 19 yX4_hasByte, Cond.instanceMethod yX4_hasByte, Cond.selects RX4 yX4_hasByte yX4_hasByte, Cond.code yX4_hasByte cX4_hasByte 2 (some .boolean), Cond.fieldLink RX4 15 "MemoParser$Text" "size" "I", Cond.methodLink RX3 47 yX3_lookForRule, Cond.instanceMethod yX3_lookForRule, Cond.selects RX3 yX3_lookForRule yX3_lookForRule, Cond.methodLink RX3 71 yX3_lookForSequence, Cond.instanceMethod yX3_lookForSequence, Cond.selects RX3 yX3_lookForSequence yX3_lookForSequence, Cond.methodLink RX3 75 yX3_lookForChoice, Cond.instanceMethod yX3_lookForChoice, Cond.selects RX3 yX3_lookForChoice yX3_lookForChoice, Cond.methodLink RX3 78 yX3_lookForStar, Cond.instanceMethod yX3_lookForStar, Cond.selects RX3 yX3_lookForStar yX3_lookForStar, Cond.methodLink RX3 81 yX3_lookForOptional, Cond.instanceMethod yX3_lookForOptional]
def wsX3_look_r3 : List Cond := [Cond.selects RX3 yX3_lookForOptional yX3_lookForOptional, Cond.methodLink RX3 84 yX3_lookForAnd, Cond.instanceMethod yX3_lookForAnd, Cond.selects RX3 yX3_lookForAnd yX3_lookForAnd, Cond.methodLink RX3 87 yX3_lookForNot, Cond.instanceMethod yX3_lookForNot, Cond.selects RX3 yX3_lookForNot yX3_lookForNot, Cond.code yX3_lookForAnd cX3_lookForAnd 5 (some .int), Cond.methodLink RX3 106 yX3_look, Cond.instanceMethod yX3_look, Cond.selects RX3 yX3_look yX3_look, Cond.code yX3_lookForChoice cX3_lookForChoice 6 (some .int), Cond.code yX3_lookForNot cX3_lookForNot 5 (some .int), Cond.code yX3_lookForOptional cX3_lookForOptional 5 (some .int), Cond.code yX3_lookForRule cX3_lookForRule 9 (some .int), Cond.fieldLink RX3 25 "MemoParser$Search" "growths" "I", Cond.methodLink RX3 109 yX3_knownResult, Cond.instanceMethod yX3_knownResult, Cond.selects RX3 yX3_knownResult yX3_knownResult, Cond.code yX3_knownResult cX3_knownResult 5 (some .int), Cond.fieldLink RX3 43 "MemoParser$Search" "memory" "LMemoParser$Memory;", Cond.fieldLink RX3 22 "MemoParser$Search" "hits" "I", Cond.methodLink RX3 133 yX0_has, Cond.instanceMethod yX0_has]
def wsX3_look_r4 : List Cond := [Cond.selects RX0 yX0_has yX0_has, Cond.initialized RX0, Cond.code yX0_has cX0_has 2 (some .boolean), Cond.fieldLink RX0 24 "MemoParser$Grammar" "count" "I", Cond.static yX5_cell, Cond.initialized RX5, Cond.code yX5_cell cX5_cell 2 (some .int), Cond.methodLink RX3 140 yX1_holds, Cond.instanceMethod yX1_holds, Cond.selects RX1 yX1_holds yX1_holds, Cond.initialized RX1, Cond.code yX1_holds cX1_holds 2 (some .boolean), Cond.fieldLink RX1 9 "MemoParser$Memory" "results" "[I", Cond.methodLink RX3 146 yX2_hasOneOf, Cond.instanceMethod yX2_hasOneOf, Cond.selects RX2 yX2_hasOneOf yX2_hasOneOf, Cond.code yX2_hasOneOf cX2_hasOneOf 3 (some .boolean), Cond.fieldLink RX2 37 "MemoParser$Progress" "rulesAt" "[I", Cond.methodLink RX3 153 yX2_countNames, Cond.instanceMethod yX2_countNames, Cond.selects RX2 yX2_countNames yX2_countNames, Cond.code yX2_countNames cX2_countNames 3 none, Cond.fieldLink RX2 15 "MemoParser$Progress" "places" "[I", Cond.fieldLink RX2 28 "MemoParser$Progress" "names" "[I"]
def wsX3_look_r5 : List Cond := [Cond.methodLink RX3 162 yX2_askSeed, Cond.instanceMethod yX2_askSeed, Cond.selects RX2 yX2_askSeed yX2_askSeed, Cond.code yX2_askSeed cX2_askSeed 2 (some .int), Cond.fieldLink RX2 21 "MemoParser$Progress" "asked" "[Z", Cond.fieldLink RX2 18 "MemoParser$Progress" "seeds" "[I", Cond.methodLink RX2 66 yX2_countAsked, Cond.instanceMethod yX2_countAsked, Cond.selects RX2 yX2_countAsked yX2_countAsked, Cond.code yX2_countAsked cX2_countAsked 2 none, Cond.fieldLink RX2 31 "MemoParser$Progress" "earliestAsked" "[I", Cond.methodLink RX2 74 Lib.Math.min.name, Cond.static Lib.Math.min.name, Cond.code Lib.Math.min.name Lib.Math.min.code 2 (some .int), Cond.methodLink RX3 112 yX2_isFull, Cond.instanceMethod yX2_isFull, Cond.selects RX2 yX2_isFull yX2_isFull, Cond.code yX2_isFull cX2_isFull 1 (some .boolean), Cond.methodLink RX3 119 yX2_begin, Cond.instanceMethod yX2_begin, Cond.selects RX2 yX2_begin yX2_begin, Cond.code yX2_begin cX2_begin 4 (some .int), Cond.fieldLink RX2 9 "MemoParser$Progress" "rules" "[I", Cond.fieldLink RX2 34 "MemoParser$Progress" "numberOf" "[I"]
def wsX3_look_r6 : List Cond := [Cond.static yX5_bit, Cond.code yX5_bit cX5_bit 1 (some .int), Cond.methodLink RX3 129 yX3_finish, Cond.instanceMethod yX3_finish, Cond.selects RX3 yX3_finish yX3_finish, Cond.code yX3_finish cX3_finish 4 none, Cond.methodLink RX3 165 yX2_askedEarlierOne, Cond.instanceMethod yX2_askedEarlierOne, Cond.selects RX2 yX2_askedEarlierOne yX2_askedEarlierOne, Cond.code yX2_askedEarlierOne cX2_askedEarlierOne 2 (some .boolean), Cond.methodLink RX3 176 yX1_put, Cond.instanceMethod yX1_put, Cond.selects RX1 yX1_put yX1_put, Cond.code yX1_put cX1_put 5 none, Cond.fieldLink RX1 15 "MemoParser$Memory" "reaches" "[I", Cond.fieldLink RX1 18 "MemoParser$Memory" "names" "[I", Cond.methodLink RX3 180 yX2_end, Cond.instanceMethod yX2_end, Cond.selects RX2 yX2_end yX2_end, Cond.code yX2_end cX2_end 3 none, Cond.methodLink RX2 58 yX2_countLook, Cond.methodLink RX2 62 yX2_countNames, Cond.code yX3_lookForSequence cX3_lookForSequence 8 (some .int), Cond.code yX3_lookForStar cX3_lookForStar 7 (some .int)]
def wsX3_look : List Cond := .code yX3_look cX3_look 6 (some .int) :: ((wsX3_look_r1 ++ (wsX3_look_r2 ++ (wsX3_look_r3 ++ (wsX3_look_r4 ++ (wsX3_look_r5 ++ wsX3_look_r6))))) ++ wsX30 ++ wsX00 ++ wsX20 ++ wsX40 ++ wsX10)
def wsX3_lookForAnd_r1 : List Cond := [Cond.fieldLink RX3 31 "MemoParser$Search" "cut" "Z", Cond.methodLink RX3 106 yX3_look, Cond.instanceMethod yX3_look, Cond.selects RX3 yX3_look yX3_look, Cond.initialized RX3, Cond.code yX3_look cX3_look 6 (some .int), Cond.fieldLink RX3 18 "MemoParser$Search" "work" "I", Cond.fieldLink RX3 35 "MemoParser$Search" "grammar" "LMemoParser$Grammar;", Cond.methodLink RX3 68 yX3_lookForRange, Cond.instanceMethod yX3_lookForRange, Cond.selects RX3 yX3_lookForRange yX3_lookForRange, Cond.code yX3_lookForRange cX3_lookForRange 5 (some .int), Cond.fieldLink RX3 12 "MemoParser$Search" "progress" "LMemoParser$Progress;", Cond.fieldLink RX3 39 "MemoParser$Search" "text" "LMemoParser$Text;", Cond.fieldLink RX3 28 "MemoParser$Search" "farthest" "I", Cond.methodLink RX3 100 Lib.Math.max.name, Cond.static Lib.Math.max.name, Cond.initialized "java/lang/Math", Cond.code Lib.Math.max.name Lib.Math.max.code 2 (some .int), Cond.methodLink RX3 90 yX2_countLook, Cond.instanceMethod yX2_countLook, Cond.selects RX2 yX2_countLook yX2_countLook, Cond.initialized RX2, Cond.code yX2_countLook cX2_countLook 2 none]
def wsX3_lookForAnd_r2 : List Cond := [Cond.fieldLink RX2 40 "MemoParser$Progress" "open" "I", Cond.fieldLink RX2 25 "MemoParser$Progress" "reaches" "[I", Cond.methodLink RX2 69 Lib.Math.max.name, Cond.methodLink RX3 94 yX4_byteOrNone, Cond.instanceMethod yX4_byteOrNone, Cond.selects RX4 yX4_byteOrNone yX4_byteOrNone, Cond.initialized RX4, Cond.code yX4_byteOrNone cX4_byteOrNone 2 (some .int), Cond.fieldLink RX4 9 "MemoParser$Text" "bytes" "[I", Cond.methodLink RX4 19 yX4_hasByte, Cond.instanceMethod yX4_hasByte, Cond.selects RX4 yX4_hasByte yX4_hasByte, Cond.code yX4_hasByte cX4_hasByte 2 (some .boolean), Cond.fieldLink RX4 15 "MemoParser$Text" "size" "I", Cond.methodLink RX3 47 yX3_lookForRule, Cond.instanceMethod yX3_lookForRule, Cond.selects RX3 yX3_lookForRule yX3_lookForRule, Cond.methodLink RX3 71 yX3_lookForSequence, Cond.instanceMethod yX3_lookForSequence, Cond.selects RX3 yX3_lookForSequence yX3_lookForSequence, Cond.methodLink RX3 75 yX3_lookForChoice, Cond.instanceMethod yX3_lookForChoice, Cond.selects RX3 yX3_lookForChoice yX3_lookForChoice, Cond.methodLink RX3 78 yX3_lookForStar]
def wsX3_lookForAnd_r3 : List Cond := [Cond.instanceMethod yX3_lookForStar, Cond.selects RX3 yX3_lookForStar yX3_lookForStar, Cond.methodLink RX3 81 yX3_lookForOptional, Cond.instanceMethod yX3_lookForOptional, Cond.selects RX3 yX3_lookForOptional yX3_lookForOptional, Cond.methodLink RX3 84 yX3_lookForAnd, Cond.instanceMethod yX3_lookForAnd, Cond.selects RX3 yX3_lookForAnd yX3_lookForAnd, Cond.methodLink RX3 87 yX3_lookForNot, Cond.instanceMethod yX3_lookForNot, Cond.selects RX3 yX3_lookForNot yX3_lookForNot, Cond.code yX3_lookForChoice cX3_lookForChoice 6 (some .int), Cond.code yX3_lookForNot cX3_lookForNot 5 (some .int), Cond.code yX3_lookForOptional cX3_lookForOptional 5 (some .int), Cond.code yX3_lookForRule cX3_lookForRule 9 (some .int), Cond.fieldLink RX3 25 "MemoParser$Search" "growths" "I", Cond.methodLink RX3 109 yX3_knownResult, Cond.instanceMethod yX3_knownResult, Cond.selects RX3 yX3_knownResult yX3_knownResult, Cond.code yX3_knownResult cX3_knownResult 5 (some .int), Cond.fieldLink RX3 43 "MemoParser$Search" "memory" "LMemoParser$Memory;", Cond.fieldLink RX3 22 "MemoParser$Search" "hits" "I", Cond.methodLink RX3 133 yX0_has, Cond.instanceMethod yX0_has]
def wsX3_lookForAnd_r4 : List Cond := [Cond.selects RX0 yX0_has yX0_has, Cond.initialized RX0, Cond.code yX0_has cX0_has 2 (some .boolean), Cond.fieldLink RX0 24 "MemoParser$Grammar" "count" "I", Cond.static yX5_cell, Cond.initialized RX5, Cond.code yX5_cell cX5_cell 2 (some .int), Cond.methodLink RX3 140 yX1_holds, Cond.instanceMethod yX1_holds, Cond.selects RX1 yX1_holds yX1_holds, Cond.initialized RX1, Cond.code yX1_holds cX1_holds 2 (some .boolean), Cond.fieldLink RX1 9 "MemoParser$Memory" "results" "[I", Cond.methodLink RX3 146 yX2_hasOneOf, Cond.instanceMethod yX2_hasOneOf, Cond.selects RX2 yX2_hasOneOf yX2_hasOneOf, Cond.code yX2_hasOneOf cX2_hasOneOf 3 (some .boolean), Cond.fieldLink RX2 37 "MemoParser$Progress" "rulesAt" "[I", Cond.methodLink RX3 153 yX2_countNames, Cond.instanceMethod yX2_countNames, Cond.selects RX2 yX2_countNames yX2_countNames, Cond.code yX2_countNames cX2_countNames 3 none, Cond.fieldLink RX2 15 "MemoParser$Progress" "places" "[I", Cond.fieldLink RX2 28 "MemoParser$Progress" "names" "[I"]
def wsX3_lookForAnd_r5 : List Cond := [Cond.methodLink RX3 162 yX2_askSeed, Cond.instanceMethod yX2_askSeed, Cond.selects RX2 yX2_askSeed yX2_askSeed, Cond.code yX2_askSeed cX2_askSeed 2 (some .int), Cond.fieldLink RX2 21 "MemoParser$Progress" "asked" "[Z", Cond.fieldLink RX2 18 "MemoParser$Progress" "seeds" "[I", Cond.methodLink RX2 66 yX2_countAsked, Cond.instanceMethod yX2_countAsked, Cond.selects RX2 yX2_countAsked yX2_countAsked, Cond.code yX2_countAsked cX2_countAsked 2 none, Cond.fieldLink RX2 31 "MemoParser$Progress" "earliestAsked" "[I", Cond.methodLink RX2 74 Lib.Math.min.name, Cond.static Lib.Math.min.name, Cond.code Lib.Math.min.name Lib.Math.min.code 2 (some .int), Cond.methodLink RX3 112 yX2_isFull, Cond.instanceMethod yX2_isFull, Cond.selects RX2 yX2_isFull yX2_isFull, Cond.code yX2_isFull cX2_isFull 1 (some .boolean), Cond.methodLink RX3 119 yX2_begin, Cond.instanceMethod yX2_begin, Cond.selects RX2 yX2_begin yX2_begin, Cond.code yX2_begin cX2_begin 4 (some .int), Cond.fieldLink RX2 9 "MemoParser$Progress" "rules" "[I", Cond.fieldLink RX2 34 "MemoParser$Progress" "numberOf" "[I"]
def wsX3_lookForAnd_r6 : List Cond := [Cond.static yX5_bit, Cond.code yX5_bit cX5_bit 1 (some .int), Cond.methodLink RX3 129 yX3_finish, Cond.instanceMethod yX3_finish, Cond.selects RX3 yX3_finish yX3_finish, Cond.code yX3_finish cX3_finish 4 none, Cond.methodLink RX3 165 yX2_askedEarlierOne, Cond.instanceMethod yX2_askedEarlierOne, Cond.selects RX2 yX2_askedEarlierOne yX2_askedEarlierOne, Cond.code yX2_askedEarlierOne cX2_askedEarlierOne 2 (some .boolean), Cond.methodLink RX3 176 yX1_put, Cond.instanceMethod yX1_put, Cond.selects RX1 yX1_put yX1_put, Cond.code yX1_put cX1_put 5 none, Cond.fieldLink RX1 15 "MemoParser$Memory" "reaches" "[I", Cond.fieldLink RX1 18 "MemoParser$Memory" "names" "[I", Cond.methodLink RX3 180 yX2_end, Cond.instanceMethod yX2_end, Cond.selects RX2 yX2_end yX2_end, Cond.code yX2_end cX2_end 3 none, Cond.methodLink RX2 58 yX2_countLook, Cond.methodLink RX2 62 yX2_countNames, Cond.code yX3_lookForSequence cX3_lookForSequence 8 (some .int), Cond.code yX3_lookForStar cX3_lookForStar 7 (some .int)]
def wsX3_lookForAnd : List Cond := .code yX3_lookForAnd cX3_lookForAnd 5 (some .int) :: ((wsX3_lookForAnd_r1 ++ (wsX3_lookForAnd_r2 ++ (wsX3_lookForAnd_r3 ++ (wsX3_lookForAnd_r4 ++ (wsX3_lookForAnd_r5 ++ wsX3_lookForAnd_r6))))) ++ wsX30 ++ wsX00 ++ wsX20 ++ wsX40 ++ wsX10)
def wsX3_lookForChoice_r1 : List Cond := [Cond.fieldLink RX3 31 "MemoParser$Search" "cut" "Z", Cond.methodLink RX3 106 yX3_look, Cond.instanceMethod yX3_look, Cond.selects RX3 yX3_look yX3_look, Cond.initialized RX3, Cond.code yX3_look cX3_look 6 (some .int), Cond.fieldLink RX3 18 "MemoParser$Search" "work" "I", Cond.fieldLink RX3 35 "MemoParser$Search" "grammar" "LMemoParser$Grammar;", Cond.methodLink RX3 68 yX3_lookForRange, Cond.instanceMethod yX3_lookForRange, Cond.selects RX3 yX3_lookForRange yX3_lookForRange, Cond.code yX3_lookForRange cX3_lookForRange 5 (some .int), Cond.fieldLink RX3 12 "MemoParser$Search" "progress" "LMemoParser$Progress;", Cond.fieldLink RX3 39 "MemoParser$Search" "text" "LMemoParser$Text;", Cond.fieldLink RX3 28 "MemoParser$Search" "farthest" "I", Cond.methodLink RX3 100 Lib.Math.max.name, Cond.static Lib.Math.max.name, Cond.initialized "java/lang/Math", Cond.code Lib.Math.max.name Lib.Math.max.code 2 (some .int), Cond.methodLink RX3 90 yX2_countLook, Cond.instanceMethod yX2_countLook, Cond.selects RX2 yX2_countLook yX2_countLook, Cond.initialized RX2, Cond.code yX2_countLook cX2_countLook 2 none]
def wsX3_lookForChoice_r2 : List Cond := [Cond.fieldLink RX2 40 "MemoParser$Progress" "open" "I", Cond.fieldLink RX2 25 "MemoParser$Progress" "reaches" "[I", Cond.methodLink RX2 69 Lib.Math.max.name, Cond.methodLink RX3 94 yX4_byteOrNone, Cond.instanceMethod yX4_byteOrNone, Cond.selects RX4 yX4_byteOrNone yX4_byteOrNone, Cond.initialized RX4, Cond.code yX4_byteOrNone cX4_byteOrNone 2 (some .int), Cond.fieldLink RX4 9 "MemoParser$Text" "bytes" "[I", Cond.methodLink RX4 19 yX4_hasByte, Cond.instanceMethod yX4_hasByte, Cond.selects RX4 yX4_hasByte yX4_hasByte, Cond.code yX4_hasByte cX4_hasByte 2 (some .boolean), Cond.fieldLink RX4 15 "MemoParser$Text" "size" "I", Cond.methodLink RX3 47 yX3_lookForRule, Cond.instanceMethod yX3_lookForRule, Cond.selects RX3 yX3_lookForRule yX3_lookForRule, Cond.methodLink RX3 71 yX3_lookForSequence, Cond.instanceMethod yX3_lookForSequence, Cond.selects RX3 yX3_lookForSequence yX3_lookForSequence, Cond.methodLink RX3 75 yX3_lookForChoice, Cond.instanceMethod yX3_lookForChoice, Cond.selects RX3 yX3_lookForChoice yX3_lookForChoice, Cond.methodLink RX3 78 yX3_lookForStar]
def wsX3_lookForChoice_r3 : List Cond := [Cond.instanceMethod yX3_lookForStar, Cond.selects RX3 yX3_lookForStar yX3_lookForStar, Cond.methodLink RX3 81 yX3_lookForOptional, Cond.instanceMethod yX3_lookForOptional, Cond.selects RX3 yX3_lookForOptional yX3_lookForOptional, Cond.methodLink RX3 84 yX3_lookForAnd, Cond.instanceMethod yX3_lookForAnd, Cond.selects RX3 yX3_lookForAnd yX3_lookForAnd, Cond.methodLink RX3 87 yX3_lookForNot, Cond.instanceMethod yX3_lookForNot, Cond.selects RX3 yX3_lookForNot yX3_lookForNot, Cond.code yX3_lookForAnd cX3_lookForAnd 5 (some .int), Cond.code yX3_lookForNot cX3_lookForNot 5 (some .int), Cond.code yX3_lookForOptional cX3_lookForOptional 5 (some .int), Cond.code yX3_lookForRule cX3_lookForRule 9 (some .int), Cond.fieldLink RX3 25 "MemoParser$Search" "growths" "I", Cond.methodLink RX3 109 yX3_knownResult, Cond.instanceMethod yX3_knownResult, Cond.selects RX3 yX3_knownResult yX3_knownResult, Cond.code yX3_knownResult cX3_knownResult 5 (some .int), Cond.fieldLink RX3 43 "MemoParser$Search" "memory" "LMemoParser$Memory;", Cond.fieldLink RX3 22 "MemoParser$Search" "hits" "I", Cond.methodLink RX3 133 yX0_has, Cond.instanceMethod yX0_has]
def wsX3_lookForChoice_r4 : List Cond := [Cond.selects RX0 yX0_has yX0_has, Cond.initialized RX0, Cond.code yX0_has cX0_has 2 (some .boolean), Cond.fieldLink RX0 24 "MemoParser$Grammar" "count" "I", Cond.static yX5_cell, Cond.initialized RX5, Cond.code yX5_cell cX5_cell 2 (some .int), Cond.methodLink RX3 140 yX1_holds, Cond.instanceMethod yX1_holds, Cond.selects RX1 yX1_holds yX1_holds, Cond.initialized RX1, Cond.code yX1_holds cX1_holds 2 (some .boolean), Cond.fieldLink RX1 9 "MemoParser$Memory" "results" "[I", Cond.methodLink RX3 146 yX2_hasOneOf, Cond.instanceMethod yX2_hasOneOf, Cond.selects RX2 yX2_hasOneOf yX2_hasOneOf, Cond.code yX2_hasOneOf cX2_hasOneOf 3 (some .boolean), Cond.fieldLink RX2 37 "MemoParser$Progress" "rulesAt" "[I", Cond.methodLink RX3 153 yX2_countNames, Cond.instanceMethod yX2_countNames, Cond.selects RX2 yX2_countNames yX2_countNames, Cond.code yX2_countNames cX2_countNames 3 none, Cond.fieldLink RX2 15 "MemoParser$Progress" "places" "[I", Cond.fieldLink RX2 28 "MemoParser$Progress" "names" "[I"]
def wsX3_lookForChoice_r5 : List Cond := [Cond.methodLink RX3 162 yX2_askSeed, Cond.instanceMethod yX2_askSeed, Cond.selects RX2 yX2_askSeed yX2_askSeed, Cond.code yX2_askSeed cX2_askSeed 2 (some .int), Cond.fieldLink RX2 21 "MemoParser$Progress" "asked" "[Z", Cond.fieldLink RX2 18 "MemoParser$Progress" "seeds" "[I", Cond.methodLink RX2 66 yX2_countAsked, Cond.instanceMethod yX2_countAsked, Cond.selects RX2 yX2_countAsked yX2_countAsked, Cond.code yX2_countAsked cX2_countAsked 2 none, Cond.fieldLink RX2 31 "MemoParser$Progress" "earliestAsked" "[I", Cond.methodLink RX2 74 Lib.Math.min.name, Cond.static Lib.Math.min.name, Cond.code Lib.Math.min.name Lib.Math.min.code 2 (some .int), Cond.methodLink RX3 112 yX2_isFull, Cond.instanceMethod yX2_isFull, Cond.selects RX2 yX2_isFull yX2_isFull, Cond.code yX2_isFull cX2_isFull 1 (some .boolean), Cond.methodLink RX3 119 yX2_begin, Cond.instanceMethod yX2_begin, Cond.selects RX2 yX2_begin yX2_begin, Cond.code yX2_begin cX2_begin 4 (some .int), Cond.fieldLink RX2 9 "MemoParser$Progress" "rules" "[I", Cond.fieldLink RX2 34 "MemoParser$Progress" "numberOf" "[I"]
def wsX3_lookForChoice_r6 : List Cond := [Cond.static yX5_bit, Cond.code yX5_bit cX5_bit 1 (some .int), Cond.methodLink RX3 129 yX3_finish, Cond.instanceMethod yX3_finish, Cond.selects RX3 yX3_finish yX3_finish, Cond.code yX3_finish cX3_finish 4 none, Cond.methodLink RX3 165 yX2_askedEarlierOne, Cond.instanceMethod yX2_askedEarlierOne, Cond.selects RX2 yX2_askedEarlierOne yX2_askedEarlierOne, Cond.code yX2_askedEarlierOne cX2_askedEarlierOne 2 (some .boolean), Cond.methodLink RX3 176 yX1_put, Cond.instanceMethod yX1_put, Cond.selects RX1 yX1_put yX1_put, Cond.code yX1_put cX1_put 5 none, Cond.fieldLink RX1 15 "MemoParser$Memory" "reaches" "[I", Cond.fieldLink RX1 18 "MemoParser$Memory" "names" "[I", Cond.methodLink RX3 180 yX2_end, Cond.instanceMethod yX2_end, Cond.selects RX2 yX2_end yX2_end, Cond.code yX2_end cX2_end 3 none, Cond.methodLink RX2 58 yX2_countLook, Cond.methodLink RX2 62 yX2_countNames, Cond.code yX3_lookForSequence cX3_lookForSequence 8 (some .int), Cond.code yX3_lookForStar cX3_lookForStar 7 (some .int)]
def wsX3_lookForChoice : List Cond := .code yX3_lookForChoice cX3_lookForChoice 6 (some .int) :: ((wsX3_lookForChoice_r1 ++ (wsX3_lookForChoice_r2 ++ (wsX3_lookForChoice_r3 ++ (wsX3_lookForChoice_r4 ++ (wsX3_lookForChoice_r5 ++ wsX3_lookForChoice_r6))))) ++ wsX30 ++ wsX00 ++ wsX20 ++ wsX40 ++ wsX10)
def wsX3_lookForNot_r1 : List Cond := [Cond.fieldLink RX3 31 "MemoParser$Search" "cut" "Z", Cond.methodLink RX3 106 yX3_look, Cond.instanceMethod yX3_look, Cond.selects RX3 yX3_look yX3_look, Cond.initialized RX3, Cond.code yX3_look cX3_look 6 (some .int), Cond.fieldLink RX3 18 "MemoParser$Search" "work" "I", Cond.fieldLink RX3 35 "MemoParser$Search" "grammar" "LMemoParser$Grammar;", Cond.methodLink RX3 68 yX3_lookForRange, Cond.instanceMethod yX3_lookForRange, Cond.selects RX3 yX3_lookForRange yX3_lookForRange, Cond.code yX3_lookForRange cX3_lookForRange 5 (some .int), Cond.fieldLink RX3 12 "MemoParser$Search" "progress" "LMemoParser$Progress;", Cond.fieldLink RX3 39 "MemoParser$Search" "text" "LMemoParser$Text;", Cond.fieldLink RX3 28 "MemoParser$Search" "farthest" "I", Cond.methodLink RX3 100 Lib.Math.max.name, Cond.static Lib.Math.max.name, Cond.initialized "java/lang/Math", Cond.code Lib.Math.max.name Lib.Math.max.code 2 (some .int), Cond.methodLink RX3 90 yX2_countLook, Cond.instanceMethod yX2_countLook, Cond.selects RX2 yX2_countLook yX2_countLook, Cond.initialized RX2, Cond.code yX2_countLook cX2_countLook 2 none]
def wsX3_lookForNot_r2 : List Cond := [Cond.fieldLink RX2 40 "MemoParser$Progress" "open" "I", Cond.fieldLink RX2 25 "MemoParser$Progress" "reaches" "[I", Cond.methodLink RX2 69 Lib.Math.max.name, Cond.methodLink RX3 94 yX4_byteOrNone, Cond.instanceMethod yX4_byteOrNone, Cond.selects RX4 yX4_byteOrNone yX4_byteOrNone, Cond.initialized RX4, Cond.code yX4_byteOrNone cX4_byteOrNone 2 (some .int), Cond.fieldLink RX4 9 "MemoParser$Text" "bytes" "[I", Cond.methodLink RX4 19 yX4_hasByte, Cond.instanceMethod yX4_hasByte, Cond.selects RX4 yX4_hasByte yX4_hasByte, Cond.code yX4_hasByte cX4_hasByte 2 (some .boolean), Cond.fieldLink RX4 15 "MemoParser$Text" "size" "I", Cond.methodLink RX3 47 yX3_lookForRule, Cond.instanceMethod yX3_lookForRule, Cond.selects RX3 yX3_lookForRule yX3_lookForRule, Cond.methodLink RX3 71 yX3_lookForSequence, Cond.instanceMethod yX3_lookForSequence, Cond.selects RX3 yX3_lookForSequence yX3_lookForSequence, Cond.methodLink RX3 75 yX3_lookForChoice, Cond.instanceMethod yX3_lookForChoice, Cond.selects RX3 yX3_lookForChoice yX3_lookForChoice, Cond.methodLink RX3 78 yX3_lookForStar]
def wsX3_lookForNot_r3 : List Cond := [Cond.instanceMethod yX3_lookForStar, Cond.selects RX3 yX3_lookForStar yX3_lookForStar, Cond.methodLink RX3 81 yX3_lookForOptional, Cond.instanceMethod yX3_lookForOptional, Cond.selects RX3 yX3_lookForOptional yX3_lookForOptional, Cond.methodLink RX3 84 yX3_lookForAnd, Cond.instanceMethod yX3_lookForAnd, Cond.selects RX3 yX3_lookForAnd yX3_lookForAnd, Cond.methodLink RX3 87 yX3_lookForNot, Cond.instanceMethod yX3_lookForNot, Cond.selects RX3 yX3_lookForNot yX3_lookForNot, Cond.code yX3_lookForAnd cX3_lookForAnd 5 (some .int), Cond.code yX3_lookForChoice cX3_lookForChoice 6 (some .int), Cond.code yX3_lookForOptional cX3_lookForOptional 5 (some .int), Cond.code yX3_lookForRule cX3_lookForRule 9 (some .int), Cond.fieldLink RX3 25 "MemoParser$Search" "growths" "I", Cond.methodLink RX3 109 yX3_knownResult, Cond.instanceMethod yX3_knownResult, Cond.selects RX3 yX3_knownResult yX3_knownResult, Cond.code yX3_knownResult cX3_knownResult 5 (some .int), Cond.fieldLink RX3 43 "MemoParser$Search" "memory" "LMemoParser$Memory;", Cond.fieldLink RX3 22 "MemoParser$Search" "hits" "I", Cond.methodLink RX3 133 yX0_has, Cond.instanceMethod yX0_has]
def wsX3_lookForNot_r4 : List Cond := [Cond.selects RX0 yX0_has yX0_has, Cond.initialized RX0, Cond.code yX0_has cX0_has 2 (some .boolean), Cond.fieldLink RX0 24 "MemoParser$Grammar" "count" "I", Cond.static yX5_cell, Cond.initialized RX5, Cond.code yX5_cell cX5_cell 2 (some .int), Cond.methodLink RX3 140 yX1_holds, Cond.instanceMethod yX1_holds, Cond.selects RX1 yX1_holds yX1_holds, Cond.initialized RX1, Cond.code yX1_holds cX1_holds 2 (some .boolean), Cond.fieldLink RX1 9 "MemoParser$Memory" "results" "[I", Cond.methodLink RX3 146 yX2_hasOneOf, Cond.instanceMethod yX2_hasOneOf, Cond.selects RX2 yX2_hasOneOf yX2_hasOneOf, Cond.code yX2_hasOneOf cX2_hasOneOf 3 (some .boolean), Cond.fieldLink RX2 37 "MemoParser$Progress" "rulesAt" "[I", Cond.methodLink RX3 153 yX2_countNames, Cond.instanceMethod yX2_countNames, Cond.selects RX2 yX2_countNames yX2_countNames, Cond.code yX2_countNames cX2_countNames 3 none, Cond.fieldLink RX2 15 "MemoParser$Progress" "places" "[I", Cond.fieldLink RX2 28 "MemoParser$Progress" "names" "[I"]
def wsX3_lookForNot_r5 : List Cond := [Cond.methodLink RX3 162 yX2_askSeed, Cond.instanceMethod yX2_askSeed, Cond.selects RX2 yX2_askSeed yX2_askSeed, Cond.code yX2_askSeed cX2_askSeed 2 (some .int), Cond.fieldLink RX2 21 "MemoParser$Progress" "asked" "[Z", Cond.fieldLink RX2 18 "MemoParser$Progress" "seeds" "[I", Cond.methodLink RX2 66 yX2_countAsked, Cond.instanceMethod yX2_countAsked, Cond.selects RX2 yX2_countAsked yX2_countAsked, Cond.code yX2_countAsked cX2_countAsked 2 none, Cond.fieldLink RX2 31 "MemoParser$Progress" "earliestAsked" "[I", Cond.methodLink RX2 74 Lib.Math.min.name, Cond.static Lib.Math.min.name, Cond.code Lib.Math.min.name Lib.Math.min.code 2 (some .int), Cond.methodLink RX3 112 yX2_isFull, Cond.instanceMethod yX2_isFull, Cond.selects RX2 yX2_isFull yX2_isFull, Cond.code yX2_isFull cX2_isFull 1 (some .boolean), Cond.methodLink RX3 119 yX2_begin, Cond.instanceMethod yX2_begin, Cond.selects RX2 yX2_begin yX2_begin, Cond.code yX2_begin cX2_begin 4 (some .int), Cond.fieldLink RX2 9 "MemoParser$Progress" "rules" "[I", Cond.fieldLink RX2 34 "MemoParser$Progress" "numberOf" "[I"]
def wsX3_lookForNot_r6 : List Cond := [Cond.static yX5_bit, Cond.code yX5_bit cX5_bit 1 (some .int), Cond.methodLink RX3 129 yX3_finish, Cond.instanceMethod yX3_finish, Cond.selects RX3 yX3_finish yX3_finish, Cond.code yX3_finish cX3_finish 4 none, Cond.methodLink RX3 165 yX2_askedEarlierOne, Cond.instanceMethod yX2_askedEarlierOne, Cond.selects RX2 yX2_askedEarlierOne yX2_askedEarlierOne, Cond.code yX2_askedEarlierOne cX2_askedEarlierOne 2 (some .boolean), Cond.methodLink RX3 176 yX1_put, Cond.instanceMethod yX1_put, Cond.selects RX1 yX1_put yX1_put, Cond.code yX1_put cX1_put 5 none, Cond.fieldLink RX1 15 "MemoParser$Memory" "reaches" "[I", Cond.fieldLink RX1 18 "MemoParser$Memory" "names" "[I", Cond.methodLink RX3 180 yX2_end, Cond.instanceMethod yX2_end, Cond.selects RX2 yX2_end yX2_end, Cond.code yX2_end cX2_end 3 none, Cond.methodLink RX2 58 yX2_countLook, Cond.methodLink RX2 62 yX2_countNames, Cond.code yX3_lookForSequence cX3_lookForSequence 8 (some .int), Cond.code yX3_lookForStar cX3_lookForStar 7 (some .int)]
def wsX3_lookForNot : List Cond := .code yX3_lookForNot cX3_lookForNot 5 (some .int) :: ((wsX3_lookForNot_r1 ++ (wsX3_lookForNot_r2 ++ (wsX3_lookForNot_r3 ++ (wsX3_lookForNot_r4 ++ (wsX3_lookForNot_r5 ++ wsX3_lookForNot_r6))))) ++ wsX30 ++ wsX00 ++ wsX20 ++ wsX40 ++ wsX10)
def wsX3_lookForOptional_r1 : List Cond := [Cond.fieldLink RX3 31 "MemoParser$Search" "cut" "Z", Cond.methodLink RX3 106 yX3_look, Cond.instanceMethod yX3_look, Cond.selects RX3 yX3_look yX3_look, Cond.initialized RX3, Cond.code yX3_look cX3_look 6 (some .int), Cond.fieldLink RX3 18 "MemoParser$Search" "work" "I", Cond.fieldLink RX3 35 "MemoParser$Search" "grammar" "LMemoParser$Grammar;", Cond.methodLink RX3 68 yX3_lookForRange, Cond.instanceMethod yX3_lookForRange, Cond.selects RX3 yX3_lookForRange yX3_lookForRange, Cond.code yX3_lookForRange cX3_lookForRange 5 (some .int), Cond.fieldLink RX3 12 "MemoParser$Search" "progress" "LMemoParser$Progress;", Cond.fieldLink RX3 39 "MemoParser$Search" "text" "LMemoParser$Text;", Cond.fieldLink RX3 28 "MemoParser$Search" "farthest" "I", Cond.methodLink RX3 100 Lib.Math.max.name, Cond.static Lib.Math.max.name, Cond.initialized "java/lang/Math", Cond.code Lib.Math.max.name Lib.Math.max.code 2 (some .int), Cond.methodLink RX3 90 yX2_countLook, Cond.instanceMethod yX2_countLook, Cond.selects RX2 yX2_countLook yX2_countLook, Cond.initialized RX2, Cond.code yX2_countLook cX2_countLook 2 none]
def wsX3_lookForOptional_r2 : List Cond := [Cond.fieldLink RX2 40 "MemoParser$Progress" "open" "I", Cond.fieldLink RX2 25 "MemoParser$Progress" "reaches" "[I", Cond.methodLink RX2 69 Lib.Math.max.name, Cond.methodLink RX3 94 yX4_byteOrNone, Cond.instanceMethod yX4_byteOrNone, Cond.selects RX4 yX4_byteOrNone yX4_byteOrNone, Cond.initialized RX4, Cond.code yX4_byteOrNone cX4_byteOrNone 2 (some .int), Cond.fieldLink RX4 9 "MemoParser$Text" "bytes" "[I", Cond.methodLink RX4 19 yX4_hasByte, Cond.instanceMethod yX4_hasByte, Cond.selects RX4 yX4_hasByte yX4_hasByte, Cond.code yX4_hasByte cX4_hasByte 2 (some .boolean), Cond.fieldLink RX4 15 "MemoParser$Text" "size" "I", Cond.methodLink RX3 47 yX3_lookForRule, Cond.instanceMethod yX3_lookForRule, Cond.selects RX3 yX3_lookForRule yX3_lookForRule, Cond.methodLink RX3 71 yX3_lookForSequence, Cond.instanceMethod yX3_lookForSequence, Cond.selects RX3 yX3_lookForSequence yX3_lookForSequence, Cond.methodLink RX3 75 yX3_lookForChoice, Cond.instanceMethod yX3_lookForChoice, Cond.selects RX3 yX3_lookForChoice yX3_lookForChoice, Cond.methodLink RX3 78 yX3_lookForStar]
def wsX3_lookForOptional_r3 : List Cond := [Cond.instanceMethod yX3_lookForStar, Cond.selects RX3 yX3_lookForStar yX3_lookForStar, Cond.methodLink RX3 81 yX3_lookForOptional, Cond.instanceMethod yX3_lookForOptional, Cond.selects RX3 yX3_lookForOptional yX3_lookForOptional, Cond.methodLink RX3 84 yX3_lookForAnd, Cond.instanceMethod yX3_lookForAnd, Cond.selects RX3 yX3_lookForAnd yX3_lookForAnd, Cond.methodLink RX3 87 yX3_lookForNot, Cond.instanceMethod yX3_lookForNot, Cond.selects RX3 yX3_lookForNot yX3_lookForNot, Cond.code yX3_lookForAnd cX3_lookForAnd 5 (some .int), Cond.code yX3_lookForChoice cX3_lookForChoice 6 (some .int), Cond.code yX3_lookForNot cX3_lookForNot 5 (some .int), Cond.code yX3_lookForRule cX3_lookForRule 9 (some .int), Cond.fieldLink RX3 25 "MemoParser$Search" "growths" "I", Cond.methodLink RX3 109 yX3_knownResult, Cond.instanceMethod yX3_knownResult, Cond.selects RX3 yX3_knownResult yX3_knownResult, Cond.code yX3_knownResult cX3_knownResult 5 (some .int), Cond.fieldLink RX3 43 "MemoParser$Search" "memory" "LMemoParser$Memory;", Cond.fieldLink RX3 22 "MemoParser$Search" "hits" "I", Cond.methodLink RX3 133 yX0_has, Cond.instanceMethod yX0_has]
def wsX3_lookForOptional_r4 : List Cond := [Cond.selects RX0 yX0_has yX0_has, Cond.initialized RX0, Cond.code yX0_has cX0_has 2 (some .boolean), Cond.fieldLink RX0 24 "MemoParser$Grammar" "count" "I", Cond.static yX5_cell, Cond.initialized RX5, Cond.code yX5_cell cX5_cell 2 (some .int), Cond.methodLink RX3 140 yX1_holds, Cond.instanceMethod yX1_holds, Cond.selects RX1 yX1_holds yX1_holds, Cond.initialized RX1, Cond.code yX1_holds cX1_holds 2 (some .boolean), Cond.fieldLink RX1 9 "MemoParser$Memory" "results" "[I", Cond.methodLink RX3 146 yX2_hasOneOf, Cond.instanceMethod yX2_hasOneOf, Cond.selects RX2 yX2_hasOneOf yX2_hasOneOf, Cond.code yX2_hasOneOf cX2_hasOneOf 3 (some .boolean), Cond.fieldLink RX2 37 "MemoParser$Progress" "rulesAt" "[I", Cond.methodLink RX3 153 yX2_countNames, Cond.instanceMethod yX2_countNames, Cond.selects RX2 yX2_countNames yX2_countNames, Cond.code yX2_countNames cX2_countNames 3 none, Cond.fieldLink RX2 15 "MemoParser$Progress" "places" "[I", Cond.fieldLink RX2 28 "MemoParser$Progress" "names" "[I"]
def wsX3_lookForOptional_r5 : List Cond := [Cond.methodLink RX3 162 yX2_askSeed, Cond.instanceMethod yX2_askSeed, Cond.selects RX2 yX2_askSeed yX2_askSeed, Cond.code yX2_askSeed cX2_askSeed 2 (some .int), Cond.fieldLink RX2 21 "MemoParser$Progress" "asked" "[Z", Cond.fieldLink RX2 18 "MemoParser$Progress" "seeds" "[I", Cond.methodLink RX2 66 yX2_countAsked, Cond.instanceMethod yX2_countAsked, Cond.selects RX2 yX2_countAsked yX2_countAsked, Cond.code yX2_countAsked cX2_countAsked 2 none, Cond.fieldLink RX2 31 "MemoParser$Progress" "earliestAsked" "[I", Cond.methodLink RX2 74 Lib.Math.min.name, Cond.static Lib.Math.min.name, Cond.code Lib.Math.min.name Lib.Math.min.code 2 (some .int), Cond.methodLink RX3 112 yX2_isFull, Cond.instanceMethod yX2_isFull, Cond.selects RX2 yX2_isFull yX2_isFull, Cond.code yX2_isFull cX2_isFull 1 (some .boolean), Cond.methodLink RX3 119 yX2_begin, Cond.instanceMethod yX2_begin, Cond.selects RX2 yX2_begin yX2_begin, Cond.code yX2_begin cX2_begin 4 (some .int), Cond.fieldLink RX2 9 "MemoParser$Progress" "rules" "[I", Cond.fieldLink RX2 34 "MemoParser$Progress" "numberOf" "[I"]
def wsX3_lookForOptional_r6 : List Cond := [Cond.static yX5_bit, Cond.code yX5_bit cX5_bit 1 (some .int), Cond.methodLink RX3 129 yX3_finish, Cond.instanceMethod yX3_finish, Cond.selects RX3 yX3_finish yX3_finish, Cond.code yX3_finish cX3_finish 4 none, Cond.methodLink RX3 165 yX2_askedEarlierOne, Cond.instanceMethod yX2_askedEarlierOne, Cond.selects RX2 yX2_askedEarlierOne yX2_askedEarlierOne, Cond.code yX2_askedEarlierOne cX2_askedEarlierOne 2 (some .boolean), Cond.methodLink RX3 176 yX1_put, Cond.instanceMethod yX1_put, Cond.selects RX1 yX1_put yX1_put, Cond.code yX1_put cX1_put 5 none, Cond.fieldLink RX1 15 "MemoParser$Memory" "reaches" "[I", Cond.fieldLink RX1 18 "MemoParser$Memory" "names" "[I", Cond.methodLink RX3 180 yX2_end, Cond.instanceMethod yX2_end, Cond.selects RX2 yX2_end yX2_end, Cond.code yX2_end cX2_end 3 none, Cond.methodLink RX2 58 yX2_countLook, Cond.methodLink RX2 62 yX2_countNames, Cond.code yX3_lookForSequence cX3_lookForSequence 8 (some .int), Cond.code yX3_lookForStar cX3_lookForStar 7 (some .int)]
def wsX3_lookForOptional : List Cond := .code yX3_lookForOptional cX3_lookForOptional 5 (some .int) :: ((wsX3_lookForOptional_r1 ++ (wsX3_lookForOptional_r2 ++ (wsX3_lookForOptional_r3 ++ (wsX3_lookForOptional_r4 ++ (wsX3_lookForOptional_r5 ++ wsX3_lookForOptional_r6))))) ++ wsX30 ++ wsX00 ++ wsX20 ++ wsX40 ++ wsX10)
def wsX3_lookForRule_r1 : List Cond := [Cond.fieldLink RX3 12 "MemoParser$Search" "progress" "LMemoParser$Progress;", Cond.fieldLink RX3 35 "MemoParser$Search" "grammar" "LMemoParser$Grammar;", Cond.fieldLink RX3 25 "MemoParser$Search" "growths" "I", Cond.fieldLink RX3 31 "MemoParser$Search" "cut" "Z", Cond.methodLink RX3 109 yX3_knownResult, Cond.instanceMethod yX3_knownResult, Cond.selects RX3 yX3_knownResult yX3_knownResult, Cond.initialized RX3, Cond.code yX3_knownResult cX3_knownResult 5 (some .int), Cond.fieldLink RX3 43 "MemoParser$Search" "memory" "LMemoParser$Memory;", Cond.fieldLink RX3 22 "MemoParser$Search" "hits" "I", Cond.methodLink RX3 133 yX0_has, Cond.instanceMethod yX0_has, Cond.selects RX0 yX0_has yX0_has, Cond.initialized RX0, Cond.code yX0_has cX0_has 2 (some .boolean), Cond.fieldLink RX0 24 "MemoParser$Grammar" "count" "I", Cond.static yX5_cell, Cond.initialized RX5, Cond.code yX5_cell cX5_cell 2 (some .int), Cond.methodLink RX3 140 yX1_holds, Cond.instanceMethod yX1_holds, Cond.selects RX1 yX1_holds yX1_holds, Cond.initialized RX1]
def wsX3_lookForRule_r2 : List Cond := [Cond.code yX1_holds cX1_holds 2 (some .boolean), Cond.fieldLink RX1 9 "MemoParser$Memory" "results" "[I", Cond.methodLink RX3 146 yX2_hasOneOf, Cond.instanceMethod yX2_hasOneOf, Cond.selects RX2 yX2_hasOneOf yX2_hasOneOf, Cond.initialized RX2, Cond.code yX2_hasOneOf cX2_hasOneOf 3 (some .boolean), Cond.fieldLink RX2 37 "MemoParser$Progress" "rulesAt" "[I", Cond.methodLink RX3 90 yX2_countLook, Cond.instanceMethod yX2_countLook, Cond.selects RX2 yX2_countLook yX2_countLook, Cond.code yX2_countLook cX2_countLook 2 none, Cond.fieldLink RX2 40 "MemoParser$Progress" "open" "I", Cond.fieldLink RX2 25 "MemoParser$Progress" "reaches" "[I", Cond.methodLink RX2 69 Lib.Math.max.name, Cond.static Lib.Math.max.name, Cond.initialized "java/lang/Math", Cond.code Lib.Math.max.name Lib.Math.max.code 2 (some .int), Cond.methodLink RX3 153 yX2_countNames, Cond.instanceMethod yX2_countNames, Cond.selects RX2 yX2_countNames yX2_countNames, Cond.code yX2_countNames cX2_countNames 3 none, Cond.fieldLink RX2 15 "MemoParser$Progress" "places" "[I", Cond.fieldLink RX2 28 "MemoParser$Progress" "names" "[I"]
def wsX3_lookForRule_r3 : List Cond := [Cond.methodLink RX3 162 yX2_askSeed, Cond.instanceMethod yX2_askSeed, Cond.selects RX2 yX2_askSeed yX2_askSeed, Cond.code yX2_askSeed cX2_askSeed 2 (some .int), Cond.fieldLink RX2 21 "MemoParser$Progress" "asked" "[Z", Cond.fieldLink RX2 18 "MemoParser$Progress" "seeds" "[I", Cond.methodLink RX2 66 yX2_countAsked, Cond.instanceMethod yX2_countAsked, Cond.selects RX2 yX2_countAsked yX2_countAsked, Cond.code yX2_countAsked cX2_countAsked 2 none, Cond.fieldLink RX2 31 "MemoParser$Progress" "earliestAsked" "[I", Cond.methodLink RX2 74 Lib.Math.min.name, Cond.static Lib.Math.min.name, Cond.code Lib.Math.min.name Lib.Math.min.code 2 (some .int), Cond.methodLink RX3 112 yX2_isFull, Cond.instanceMethod yX2_isFull, Cond.selects RX2 yX2_isFull yX2_isFull, Cond.code yX2_isFull cX2_isFull 1 (some .boolean), Cond.methodLink RX3 119 yX2_begin, Cond.instanceMethod yX2_begin, Cond.selects RX2 yX2_begin yX2_begin, Cond.code yX2_begin cX2_begin 4 (some .int), Cond.fieldLink RX2 9 "MemoParser$Progress" "rules" "[I", Cond.fieldLink RX2 34 "MemoParser$Progress" "numberOf" "[I"]
def wsX3_lookForRule_r4 : List Cond := [Cond.static yX5_bit, Cond.code yX5_bit cX5_bit 1 (some .int), Cond.methodLink RX3 106 yX3_look, Cond.instanceMethod yX3_look, Cond.selects RX3 yX3_look yX3_look, Cond.methodLink RX3 129 yX3_finish, Cond.instanceMethod yX3_finish, Cond.selects RX3 yX3_finish yX3_finish, Cond.code yX3_finish cX3_finish 4 none, Cond.methodLink RX3 165 yX2_askedEarlierOne, Cond.instanceMethod yX2_askedEarlierOne, Cond.selects RX2 yX2_askedEarlierOne yX2_askedEarlierOne, Cond.code yX2_askedEarlierOne cX2_askedEarlierOne 2 (some .boolean), Cond.methodLink RX3 176 yX1_put, Cond.instanceMethod yX1_put, Cond.selects RX1 yX1_put yX1_put, Cond.code yX1_put cX1_put 5 none, Cond.fieldLink RX1 15 "MemoParser$Memory" "reaches" "[I", Cond.fieldLink RX1 18 "MemoParser$Memory" "names" "[I", Cond.methodLink RX3 180 yX2_end, Cond.instanceMethod yX2_end, Cond.selects RX2 yX2_end yX2_end, Cond.code yX2_end cX2_end 3 none, Cond.methodLink RX2 58 yX2_countLook]
def wsX3_lookForRule_r5 : List Cond := [Cond.methodLink RX2 62 yX2_countNames, Cond.code yX3_look cX3_look 6 (some .int), Cond.fieldLink RX3 18 "MemoParser$Search" "work" "I", Cond.methodLink RX3 68 yX3_lookForRange, Cond.instanceMethod yX3_lookForRange, Cond.selects RX3 yX3_lookForRange yX3_lookForRange, Cond.code yX3_lookForRange cX3_lookForRange 5 (some .int), Cond.fieldLink RX3 39 "MemoParser$Search" "text" "LMemoParser$Text;", Cond.fieldLink RX3 28 "MemoParser$Search" "farthest" "I", Cond.methodLink RX3 100 Lib.Math.max.name, Cond.methodLink RX3 94 yX4_byteOrNone, Cond.instanceMethod yX4_byteOrNone, Cond.selects RX4 yX4_byteOrNone yX4_byteOrNone, Cond.initialized RX4, Cond.code yX4_byteOrNone cX4_byteOrNone 2 (some .int), Cond.fieldLink RX4 9 "MemoParser$Text" "bytes" "[I", Cond.methodLink RX4 19 yX4_hasByte, Cond.instanceMethod yX4_hasByte, Cond.selects RX4 yX4_hasByte yX4_hasByte, Cond.code yX4_hasByte cX4_hasByte 2 (some .boolean), Cond.fieldLink RX4 15 "MemoParser$Text" "size" "I", Cond.methodLink RX3 47 yX3_lookForRule, Cond.instanceMethod yX3_lookForRule, Cond.selects RX3 yX3_lookForRule yX3_lookForRule]
def wsX3_lookForRule_r6 : List Cond := [Cond.methodLink RX3 71 yX3_lookForSequence, Cond.instanceMethod yX3_lookForSequence, Cond.selects RX3 yX3_lookForSequence yX3_lookForSequence, Cond.methodLink RX3 75 yX3_lookForChoice, Cond.instanceMethod yX3_lookForChoice, Cond.selects RX3 yX3_lookForChoice yX3_lookForChoice, Cond.methodLink RX3 78 yX3_lookForStar, Cond.instanceMethod yX3_lookForStar, Cond.selects RX3 yX3_lookForStar yX3_lookForStar, Cond.methodLink RX3 81 yX3_lookForOptional, Cond.instanceMethod yX3_lookForOptional, Cond.selects RX3 yX3_lookForOptional yX3_lookForOptional, Cond.methodLink RX3 84 yX3_lookForAnd, Cond.instanceMethod yX3_lookForAnd, Cond.selects RX3 yX3_lookForAnd yX3_lookForAnd, Cond.methodLink RX3 87 yX3_lookForNot, Cond.instanceMethod yX3_lookForNot, Cond.selects RX3 yX3_lookForNot yX3_lookForNot, Cond.code yX3_lookForAnd cX3_lookForAnd 5 (some .int), Cond.code yX3_lookForChoice cX3_lookForChoice 6 (some .int), Cond.code yX3_lookForNot cX3_lookForNot 5 (some .int), Cond.code yX3_lookForOptional cX3_lookForOptional 5 (some .int), Cond.code yX3_lookForSequence cX3_lookForSequence 8 (some .int), Cond.code yX3_lookForStar cX3_lookForStar 7 (some .int)]
def wsX3_lookForRule : List Cond := .code yX3_lookForRule cX3_lookForRule 9 (some .int) :: ((wsX3_lookForRule_r1 ++ (wsX3_lookForRule_r2 ++ (wsX3_lookForRule_r3 ++ (wsX3_lookForRule_r4 ++ (wsX3_lookForRule_r5 ++ wsX3_lookForRule_r6))))) ++ wsX30 ++ wsX00 ++ wsX20 ++ wsX40 ++ wsX10)
def wsX3_lookForSequence_r1 : List Cond := [Cond.fieldLink RX3 31 "MemoParser$Search" "cut" "Z", Cond.methodLink RX3 106 yX3_look, Cond.instanceMethod yX3_look, Cond.selects RX3 yX3_look yX3_look, Cond.initialized RX3, Cond.code yX3_look cX3_look 6 (some .int), Cond.fieldLink RX3 18 "MemoParser$Search" "work" "I", Cond.fieldLink RX3 35 "MemoParser$Search" "grammar" "LMemoParser$Grammar;", Cond.methodLink RX3 68 yX3_lookForRange, Cond.instanceMethod yX3_lookForRange, Cond.selects RX3 yX3_lookForRange yX3_lookForRange, Cond.code yX3_lookForRange cX3_lookForRange 5 (some .int), Cond.fieldLink RX3 12 "MemoParser$Search" "progress" "LMemoParser$Progress;", Cond.fieldLink RX3 39 "MemoParser$Search" "text" "LMemoParser$Text;", Cond.fieldLink RX3 28 "MemoParser$Search" "farthest" "I", Cond.methodLink RX3 100 Lib.Math.max.name, Cond.static Lib.Math.max.name, Cond.initialized "java/lang/Math", Cond.code Lib.Math.max.name Lib.Math.max.code 2 (some .int), Cond.methodLink RX3 90 yX2_countLook, Cond.instanceMethod yX2_countLook, Cond.selects RX2 yX2_countLook yX2_countLook, Cond.initialized RX2, Cond.code yX2_countLook cX2_countLook 2 none]
def wsX3_lookForSequence_r2 : List Cond := [Cond.fieldLink RX2 40 "MemoParser$Progress" "open" "I", Cond.fieldLink RX2 25 "MemoParser$Progress" "reaches" "[I", Cond.methodLink RX2 69 Lib.Math.max.name, Cond.methodLink RX3 94 yX4_byteOrNone, Cond.instanceMethod yX4_byteOrNone, Cond.selects RX4 yX4_byteOrNone yX4_byteOrNone, Cond.initialized RX4, Cond.code yX4_byteOrNone cX4_byteOrNone 2 (some .int), Cond.fieldLink RX4 9 "MemoParser$Text" "bytes" "[I", Cond.methodLink RX4 19 yX4_hasByte, Cond.instanceMethod yX4_hasByte, Cond.selects RX4 yX4_hasByte yX4_hasByte, Cond.code yX4_hasByte cX4_hasByte 2 (some .boolean), Cond.fieldLink RX4 15 "MemoParser$Text" "size" "I", Cond.methodLink RX3 47 yX3_lookForRule, Cond.instanceMethod yX3_lookForRule, Cond.selects RX3 yX3_lookForRule yX3_lookForRule, Cond.methodLink RX3 71 yX3_lookForSequence, Cond.instanceMethod yX3_lookForSequence, Cond.selects RX3 yX3_lookForSequence yX3_lookForSequence, Cond.methodLink RX3 75 yX3_lookForChoice, Cond.instanceMethod yX3_lookForChoice, Cond.selects RX3 yX3_lookForChoice yX3_lookForChoice, Cond.methodLink RX3 78 yX3_lookForStar]
def wsX3_lookForSequence_r3 : List Cond := [Cond.instanceMethod yX3_lookForStar, Cond.selects RX3 yX3_lookForStar yX3_lookForStar, Cond.methodLink RX3 81 yX3_lookForOptional, Cond.instanceMethod yX3_lookForOptional, Cond.selects RX3 yX3_lookForOptional yX3_lookForOptional, Cond.methodLink RX3 84 yX3_lookForAnd, Cond.instanceMethod yX3_lookForAnd, Cond.selects RX3 yX3_lookForAnd yX3_lookForAnd, Cond.methodLink RX3 87 yX3_lookForNot, Cond.instanceMethod yX3_lookForNot, Cond.selects RX3 yX3_lookForNot yX3_lookForNot, Cond.code yX3_lookForAnd cX3_lookForAnd 5 (some .int), Cond.code yX3_lookForChoice cX3_lookForChoice 6 (some .int), Cond.code yX3_lookForNot cX3_lookForNot 5 (some .int), Cond.code yX3_lookForOptional cX3_lookForOptional 5 (some .int), Cond.code yX3_lookForRule cX3_lookForRule 9 (some .int), Cond.fieldLink RX3 25 "MemoParser$Search" "growths" "I", Cond.methodLink RX3 109 yX3_knownResult, Cond.instanceMethod yX3_knownResult, Cond.selects RX3 yX3_knownResult yX3_knownResult, Cond.code yX3_knownResult cX3_knownResult 5 (some .int), Cond.fieldLink RX3 43 "MemoParser$Search" "memory" "LMemoParser$Memory;", Cond.fieldLink RX3 22 "MemoParser$Search" "hits" "I", Cond.methodLink RX3 133 yX0_has]
def wsX3_lookForSequence_r4 : List Cond := [Cond.instanceMethod yX0_has, Cond.selects RX0 yX0_has yX0_has, Cond.initialized RX0, Cond.code yX0_has cX0_has 2 (some .boolean), Cond.fieldLink RX0 24 "MemoParser$Grammar" "count" "I", Cond.static yX5_cell, Cond.initialized RX5, Cond.code yX5_cell cX5_cell 2 (some .int), Cond.methodLink RX3 140 yX1_holds, Cond.instanceMethod yX1_holds, Cond.selects RX1 yX1_holds yX1_holds, Cond.initialized RX1, Cond.code yX1_holds cX1_holds 2 (some .boolean), Cond.fieldLink RX1 9 "MemoParser$Memory" "results" "[I", Cond.methodLink RX3 146 yX2_hasOneOf, Cond.instanceMethod yX2_hasOneOf, Cond.selects RX2 yX2_hasOneOf yX2_hasOneOf, Cond.code yX2_hasOneOf cX2_hasOneOf 3 (some .boolean), Cond.fieldLink RX2 37 "MemoParser$Progress" "rulesAt" "[I", Cond.methodLink RX3 153 yX2_countNames, Cond.instanceMethod yX2_countNames, Cond.selects RX2 yX2_countNames yX2_countNames, Cond.code yX2_countNames cX2_countNames 3 none, Cond.fieldLink RX2 15 "MemoParser$Progress" "places" "[I"]
def wsX3_lookForSequence_r5 : List Cond := [Cond.fieldLink RX2 28 "MemoParser$Progress" "names" "[I", Cond.methodLink RX3 162 yX2_askSeed, Cond.instanceMethod yX2_askSeed, Cond.selects RX2 yX2_askSeed yX2_askSeed, Cond.code yX2_askSeed cX2_askSeed 2 (some .int), Cond.fieldLink RX2 21 "MemoParser$Progress" "asked" "[Z", Cond.fieldLink RX2 18 "MemoParser$Progress" "seeds" "[I", Cond.methodLink RX2 66 yX2_countAsked, Cond.instanceMethod yX2_countAsked, Cond.selects RX2 yX2_countAsked yX2_countAsked, Cond.code yX2_countAsked cX2_countAsked 2 none, Cond.fieldLink RX2 31 "MemoParser$Progress" "earliestAsked" "[I", Cond.methodLink RX2 74 Lib.Math.min.name, Cond.static Lib.Math.min.name, Cond.code Lib.Math.min.name Lib.Math.min.code 2 (some .int), Cond.methodLink RX3 112 yX2_isFull, Cond.instanceMethod yX2_isFull, Cond.selects RX2 yX2_isFull yX2_isFull, Cond.code yX2_isFull cX2_isFull 1 (some .boolean), Cond.methodLink RX3 119 yX2_begin, Cond.instanceMethod yX2_begin, Cond.selects RX2 yX2_begin yX2_begin, Cond.code yX2_begin cX2_begin 4 (some .int), Cond.fieldLink RX2 9 "MemoParser$Progress" "rules" "[I"]
def wsX3_lookForSequence_r6 : List Cond := [Cond.fieldLink RX2 34 "MemoParser$Progress" "numberOf" "[I", Cond.static yX5_bit, Cond.code yX5_bit cX5_bit 1 (some .int), Cond.methodLink RX3 129 yX3_finish, Cond.instanceMethod yX3_finish, Cond.selects RX3 yX3_finish yX3_finish, Cond.code yX3_finish cX3_finish 4 none, Cond.methodLink RX3 165 yX2_askedEarlierOne, Cond.instanceMethod yX2_askedEarlierOne, Cond.selects RX2 yX2_askedEarlierOne yX2_askedEarlierOne, Cond.code yX2_askedEarlierOne cX2_askedEarlierOne 2 (some .boolean), Cond.methodLink RX3 176 yX1_put, Cond.instanceMethod yX1_put, Cond.selects RX1 yX1_put yX1_put, Cond.code yX1_put cX1_put 5 none, Cond.fieldLink RX1 15 "MemoParser$Memory" "reaches" "[I", Cond.fieldLink RX1 18 "MemoParser$Memory" "names" "[I", Cond.methodLink RX3 180 yX2_end, Cond.instanceMethod yX2_end, Cond.selects RX2 yX2_end yX2_end, Cond.code yX2_end cX2_end 3 none, Cond.methodLink RX2 58 yX2_countLook, Cond.methodLink RX2 62 yX2_countNames, Cond.code yX3_lookForStar cX3_lookForStar 7 (some .int)]
def wsX3_lookForSequence : List Cond := .code yX3_lookForSequence cX3_lookForSequence 8 (some .int) :: ((wsX3_lookForSequence_r1 ++ (wsX3_lookForSequence_r2 ++ (wsX3_lookForSequence_r3 ++ (wsX3_lookForSequence_r4 ++ (wsX3_lookForSequence_r5 ++ wsX3_lookForSequence_r6))))) ++ wsX30 ++ wsX00 ++ wsX20 ++ wsX40 ++ wsX10)
def wsX3_lookForStar_r1 : List Cond := [Cond.fieldLink RX3 31 "MemoParser$Search" "cut" "Z", Cond.methodLink RX3 106 yX3_look, Cond.instanceMethod yX3_look, Cond.selects RX3 yX3_look yX3_look, Cond.initialized RX3, Cond.code yX3_look cX3_look 6 (some .int), Cond.fieldLink RX3 18 "MemoParser$Search" "work" "I", Cond.fieldLink RX3 35 "MemoParser$Search" "grammar" "LMemoParser$Grammar;", Cond.methodLink RX3 68 yX3_lookForRange, Cond.instanceMethod yX3_lookForRange, Cond.selects RX3 yX3_lookForRange yX3_lookForRange, Cond.code yX3_lookForRange cX3_lookForRange 5 (some .int), Cond.fieldLink RX3 12 "MemoParser$Search" "progress" "LMemoParser$Progress;", Cond.fieldLink RX3 39 "MemoParser$Search" "text" "LMemoParser$Text;", Cond.fieldLink RX3 28 "MemoParser$Search" "farthest" "I", Cond.methodLink RX3 100 Lib.Math.max.name, Cond.static Lib.Math.max.name, Cond.initialized "java/lang/Math", Cond.code Lib.Math.max.name Lib.Math.max.code 2 (some .int), Cond.methodLink RX3 90 yX2_countLook, Cond.instanceMethod yX2_countLook, Cond.selects RX2 yX2_countLook yX2_countLook, Cond.initialized RX2, Cond.code yX2_countLook cX2_countLook 2 none]
def wsX3_lookForStar_r2 : List Cond := [Cond.fieldLink RX2 40 "MemoParser$Progress" "open" "I", Cond.fieldLink RX2 25 "MemoParser$Progress" "reaches" "[I", Cond.methodLink RX2 69 Lib.Math.max.name, Cond.methodLink RX3 94 yX4_byteOrNone, Cond.instanceMethod yX4_byteOrNone, Cond.selects RX4 yX4_byteOrNone yX4_byteOrNone, Cond.initialized RX4, Cond.code yX4_byteOrNone cX4_byteOrNone 2 (some .int), Cond.fieldLink RX4 9 "MemoParser$Text" "bytes" "[I", Cond.methodLink RX4 19 yX4_hasByte, Cond.instanceMethod yX4_hasByte, Cond.selects RX4 yX4_hasByte yX4_hasByte, Cond.code yX4_hasByte cX4_hasByte 2 (some .boolean), Cond.fieldLink RX4 15 "MemoParser$Text" "size" "I", Cond.methodLink RX3 47 yX3_lookForRule, Cond.instanceMethod yX3_lookForRule, Cond.selects RX3 yX3_lookForRule yX3_lookForRule, Cond.methodLink RX3 71 yX3_lookForSequence, Cond.instanceMethod yX3_lookForSequence, Cond.selects RX3 yX3_lookForSequence yX3_lookForSequence, Cond.methodLink RX3 75 yX3_lookForChoice, Cond.instanceMethod yX3_lookForChoice, Cond.selects RX3 yX3_lookForChoice yX3_lookForChoice, Cond.methodLink RX3 78 yX3_lookForStar]
def wsX3_lookForStar_r3 : List Cond := [Cond.instanceMethod yX3_lookForStar, Cond.selects RX3 yX3_lookForStar yX3_lookForStar, Cond.methodLink RX3 81 yX3_lookForOptional, Cond.instanceMethod yX3_lookForOptional, Cond.selects RX3 yX3_lookForOptional yX3_lookForOptional, Cond.methodLink RX3 84 yX3_lookForAnd, Cond.instanceMethod yX3_lookForAnd, Cond.selects RX3 yX3_lookForAnd yX3_lookForAnd, Cond.methodLink RX3 87 yX3_lookForNot, Cond.instanceMethod yX3_lookForNot, Cond.selects RX3 yX3_lookForNot yX3_lookForNot, Cond.code yX3_lookForAnd cX3_lookForAnd 5 (some .int), Cond.code yX3_lookForChoice cX3_lookForChoice 6 (some .int), Cond.code yX3_lookForNot cX3_lookForNot 5 (some .int), Cond.code yX3_lookForOptional cX3_lookForOptional 5 (some .int), Cond.code yX3_lookForRule cX3_lookForRule 9 (some .int), Cond.fieldLink RX3 25 "MemoParser$Search" "growths" "I", Cond.methodLink RX3 109 yX3_knownResult, Cond.instanceMethod yX3_knownResult, Cond.selects RX3 yX3_knownResult yX3_knownResult, Cond.code yX3_knownResult cX3_knownResult 5 (some .int), Cond.fieldLink RX3 43 "MemoParser$Search" "memory" "LMemoParser$Memory;", Cond.fieldLink RX3 22 "MemoParser$Search" "hits" "I", Cond.methodLink RX3 133 yX0_has]
def wsX3_lookForStar_r4 : List Cond := [Cond.instanceMethod yX0_has, Cond.selects RX0 yX0_has yX0_has, Cond.initialized RX0, Cond.code yX0_has cX0_has 2 (some .boolean), Cond.fieldLink RX0 24 "MemoParser$Grammar" "count" "I", Cond.static yX5_cell, Cond.initialized RX5, Cond.code yX5_cell cX5_cell 2 (some .int), Cond.methodLink RX3 140 yX1_holds, Cond.instanceMethod yX1_holds, Cond.selects RX1 yX1_holds yX1_holds, Cond.initialized RX1, Cond.code yX1_holds cX1_holds 2 (some .boolean), Cond.fieldLink RX1 9 "MemoParser$Memory" "results" "[I", Cond.methodLink RX3 146 yX2_hasOneOf, Cond.instanceMethod yX2_hasOneOf, Cond.selects RX2 yX2_hasOneOf yX2_hasOneOf, Cond.code yX2_hasOneOf cX2_hasOneOf 3 (some .boolean), Cond.fieldLink RX2 37 "MemoParser$Progress" "rulesAt" "[I", Cond.methodLink RX3 153 yX2_countNames, Cond.instanceMethod yX2_countNames, Cond.selects RX2 yX2_countNames yX2_countNames, Cond.code yX2_countNames cX2_countNames 3 none, Cond.fieldLink RX2 15 "MemoParser$Progress" "places" "[I"]
def wsX3_lookForStar_r5 : List Cond := [Cond.fieldLink RX2 28 "MemoParser$Progress" "names" "[I", Cond.methodLink RX3 162 yX2_askSeed, Cond.instanceMethod yX2_askSeed, Cond.selects RX2 yX2_askSeed yX2_askSeed, Cond.code yX2_askSeed cX2_askSeed 2 (some .int), Cond.fieldLink RX2 21 "MemoParser$Progress" "asked" "[Z", Cond.fieldLink RX2 18 "MemoParser$Progress" "seeds" "[I", Cond.methodLink RX2 66 yX2_countAsked, Cond.instanceMethod yX2_countAsked, Cond.selects RX2 yX2_countAsked yX2_countAsked, Cond.code yX2_countAsked cX2_countAsked 2 none, Cond.fieldLink RX2 31 "MemoParser$Progress" "earliestAsked" "[I", Cond.methodLink RX2 74 Lib.Math.min.name, Cond.static Lib.Math.min.name, Cond.code Lib.Math.min.name Lib.Math.min.code 2 (some .int), Cond.methodLink RX3 112 yX2_isFull, Cond.instanceMethod yX2_isFull, Cond.selects RX2 yX2_isFull yX2_isFull, Cond.code yX2_isFull cX2_isFull 1 (some .boolean), Cond.methodLink RX3 119 yX2_begin, Cond.instanceMethod yX2_begin, Cond.selects RX2 yX2_begin yX2_begin, Cond.code yX2_begin cX2_begin 4 (some .int), Cond.fieldLink RX2 9 "MemoParser$Progress" "rules" "[I"]
def wsX3_lookForStar_r6 : List Cond := [Cond.fieldLink RX2 34 "MemoParser$Progress" "numberOf" "[I", Cond.static yX5_bit, Cond.code yX5_bit cX5_bit 1 (some .int), Cond.methodLink RX3 129 yX3_finish, Cond.instanceMethod yX3_finish, Cond.selects RX3 yX3_finish yX3_finish, Cond.code yX3_finish cX3_finish 4 none, Cond.methodLink RX3 165 yX2_askedEarlierOne, Cond.instanceMethod yX2_askedEarlierOne, Cond.selects RX2 yX2_askedEarlierOne yX2_askedEarlierOne, Cond.code yX2_askedEarlierOne cX2_askedEarlierOne 2 (some .boolean), Cond.methodLink RX3 176 yX1_put, Cond.instanceMethod yX1_put, Cond.selects RX1 yX1_put yX1_put, Cond.code yX1_put cX1_put 5 none, Cond.fieldLink RX1 15 "MemoParser$Memory" "reaches" "[I", Cond.fieldLink RX1 18 "MemoParser$Memory" "names" "[I", Cond.methodLink RX3 180 yX2_end, Cond.instanceMethod yX2_end, Cond.selects RX2 yX2_end yX2_end, Cond.code yX2_end cX2_end 3 none, Cond.methodLink RX2 58 yX2_countLook, Cond.methodLink RX2 62 yX2_countNames, Cond.code yX3_lookForSequence cX3_lookForSequence 8 (some .int)]
def wsX3_lookForStar : List Cond := .code yX3_lookForStar cX3_lookForStar 7 (some .int) :: ((wsX3_lookForStar_r1 ++ (wsX3_lookForStar_r2 ++ (wsX3_lookForStar_r3 ++ (wsX3_lookForStar_r4 ++ (wsX3_lookForStar_r5 ++ wsX3_lookForStar_r6))))) ++ wsX30 ++ wsX00 ++ wsX20 ++ wsX40 ++ wsX10)
def wsX3_run_r1 : List Cond := [Cond.fieldLink RX3 18 "MemoParser$Search" "work" "I", Cond.fieldLink RX3 22 "MemoParser$Search" "hits" "I", Cond.fieldLink RX3 25 "MemoParser$Search" "growths" "I", Cond.fieldLink RX3 28 "MemoParser$Search" "farthest" "I", Cond.fieldLink RX3 43 "MemoParser$Search" "memory" "LMemoParser$Memory;", Cond.methodLink RX3 47 yX3_lookForRule, Cond.instanceMethod yX3_lookForRule, Cond.selects RX3 yX3_lookForRule yX3_lookForRule, Cond.initialized RX3, Cond.code yX3_lookForRule cX3_lookForRule 9 (some .int), Cond.fieldLink RX3 12 "MemoParser$Search" "progress" "LMemoParser$Progress;", Cond.fieldLink RX3 35 "MemoParser$Search" "grammar" "LMemoParser$Grammar;", Cond.fieldLink RX3 31 "MemoParser$Search" "cut" "Z", Cond.methodLink RX3 109 yX3_knownResult, Cond.instanceMethod yX3_knownResult, Cond.selects RX3 yX3_knownResult yX3_knownResult, Cond.code yX3_knownResult cX3_knownResult 5 (some .int), Cond.methodLink RX3 133 yX0_has, Cond.instanceMethod yX0_has, Cond.selects RX0 yX0_has yX0_has, Cond.initialized RX0, Cond.code yX0_has cX0_has 2 (some .boolean), Cond.fieldLink RX0 24 "MemoParser$Grammar" "count" "I", Cond.static yX5_cell]
def wsX3_run_r2 : List Cond := [Cond.initialized RX5, Cond.code yX5_cell cX5_cell 2 (some .int), Cond.methodLink RX3 140 yX1_holds, Cond.instanceMethod yX1_holds, Cond.selects RX1 yX1_holds yX1_holds, Cond.initialized RX1, Cond.code yX1_holds cX1_holds 2 (some .boolean), Cond.fieldLink RX1 9 "MemoParser$Memory" "results" "[I", Cond.methodLink RX3 146 yX2_hasOneOf, Cond.instanceMethod yX2_hasOneOf, Cond.selects RX2 yX2_hasOneOf yX2_hasOneOf, Cond.initialized RX2, Cond.code yX2_hasOneOf cX2_hasOneOf 3 (some .boolean), Cond.fieldLink RX2 37 "MemoParser$Progress" "rulesAt" "[I", Cond.methodLink RX3 90 yX2_countLook, Cond.instanceMethod yX2_countLook, Cond.selects RX2 yX2_countLook yX2_countLook, Cond.code yX2_countLook cX2_countLook 2 none, Cond.fieldLink RX2 40 "MemoParser$Progress" "open" "I", Cond.fieldLink RX2 25 "MemoParser$Progress" "reaches" "[I", Cond.methodLink RX2 69 Lib.Math.max.name, Cond.static Lib.Math.max.name, Cond.initialized "java/lang/Math", Cond.code Lib.Math.max.name Lib.Math.max.code 2 (some .int)]
def wsX3_run_r3 : List Cond := [Cond.methodLink RX3 153 yX2_countNames, Cond.instanceMethod yX2_countNames, Cond.selects RX2 yX2_countNames yX2_countNames, Cond.code yX2_countNames cX2_countNames 3 none, Cond.fieldLink RX2 15 "MemoParser$Progress" "places" "[I", Cond.fieldLink RX2 28 "MemoParser$Progress" "names" "[I", Cond.methodLink RX3 162 yX2_askSeed, Cond.instanceMethod yX2_askSeed, Cond.selects RX2 yX2_askSeed yX2_askSeed, Cond.code yX2_askSeed cX2_askSeed 2 (some .int), Cond.fieldLink RX2 21 "MemoParser$Progress" "asked" "[Z", Cond.fieldLink RX2 18 "MemoParser$Progress" "seeds" "[I", Cond.methodLink RX2 66 yX2_countAsked, Cond.instanceMethod yX2_countAsked, Cond.selects RX2 yX2_countAsked yX2_countAsked, Cond.code yX2_countAsked cX2_countAsked 2 none, Cond.fieldLink RX2 31 "MemoParser$Progress" "earliestAsked" "[I", Cond.methodLink RX2 74 Lib.Math.min.name, Cond.static Lib.Math.min.name, Cond.code Lib.Math.min.name Lib.Math.min.code 2 (some .int), Cond.methodLink RX3 112 yX2_isFull, Cond.instanceMethod yX2_isFull, Cond.selects RX2 yX2_isFull yX2_isFull, Cond.code yX2_isFull cX2_isFull 1 (some .boolean)]
def wsX3_run_r4 : List Cond := [Cond.methodLink RX3 119 yX2_begin, Cond.instanceMethod yX2_begin, Cond.selects RX2 yX2_begin yX2_begin, Cond.code yX2_begin cX2_begin 4 (some .int), Cond.fieldLink RX2 9 "MemoParser$Progress" "rules" "[I", Cond.fieldLink RX2 34 "MemoParser$Progress" "numberOf" "[I", Cond.static yX5_bit, Cond.code yX5_bit cX5_bit 1 (some .int), Cond.methodLink RX3 106 yX3_look, Cond.instanceMethod yX3_look, Cond.selects RX3 yX3_look yX3_look, Cond.methodLink RX3 129 yX3_finish, Cond.instanceMethod yX3_finish, Cond.selects RX3 yX3_finish yX3_finish, Cond.code yX3_finish cX3_finish 4 none, Cond.methodLink RX3 165 yX2_askedEarlierOne, Cond.instanceMethod yX2_askedEarlierOne, Cond.selects RX2 yX2_askedEarlierOne yX2_askedEarlierOne, Cond.code yX2_askedEarlierOne cX2_askedEarlierOne 2 (some .boolean), Cond.methodLink RX3 176 yX1_put, Cond.instanceMethod yX1_put, Cond.selects RX1 yX1_put yX1_put, Cond.code yX1_put cX1_put 5 none, Cond.fieldLink RX1 15 "MemoParser$Memory" "reaches" "[I"]
def wsX3_run_r5 : List Cond := [Cond.fieldLink RX1 18 "MemoParser$Memory" "names" "[I", Cond.methodLink RX3 180 yX2_end, Cond.instanceMethod yX2_end, Cond.selects RX2 yX2_end yX2_end, Cond.code yX2_end cX2_end 3 none, Cond.methodLink RX2 58 yX2_countLook, Cond.methodLink RX2 62 yX2_countNames, Cond.code yX3_look cX3_look 6 (some .int), Cond.methodLink RX3 68 yX3_lookForRange, Cond.instanceMethod yX3_lookForRange, Cond.selects RX3 yX3_lookForRange yX3_lookForRange, Cond.code yX3_lookForRange cX3_lookForRange 5 (some .int), Cond.fieldLink RX3 39 "MemoParser$Search" "text" "LMemoParser$Text;", Cond.methodLink RX3 100 Lib.Math.max.name, Cond.methodLink RX3 94 yX4_byteOrNone, Cond.instanceMethod yX4_byteOrNone, Cond.selects RX4 yX4_byteOrNone yX4_byteOrNone, Cond.initialized RX4, Cond.code yX4_byteOrNone cX4_byteOrNone 2 (some .int), Cond.fieldLink RX4 9 "MemoParser$Text" "bytes" "[I", Cond.methodLink RX4 19 yX4_hasByte, Cond.instanceMethod yX4_hasByte, Cond.selects RX4 yX4_hasByte yX4_hasByte, Cond.code yX4_hasByte cX4_hasByte 2 (some .boolean)]
def wsX3_run_r6 : List Cond := [Cond.fieldLink RX4 15 "MemoParser$Text" "size" "I", Cond.methodLink RX3 71 yX3_lookForSequence, Cond.instanceMethod yX3_lookForSequence, Cond.selects RX3 yX3_lookForSequence yX3_lookForSequence, Cond.methodLink RX3 75 yX3_lookForChoice, Cond.instanceMethod yX3_lookForChoice, Cond.selects RX3 yX3_lookForChoice yX3_lookForChoice, Cond.methodLink RX3 78 yX3_lookForStar, Cond.instanceMethod yX3_lookForStar, Cond.selects RX3 yX3_lookForStar yX3_lookForStar, Cond.methodLink RX3 81 yX3_lookForOptional, Cond.instanceMethod yX3_lookForOptional, Cond.selects RX3 yX3_lookForOptional yX3_lookForOptional, Cond.methodLink RX3 84 yX3_lookForAnd, Cond.instanceMethod yX3_lookForAnd, Cond.selects RX3 yX3_lookForAnd yX3_lookForAnd, Cond.methodLink RX3 87 yX3_lookForNot, Cond.instanceMethod yX3_lookForNot, Cond.selects RX3 yX3_lookForNot yX3_lookForNot, Cond.code yX3_lookForAnd cX3_lookForAnd 5 (some .int), Cond.code yX3_lookForChoice cX3_lookForChoice 6 (some .int), Cond.code yX3_lookForNot cX3_lookForNot 5 (some .int), Cond.code yX3_lookForOptional cX3_lookForOptional 5 (some .int), Cond.code yX3_lookForSequence cX3_lookForSequence 8 (some .int)]
def wsX3_run_r7 : List Cond := [Cond.code yX3_lookForStar cX3_lookForStar 7 (some .int), Cond.methodLink RX3 51 yX1_clear, Cond.instanceMethod yX1_clear, Cond.selects RX1 yX1_clear yX1_clear, Cond.code yX1_clear cX1_clear 2 none, Cond.methodLink RX1 27 yX1_drop, Cond.instanceMethod yX1_drop, Cond.selects RX1 yX1_drop yX1_drop, Cond.code yX1_drop cX1_drop 2 none, Cond.methodLink RX1 43 yX1_put]
def wsX3_run : List Cond := .code yX3_run cX3_run 4 (some .int) :: ((wsX3_run_r1 ++ (wsX3_run_r2 ++ (wsX3_run_r3 ++ (wsX3_run_r4 ++ (wsX3_run_r5 ++ (wsX3_run_r6 ++ wsX3_run_r7)))))) ++ wsX30 ++ wsX00 ++ wsX20 ++ wsX40 ++ wsX10)
def wsX4_init : List Cond := .code yX4_init cX4_init 1 none :: ([.methodLink RX4 3 objectInit, .instanceMethod objectInit, .code objectInit ⟨#[0xb1]⟩ 1 none, .arrayClass .int, .fieldLink RX4 9 "MemoParser$Text" "bytes" "[I", .fieldLink RX4 15 "MemoParser$Text" "size" "I"] ++ wsX40)
def wsX5_packedByte : List Cond := .code yX5_packedByte cX5_packedByte 3 (some .int) :: ([])
def wsX5_countBytes : List Cond := .code yX5_countBytes cX5_countBytes 4 (some .int) :: ([.methodLink RX5 186 yX5_packedByte, .static yX5_packedByte, .initialized RX5, .code yX5_packedByte cX5_packedByte 3 (some .int)])
def wsX4_splice : List Cond := .code yX4_splice cX4_splice 10 none :: ([.fieldLink RX4 9 "MemoParser$Text" "bytes" "[I", .fieldLink RX4 15 "MemoParser$Text" "size" "I", .methodLink RX4 27 arraycopyName, .native arraycopyName, .static arraycopyName, .initialized "java/lang/System", .static yX5_countBytes, .initialized RX5, .code yX5_countBytes cX5_countBytes 4 (some .int), .methodLink RX5 186 yX5_packedByte, .static yX5_packedByte, .code yX5_packedByte cX5_packedByte 3 (some .int)] ++ wsX40)
def wsX4_addToDigest : List Cond := .code yX4_addToDigest cX4_addToDigest 6 (some .long) :: ([.fieldLink RX4 15 "MemoParser$Text" "size" "I", .fieldLink RX4 9 "MemoParser$Text" "bytes" "[I", .static yX5_mix, .initialized RX5, .code yX5_mix cX5_mix 3 (some .long), .constantLong RX5 190 (31)] ++ wsX40)
def wsX5_init_r1 : List Cond := [Cond.methodLink RX5 3 objectInit, Cond.instanceMethod objectInit, Cond.code objectInit ⟨#[0xb1]⟩ 1 none, Cond.classLink RX5 9 RX0, Cond.instantiable RX0 8, Cond.initialized RX0, Cond.fieldLink RX5 12 "MemoParser" "grammar" "LMemoParser$Grammar;", Cond.classLink RX5 16 RX4, Cond.instantiable RX4 2, Cond.initialized RX4, Cond.fieldLink RX5 19 "MemoParser" "text" "LMemoParser$Text;", Cond.classLink RX5 23 RX1, Cond.instantiable RX1 3, Cond.initialized RX1, Cond.fieldLink RX5 26 "MemoParser" "memory" "LMemoParser$Memory;", Cond.classLink RX5 30 RX3, Cond.instantiable RX3 9, Cond.initialized RX3, Cond.fieldLink RX5 35 "MemoParser" "search" "LMemoParser$Search;", Cond.methodLink RX5 11 yX0_init, Cond.instanceMethod yX0_init, Cond.code yX0_init cX0_init 1 none, Cond.methodLink RX0 3 objectInit, Cond.arrayClass .int]
def wsX5_init_r2 : List Cond := [Cond.fieldLink RX0 9 "MemoParser$Grammar" "kinds" "[I", Cond.fieldLink RX0 15 "MemoParser$Grammar" "firsts" "[I", Cond.fieldLink RX0 18 "MemoParser$Grammar" "seconds" "[I", Cond.fieldLink RX0 21 "MemoParser$Grammar" "ruleExpressions" "[I", Cond.fieldLink RX0 24 "MemoParser$Grammar" "count" "I", Cond.arrayClass .boolean, Cond.fieldLink RX0 28 "MemoParser$Grammar" "empties" "[Z", Cond.fieldLink RX0 32 "MemoParser$Grammar" "emptyRules" "[Z", Cond.fieldLink RX0 35 "MemoParser$Grammar" "beginnings" "[I", Cond.methodLink RX0 38 yJ7_fill_53178, Cond.static yJ7_fill_53178, Cond.initialized RJ7, Cond.code yJ7_fill_53178 cJ7_fill_53178 4 none, Cond.instanceMethod yX4_init, Cond.code yX4_init cX4_init 1 none, Cond.methodLink RX4 3 objectInit, Cond.fieldLink RX4 9 "MemoParser$Text" "bytes" "[I", Cond.fieldLink RX4 15 "MemoParser$Text" "size" "I", Cond.methodLink RX5 25 yX1_init, Cond.instanceMethod yX1_init, Cond.code yX1_init cX1_init 1 none, Cond.methodLink RX1 3 objectInit, Cond.fieldLink RX1 9 "MemoParser$Memory" "results" "[I", Cond.fieldLink RX1 15 "MemoParser$Memory" "reaches" "[I"]
def wsX5_init_r3 : List Cond := [Cond.fieldLink RX1 18 "MemoParser$Memory" "names" "[I", Cond.methodLink RX1 21 yJ7_fill_53178, Cond.methodLink RX5 32 yX3_init, Cond.instanceMethod yX3_init, Cond.code yX3_init cX3_init 4 none, Cond.methodLink RX3 3 objectInit, Cond.classLink RX3 9 RX2, Cond.instantiable RX2 10, Cond.initialized RX2, Cond.fieldLink RX3 12 "MemoParser$Search" "progress" "LMemoParser$Progress;", Cond.fieldLink RX3 18 "MemoParser$Search" "work" "I", Cond.fieldLink RX3 22 "MemoParser$Search" "hits" "I", Cond.fieldLink RX3 25 "MemoParser$Search" "growths" "I", Cond.fieldLink RX3 28 "MemoParser$Search" "farthest" "I", Cond.fieldLink RX3 31 "MemoParser$Search" "cut" "Z", Cond.fieldLink RX3 35 "MemoParser$Search" "grammar" "LMemoParser$Grammar;", Cond.fieldLink RX3 39 "MemoParser$Search" "text" "LMemoParser$Text;", Cond.fieldLink RX3 43 "MemoParser$Search" "memory" "LMemoParser$Memory;", Cond.methodLink RX3 11 yX2_init, Cond.instanceMethod yX2_init, Cond.code yX2_init cX2_init 1 none, Cond.methodLink RX2 3 objectInit, Cond.fieldLink RX2 9 "MemoParser$Progress" "rules" "[I", Cond.fieldLink RX2 15 "MemoParser$Progress" "places" "[I"]
def wsX5_init_r4 : List Cond := [Cond.fieldLink RX2 18 "MemoParser$Progress" "seeds" "[I", Cond.fieldLink RX2 21 "MemoParser$Progress" "asked" "[Z", Cond.fieldLink RX2 25 "MemoParser$Progress" "reaches" "[I", Cond.fieldLink RX2 28 "MemoParser$Progress" "names" "[I", Cond.fieldLink RX2 31 "MemoParser$Progress" "earliestAsked" "[I", Cond.fieldLink RX2 34 "MemoParser$Progress" "numberOf" "[I", Cond.fieldLink RX2 37 "MemoParser$Progress" "rulesAt" "[I", Cond.fieldLink RX2 40 "MemoParser$Progress" "open" "I", Cond.methodLink RX2 44 yJ7_fill_53178]
def wsX5_init : List Cond := .code yX5_init cX5_init 1 none :: ((wsX5_init_r1 ++ (wsX5_init_r2 ++ (wsX5_init_r3 ++ wsX5_init_r4))) ++ wsX00 ++ wsX50 ++ wsX40 ++ wsX10 ++ wsX30 ++ wsX20)
def wsX5_refuseIfFull : List Cond := .code yX5_refuseIfFull cX5_refuseIfFull 1 none :: ([.classLink RX5 105 "java/lang/IllegalStateException", .initialized "java/lang/IllegalStateException", .fieldLink RX5 12 "MemoParser" "grammar" "LMemoParser$Grammar;", .methodLink RX5 173 yX0_isFull, .instanceMethod yX0_isFull, .selects RX0 yX0_isFull yX0_isFull, .initialized RX0, .code yX0_isFull cX0_isFull 1 (some .boolean), .fieldLink RX0 24 "MemoParser$Grammar" "count" "I"] ++ wsX50 ++ wsX00 ++ (vx_atS RX5 109 "java/lang/IllegalStateException" ["java/lang/RuntimeException", "java/lang/Exception"]).filter goodWord)
def wsX5_plain : List Cond := .code yX5_plain cX5_plain 2 (some .int) :: ([.classLink RX5 39 "java/lang/IllegalArgumentException", .initialized "java/lang/IllegalArgumentException", .fieldLink RX5 12 "MemoParser" "grammar" "LMemoParser$Grammar;", .methodLink RX5 46 yX5_refuseIfFull, .instanceMethod yX5_refuseIfFull, .selects RX5 yX5_refuseIfFull yX5_refuseIfFull, .initialized RX5, .code yX5_refuseIfFull cX5_refuseIfFull 1 none, .classLink RX5 105 "java/lang/IllegalStateException", .initialized "java/lang/IllegalStateException", .methodLink RX5 173 yX0_isFull, .instanceMethod yX0_isFull, .selects RX0 yX0_isFull yX0_isFull, .initialized RX0, .code yX0_isFull cX0_isFull 1 (some .boolean), .fieldLink RX0 24 "MemoParser$Grammar" "count" "I", .methodLink RX5 49 yX0_add, .instanceMethod yX0_add, .selects RX0 yX0_add yX0_add, .code yX0_add cX0_add 5 (some .int), .fieldLink RX0 9 "MemoParser$Grammar" "kinds" "[I", .fieldLink RX0 15 "MemoParser$Grammar" "firsts" "[I", .fieldLink RX0 18 "MemoParser$Grammar" "seconds" "[I"] ++ wsX50 ++ wsX00 ++ (vx_atS RX5 43 "java/lang/IllegalArgumentException" ["java/lang/RuntimeException", "java/lang/Exception"]).filter goodWord ++ (vx_atS RX5 109 "java/lang/IllegalStateException" ["java/lang/RuntimeException", "java/lang/Exception"]).filter goodWord)
def wsX5_isByte : List Cond := .code yX5_isByte cX5_isByte 1 (some .boolean) :: ([])
def wsX5_range_r1 : List Cond := [Cond.classLink RX5 39 "java/lang/IllegalArgumentException", Cond.initialized "java/lang/IllegalArgumentException", Cond.fieldLink RX5 12 "MemoParser" "grammar" "LMemoParser$Grammar;", Cond.methodLink RX5 53 yX5_isByte, Cond.static yX5_isByte, Cond.initialized RX5, Cond.code yX5_isByte cX5_isByte 1 (some .boolean), Cond.methodLink RX5 46 yX5_refuseIfFull, Cond.instanceMethod yX5_refuseIfFull, Cond.selects RX5 yX5_refuseIfFull yX5_refuseIfFull, Cond.code yX5_refuseIfFull cX5_refuseIfFull 1 none, Cond.classLink RX5 105 "java/lang/IllegalStateException", Cond.initialized "java/lang/IllegalStateException", Cond.methodLink RX5 173 yX0_isFull, Cond.instanceMethod yX0_isFull, Cond.selects RX0 yX0_isFull yX0_isFull, Cond.initialized RX0, Cond.code yX0_isFull cX0_isFull 1 (some .boolean), Cond.fieldLink RX0 24 "MemoParser$Grammar" "count" "I", Cond.methodLink RX5 49 yX0_add, Cond.instanceMethod yX0_add, Cond.selects RX0 yX0_add yX0_add, Cond.code yX0_add cX0_add 5 (some .int), Cond.fieldLink RX0 9 "MemoParser$Grammar" "kinds" "[I"]
def wsX5_range_r2 : List Cond := [Cond.fieldLink RX0 15 "MemoParser$Grammar" "firsts" "[I", Cond.fieldLink RX0 18 "MemoParser$Grammar" "seconds" "[I"]
def wsX5_range : List Cond := .code yX5_range cX5_range 3 (some .int) :: ((wsX5_range_r1 ++ wsX5_range_r2) ++ wsX50 ++ wsX00 ++ (vx_atS RX5 43 "java/lang/IllegalArgumentException" ["java/lang/RuntimeException", "java/lang/Exception"]).filter goodWord ++ (vx_atS RX5 109 "java/lang/IllegalStateException" ["java/lang/RuntimeException", "java/lang/Exception"]).filter goodWord)
def wsX5_refuseUnknownRule : List Cond := .code yX5_refuseUnknownRule cX5_refuseUnknownRule 1 none :: ([.classLink RX5 90 "java/lang/IndexOutOfBoundsException", .initialized "java/lang/IndexOutOfBoundsException"] ++ (vx_atS RX5 94 "java/lang/IndexOutOfBoundsException" ["java/lang/RuntimeException", "java/lang/Exception"]).filter goodWord)
def wsX5_rule_r1 : List Cond := [Cond.fieldLink RX5 12 "MemoParser" "grammar" "LMemoParser$Grammar;", Cond.methodLink RX5 59 yX5_refuseUnknownRule, Cond.static yX5_refuseUnknownRule, Cond.initialized RX5, Cond.code yX5_refuseUnknownRule cX5_refuseUnknownRule 1 none, Cond.classLink RX5 90 "java/lang/IndexOutOfBoundsException", Cond.initialized "java/lang/IndexOutOfBoundsException", Cond.methodLink RX5 46 yX5_refuseIfFull, Cond.instanceMethod yX5_refuseIfFull, Cond.selects RX5 yX5_refuseIfFull yX5_refuseIfFull, Cond.code yX5_refuseIfFull cX5_refuseIfFull 1 none, Cond.classLink RX5 105 "java/lang/IllegalStateException", Cond.initialized "java/lang/IllegalStateException", Cond.methodLink RX5 173 yX0_isFull, Cond.instanceMethod yX0_isFull, Cond.selects RX0 yX0_isFull yX0_isFull, Cond.initialized RX0, Cond.code yX0_isFull cX0_isFull 1 (some .boolean), Cond.fieldLink RX0 24 "MemoParser$Grammar" "count" "I", Cond.methodLink RX5 49 yX0_add, Cond.instanceMethod yX0_add, Cond.selects RX0 yX0_add yX0_add, Cond.code yX0_add cX0_add 5 (some .int), Cond.fieldLink RX0 9 "MemoParser$Grammar" "kinds" "[I"]
def wsX5_rule_r2 : List Cond := [Cond.fieldLink RX0 15 "MemoParser$Grammar" "firsts" "[I", Cond.fieldLink RX0 18 "MemoParser$Grammar" "seconds" "[I"]
def wsX5_rule : List Cond := .code yX5_rule cX5_rule 2 (some .int) :: ((wsX5_rule_r1 ++ wsX5_rule_r2) ++ wsX50 ++ wsX00 ++ (vx_atS RX5 94 "java/lang/IndexOutOfBoundsException" ["java/lang/RuntimeException", "java/lang/Exception"]).filter goodWord ++ (vx_atS RX5 109 "java/lang/IllegalStateException" ["java/lang/RuntimeException", "java/lang/Exception"]).filter goodWord)
def wsX5_refuseUnknownExpression : List Cond := .code yX5_refuseUnknownExpression cX5_refuseUnknownExpression 2 none :: ([.classLink RX5 90 "java/lang/IndexOutOfBoundsException", .initialized "java/lang/IndexOutOfBoundsException", .fieldLink RX5 12 "MemoParser" "grammar" "LMemoParser$Grammar;", .methodLink RX5 179 yX0_has, .instanceMethod yX0_has, .selects RX0 yX0_has yX0_has, .initialized RX0, .code yX0_has cX0_has 2 (some .boolean), .fieldLink RX0 24 "MemoParser$Grammar" "count" "I"] ++ wsX50 ++ wsX00 ++ (vx_atS RX5 94 "java/lang/IndexOutOfBoundsException" ["java/lang/RuntimeException", "java/lang/Exception"]).filter goodWord)
def wsX5_join_r1 : List Cond := [Cond.classLink RX5 39 "java/lang/IllegalArgumentException", Cond.initialized "java/lang/IllegalArgumentException", Cond.fieldLink RX5 12 "MemoParser" "grammar" "LMemoParser$Grammar;", Cond.methodLink RX5 63 yX5_refuseUnknownExpression, Cond.instanceMethod yX5_refuseUnknownExpression, Cond.selects RX5 yX5_refuseUnknownExpression yX5_refuseUnknownExpression, Cond.initialized RX5, Cond.code yX5_refuseUnknownExpression cX5_refuseUnknownExpression 2 none, Cond.classLink RX5 90 "java/lang/IndexOutOfBoundsException", Cond.initialized "java/lang/IndexOutOfBoundsException", Cond.methodLink RX5 179 yX0_has, Cond.instanceMethod yX0_has, Cond.selects RX0 yX0_has yX0_has, Cond.initialized RX0, Cond.code yX0_has cX0_has 2 (some .boolean), Cond.fieldLink RX0 24 "MemoParser$Grammar" "count" "I", Cond.methodLink RX5 46 yX5_refuseIfFull, Cond.instanceMethod yX5_refuseIfFull, Cond.selects RX5 yX5_refuseIfFull yX5_refuseIfFull, Cond.code yX5_refuseIfFull cX5_refuseIfFull 1 none, Cond.classLink RX5 105 "java/lang/IllegalStateException", Cond.initialized "java/lang/IllegalStateException", Cond.methodLink RX5 173 yX0_isFull, Cond.instanceMethod yX0_isFull]
def wsX5_join_r2 : List Cond := [Cond.selects RX0 yX0_isFull yX0_isFull, Cond.code yX0_isFull cX0_isFull 1 (some .boolean), Cond.methodLink RX5 49 yX0_add, Cond.instanceMethod yX0_add, Cond.selects RX0 yX0_add yX0_add, Cond.code yX0_add cX0_add 5 (some .int), Cond.fieldLink RX0 9 "MemoParser$Grammar" "kinds" "[I", Cond.fieldLink RX0 15 "MemoParser$Grammar" "firsts" "[I", Cond.fieldLink RX0 18 "MemoParser$Grammar" "seconds" "[I"]
def wsX5_join : List Cond := .code yX5_join cX5_join 4 (some .int) :: ((wsX5_join_r1 ++ wsX5_join_r2) ++ wsX50 ++ wsX00 ++ (vx_atS RX5 43 "java/lang/IllegalArgumentException" ["java/lang/RuntimeException", "java/lang/Exception"]).filter goodWord ++ (vx_atS RX5 94 "java/lang/IndexOutOfBoundsException" ["java/lang/RuntimeException", "java/lang/Exception"]).filter goodWord ++ (vx_atS RX5 109 "java/lang/IllegalStateException" ["java/lang/RuntimeException", "java/lang/Exception"]).filter goodWord)
def wsX5_wrap_r1 : List Cond := [Cond.classLink RX5 39 "java/lang/IllegalArgumentException", Cond.initialized "java/lang/IllegalArgumentException", Cond.fieldLink RX5 12 "MemoParser" "grammar" "LMemoParser$Grammar;", Cond.methodLink RX5 63 yX5_refuseUnknownExpression, Cond.instanceMethod yX5_refuseUnknownExpression, Cond.selects RX5 yX5_refuseUnknownExpression yX5_refuseUnknownExpression, Cond.initialized RX5, Cond.code yX5_refuseUnknownExpression cX5_refuseUnknownExpression 2 none, Cond.classLink RX5 90 "java/lang/IndexOutOfBoundsException", Cond.initialized "java/lang/IndexOutOfBoundsException", Cond.methodLink RX5 179 yX0_has, Cond.instanceMethod yX0_has, Cond.selects RX0 yX0_has yX0_has, Cond.initialized RX0, Cond.code yX0_has cX0_has 2 (some .boolean), Cond.fieldLink RX0 24 "MemoParser$Grammar" "count" "I", Cond.methodLink RX5 46 yX5_refuseIfFull, Cond.instanceMethod yX5_refuseIfFull, Cond.selects RX5 yX5_refuseIfFull yX5_refuseIfFull, Cond.code yX5_refuseIfFull cX5_refuseIfFull 1 none, Cond.classLink RX5 105 "java/lang/IllegalStateException", Cond.initialized "java/lang/IllegalStateException", Cond.methodLink RX5 173 yX0_isFull, Cond.instanceMethod yX0_isFull]
def wsX5_wrap_r2 : List Cond := [Cond.selects RX0 yX0_isFull yX0_isFull, Cond.code yX0_isFull cX0_isFull 1 (some .boolean), Cond.methodLink RX5 49 yX0_add, Cond.instanceMethod yX0_add, Cond.selects RX0 yX0_add yX0_add, Cond.code yX0_add cX0_add 5 (some .int), Cond.fieldLink RX0 9 "MemoParser$Grammar" "kinds" "[I", Cond.fieldLink RX0 15 "MemoParser$Grammar" "firsts" "[I", Cond.fieldLink RX0 18 "MemoParser$Grammar" "seconds" "[I"]
def wsX5_wrap : List Cond := .code yX5_wrap cX5_wrap 3 (some .int) :: ((wsX5_wrap_r1 ++ wsX5_wrap_r2) ++ wsX50 ++ wsX00 ++ (vx_atS RX5 43 "java/lang/IllegalArgumentException" ["java/lang/RuntimeException", "java/lang/Exception"]).filter goodWord ++ (vx_atS RX5 94 "java/lang/IndexOutOfBoundsException" ["java/lang/RuntimeException", "java/lang/Exception"]).filter goodWord ++ (vx_atS RX5 109 "java/lang/IllegalStateException" ["java/lang/RuntimeException", "java/lang/Exception"]).filter goodWord)
def wsX5_define_r1 : List Cond := [Cond.fieldLink RX5 26 "MemoParser" "memory" "LMemoParser$Memory;", Cond.fieldLink RX5 12 "MemoParser" "grammar" "LMemoParser$Grammar;", Cond.methodLink RX5 59 yX5_refuseUnknownRule, Cond.static yX5_refuseUnknownRule, Cond.initialized RX5, Cond.code yX5_refuseUnknownRule cX5_refuseUnknownRule 1 none, Cond.classLink RX5 90 "java/lang/IndexOutOfBoundsException", Cond.initialized "java/lang/IndexOutOfBoundsException", Cond.methodLink RX5 63 yX5_refuseUnknownExpression, Cond.instanceMethod yX5_refuseUnknownExpression, Cond.selects RX5 yX5_refuseUnknownExpression yX5_refuseUnknownExpression, Cond.code yX5_refuseUnknownExpression cX5_refuseUnknownExpression 2 none, Cond.methodLink RX5 179 yX0_has, Cond.instanceMethod yX0_has, Cond.selects RX0 yX0_has yX0_has, Cond.initialized RX0, Cond.code yX0_has cX0_has 2 (some .boolean), Cond.fieldLink RX0 24 "MemoParser$Grammar" "count" "I", Cond.methodLink RX5 70 yX1_clear, Cond.instanceMethod yX1_clear, Cond.selects RX1 yX1_clear yX1_clear, Cond.initialized RX1, Cond.code yX1_clear cX1_clear 2 none, Cond.methodLink RX1 27 yX1_drop]
def wsX5_define_r2 : List Cond := [Cond.instanceMethod yX1_drop, Cond.selects RX1 yX1_drop yX1_drop, Cond.code yX1_drop cX1_drop 2 none, Cond.methodLink RX1 43 yX1_put, Cond.instanceMethod yX1_put, Cond.selects RX1 yX1_put yX1_put, Cond.code yX1_put cX1_put 5 none, Cond.fieldLink RX1 9 "MemoParser$Memory" "results" "[I", Cond.fieldLink RX1 15 "MemoParser$Memory" "reaches" "[I", Cond.fieldLink RX1 18 "MemoParser$Memory" "names" "[I", Cond.methodLink RX5 73 yX0_give, Cond.instanceMethod yX0_give, Cond.selects RX0 yX0_give yX0_give, Cond.code yX0_give cX0_give 4 (some .int), Cond.fieldLink RX0 21 "MemoParser$Grammar" "ruleExpressions" "[I"]
def wsX5_define : List Cond := .code yX5_define cX5_define 3 (some .int) :: ((wsX5_define_r1 ++ wsX5_define_r2) ++ wsX50 ++ wsX00 ++ wsX10 ++ (vx_atS RX5 94 "java/lang/IndexOutOfBoundsException" ["java/lang/RuntimeException", "java/lang/Exception"]).filter goodWord)
def wsX5_expressionCount : List Cond := .code yX5_expressionCount cX5_expressionCount 1 (some .int) :: ([.fieldLink RX5 12 "MemoParser" "grammar" "LMemoParser$Grammar;"] ++ wsX50 ++ wsX00)
def wsX5_canBeEmpty_r1 : List Cond := [Cond.fieldLink RX5 12 "MemoParser" "grammar" "LMemoParser$Grammar;", Cond.methodLink RX5 63 yX5_refuseUnknownExpression, Cond.instanceMethod yX5_refuseUnknownExpression, Cond.selects RX5 yX5_refuseUnknownExpression yX5_refuseUnknownExpression, Cond.initialized RX5, Cond.code yX5_refuseUnknownExpression cX5_refuseUnknownExpression 2 none, Cond.classLink RX5 90 "java/lang/IndexOutOfBoundsException", Cond.initialized "java/lang/IndexOutOfBoundsException", Cond.methodLink RX5 179 yX0_has, Cond.instanceMethod yX0_has, Cond.selects RX0 yX0_has yX0_has, Cond.initialized RX0, Cond.code yX0_has cX0_has 2 (some .boolean), Cond.fieldLink RX0 24 "MemoParser$Grammar" "count" "I", Cond.methodLink RX5 81 yX0_succeedsInPlace, Cond.instanceMethod yX0_succeedsInPlace, Cond.selects RX0 yX0_succeedsInPlace yX0_succeedsInPlace, Cond.code yX0_succeedsInPlace cX0_succeedsInPlace 2 (some .boolean), Cond.fieldLink RX0 28 "MemoParser$Grammar" "empties" "[Z", Cond.methodLink RX0 44 yX0_findEmpties, Cond.instanceMethod yX0_findEmpties, Cond.selects RX0 yX0_findEmpties yX0_findEmpties, Cond.code yX0_findEmpties cX0_findEmpties 4 none, Cond.fieldLink RX0 32 "MemoParser$Grammar" "emptyRules" "[Z"]
def wsX5_canBeEmpty_r2 : List Cond := [Cond.methodLink RX0 61 yJ7_fill_49daa, Cond.static yJ7_fill_49daa, Cond.initialized RJ7, Cond.code yJ7_fill_49daa cJ7_fill_49daa 4 none, Cond.methodLink RX0 64 yX0_isEmptyByForm, Cond.instanceMethod yX0_isEmptyByForm, Cond.selects RX0 yX0_isEmptyByForm yX0_isEmptyByForm, Cond.code yX0_isEmptyByForm cX0_isEmptyByForm 4 (some .boolean), Cond.fieldLink RX0 15 "MemoParser$Grammar" "firsts" "[I", Cond.fieldLink RX0 18 "MemoParser$Grammar" "seconds" "[I", Cond.fieldLink RX0 9 "MemoParser$Grammar" "kinds" "[I", Cond.methodLink RX0 68 yX0_addEmptyRules, Cond.instanceMethod yX0_addEmptyRules, Cond.selects RX0 yX0_addEmptyRules yX0_addEmptyRules, Cond.code yX0_addEmptyRules cX0_addEmptyRules 4 (some .boolean), Cond.fieldLink RX0 21 "MemoParser$Grammar" "ruleExpressions" "[I", Cond.methodLink RX0 72 yX0_has]
def wsX5_canBeEmpty : List Cond := .code yX5_canBeEmpty cX5_canBeEmpty 2 (some .boolean) :: ((wsX5_canBeEmpty_r1 ++ wsX5_canBeEmpty_r2) ++ wsX50 ++ wsX00 ++ (vx_atS RX5 94 "java/lang/IndexOutOfBoundsException" ["java/lang/RuntimeException", "java/lang/Exception"]).filter goodWord)
def wsX5_isLeftRecursive_r1 : List Cond := [Cond.fieldLink RX5 12 "MemoParser" "grammar" "LMemoParser$Grammar;", Cond.methodLink RX5 59 yX5_refuseUnknownRule, Cond.static yX5_refuseUnknownRule, Cond.initialized RX5, Cond.code yX5_refuseUnknownRule cX5_refuseUnknownRule 1 none, Cond.classLink RX5 90 "java/lang/IndexOutOfBoundsException", Cond.initialized "java/lang/IndexOutOfBoundsException", Cond.methodLink RX5 84 yX0_beginsWithItself, Cond.instanceMethod yX0_beginsWithItself, Cond.selects RX0 yX0_beginsWithItself yX0_beginsWithItself, Cond.initialized RX0, Cond.code yX0_beginsWithItself cX0_beginsWithItself 5 (some .boolean), Cond.methodLink RX0 44 yX0_findEmpties, Cond.instanceMethod yX0_findEmpties, Cond.selects RX0 yX0_findEmpties yX0_findEmpties, Cond.code yX0_findEmpties cX0_findEmpties 4 none, Cond.fieldLink RX0 32 "MemoParser$Grammar" "emptyRules" "[Z", Cond.fieldLink RX0 24 "MemoParser$Grammar" "count" "I", Cond.fieldLink RX0 28 "MemoParser$Grammar" "empties" "[Z", Cond.methodLink RX0 61 yJ7_fill_49daa, Cond.static yJ7_fill_49daa, Cond.initialized RJ7, Cond.code yJ7_fill_49daa cJ7_fill_49daa 4 none, Cond.methodLink RX0 64 yX0_isEmptyByForm]
def wsX5_isLeftRecursive_r2 : List Cond := [Cond.instanceMethod yX0_isEmptyByForm, Cond.selects RX0 yX0_isEmptyByForm yX0_isEmptyByForm, Cond.code yX0_isEmptyByForm cX0_isEmptyByForm 4 (some .boolean), Cond.fieldLink RX0 15 "MemoParser$Grammar" "firsts" "[I", Cond.fieldLink RX0 18 "MemoParser$Grammar" "seconds" "[I", Cond.fieldLink RX0 9 "MemoParser$Grammar" "kinds" "[I", Cond.methodLink RX0 68 yX0_addEmptyRules, Cond.instanceMethod yX0_addEmptyRules, Cond.selects RX0 yX0_addEmptyRules yX0_addEmptyRules, Cond.code yX0_addEmptyRules cX0_addEmptyRules 4 (some .boolean), Cond.fieldLink RX0 21 "MemoParser$Grammar" "ruleExpressions" "[I", Cond.methodLink RX0 72 yX0_has, Cond.instanceMethod yX0_has, Cond.selects RX0 yX0_has yX0_has, Cond.code yX0_has cX0_has 2 (some .boolean), Cond.methodLink RX0 47 yX0_findBeginnings, Cond.instanceMethod yX0_findBeginnings, Cond.selects RX0 yX0_findBeginnings yX0_findBeginnings, Cond.code yX0_findBeginnings cX0_findBeginnings 2 none, Cond.fieldLink RX0 35 "MemoParser$Grammar" "beginnings" "[I", Cond.methodLink RX0 75 yX0_beginningsByForm, Cond.instanceMethod yX0_beginningsByForm, Cond.selects RX0 yX0_beginningsByForm yX0_beginningsByForm, Cond.code yX0_beginningsByForm cX0_beginningsByForm 4 (some .int)]
def wsX5_isLeftRecursive_r3 : List Cond := [Cond.static yX5_bit, Cond.code yX5_bit cX5_bit 1 (some .int), Cond.methodLink RX0 50 yX0_beginningsOfRule, Cond.instanceMethod yX0_beginningsOfRule, Cond.selects RX0 yX0_beginningsOfRule yX0_beginningsOfRule, Cond.code yX0_beginningsOfRule cX0_beginningsOfRule 3 (some .int)]
def wsX5_isLeftRecursive : List Cond := .code yX5_isLeftRecursive cX5_isLeftRecursive 2 (some .boolean) :: ((wsX5_isLeftRecursive_r1 ++ (wsX5_isLeftRecursive_r2 ++ wsX5_isLeftRecursive_r3)) ++ wsX50 ++ wsX00 ++ (vx_atS RX5 94 "java/lang/IndexOutOfBoundsException" ["java/lang/RuntimeException", "java/lang/Exception"]).filter goodWord)
def wsX5_areBytes : List Cond := .code yX5_areBytes cX5_areBytes 4 (some .boolean) :: ([.methodLink RX5 186 yX5_packedByte, .static yX5_packedByte, .initialized RX5, .code yX5_packedByte cX5_packedByte 3 (some .int), .methodLink RX5 53 yX5_isByte, .static yX5_isByte, .code yX5_isByte cX5_isByte 1 (some .boolean)])
def wsX5_replace_r1 : List Cond := [Cond.classLink RX5 90 "java/lang/IndexOutOfBoundsException", Cond.initialized "java/lang/IndexOutOfBoundsException", Cond.classLink RX5 39 "java/lang/IllegalArgumentException", Cond.initialized "java/lang/IllegalArgumentException", Cond.classLink RX5 105 "java/lang/IllegalStateException", Cond.initialized "java/lang/IllegalStateException", Cond.fieldLink RX5 19 "MemoParser" "text" "LMemoParser$Text;", Cond.fieldLink RX5 26 "MemoParser" "memory" "LMemoParser$Memory;", Cond.methodLink RX5 95 yX5_areBytes, Cond.static yX5_areBytes, Cond.initialized RX5, Cond.code yX5_areBytes cX5_areBytes 4 (some .boolean), Cond.methodLink RX5 186 yX5_packedByte, Cond.static yX5_packedByte, Cond.code yX5_packedByte cX5_packedByte 3 (some .int), Cond.methodLink RX5 53 yX5_isByte, Cond.static yX5_isByte, Cond.code yX5_isByte cX5_isByte 1 (some .boolean), Cond.methodLink RX5 101 yX5_countBytes, Cond.static yX5_countBytes, Cond.code yX5_countBytes cX5_countBytes 4 (some .int), Cond.methodLink RX5 110 yX1_keepUnchanged, Cond.instanceMethod yX1_keepUnchanged, Cond.selects RX1 yX1_keepUnchanged yX1_keepUnchanged]
def wsX5_replace_r2 : List Cond := [Cond.initialized RX1, Cond.code yX1_keepUnchanged cX1_keepUnchanged 5 (some .int), Cond.fieldLink RX1 15 "MemoParser$Memory" "reaches" "[I", Cond.methodLink RX1 31 yX1_holds, Cond.instanceMethod yX1_holds, Cond.selects RX1 yX1_holds yX1_holds, Cond.code yX1_holds cX1_holds 2 (some .boolean), Cond.fieldLink RX1 9 "MemoParser$Memory" "results" "[I", Cond.methodLink RX1 27 yX1_drop, Cond.instanceMethod yX1_drop, Cond.selects RX1 yX1_drop yX1_drop, Cond.code yX1_drop cX1_drop 2 none, Cond.methodLink RX1 43 yX1_put, Cond.instanceMethod yX1_put, Cond.selects RX1 yX1_put yX1_put, Cond.code yX1_put cX1_put 5 none, Cond.fieldLink RX1 18 "MemoParser$Memory" "names" "[I", Cond.methodLink RX5 113 yX1_shift, Cond.instanceMethod yX1_shift, Cond.selects RX1 yX1_shift yX1_shift, Cond.code yX1_shift cX1_shift 5 none, Cond.methodLink RX1 35 yX1_move, Cond.instanceMethod yX1_move, Cond.selects RX1 yX1_move yX1_move]
def wsX5_replace_r3 : List Cond := [Cond.code yX1_move cX1_move 5 none, Cond.methodLink RX5 117 yX4_splice, Cond.instanceMethod yX4_splice, Cond.selects RX4 yX4_splice yX4_splice, Cond.initialized RX4, Cond.code yX4_splice cX4_splice 10 none, Cond.fieldLink RX4 9 "MemoParser$Text" "bytes" "[I", Cond.fieldLink RX4 15 "MemoParser$Text" "size" "I", Cond.methodLink RX4 27 arraycopyName, Cond.native arraycopyName, Cond.static arraycopyName, Cond.initialized "java/lang/System"]
def wsX5_replace : List Cond := .code yX5_replace cX5_replace 7 (some .int) :: ((wsX5_replace_r1 ++ (wsX5_replace_r2 ++ wsX5_replace_r3)) ++ wsX50 ++ wsX40 ++ wsX10 ++ (vx_atS RX5 94 "java/lang/IndexOutOfBoundsException" ["java/lang/RuntimeException", "java/lang/Exception"]).filter goodWord ++ (vx_atS RX5 43 "java/lang/IllegalArgumentException" ["java/lang/RuntimeException", "java/lang/Exception"]).filter goodWord ++ (vx_atS RX5 109 "java/lang/IllegalStateException" ["java/lang/RuntimeException", "java/lang/Exception"]).filter goodWord)
def wsX5_size : List Cond := .code yX5_size cX5_size 1 (some .int) :: ([.fieldLink RX5 19 "MemoParser" "text" "LMemoParser$Text;"] ++ wsX50 ++ wsX40)
def wsX5_byteAt : List Cond := .code yX5_byteAt cX5_byteAt 2 (some .int) :: ([.classLink RX5 90 "java/lang/IndexOutOfBoundsException", .initialized "java/lang/IndexOutOfBoundsException", .fieldLink RX5 19 "MemoParser" "text" "LMemoParser$Text;", .methodLink RX5 121 yX4_hasByte, .instanceMethod yX4_hasByte, .selects RX4 yX4_hasByte yX4_hasByte, .initialized RX4, .code yX4_hasByte cX4_hasByte 2 (some .boolean), .fieldLink RX4 15 "MemoParser$Text" "size" "I", .methodLink RX5 126 yX4_byteOrNone, .instanceMethod yX4_byteOrNone, .selects RX4 yX4_byteOrNone yX4_byteOrNone, .code yX4_byteOrNone cX4_byteOrNone 2 (some .int), .fieldLink RX4 9 "MemoParser$Text" "bytes" "[I", .methodLink RX4 19 yX4_hasByte] ++ wsX50 ++ wsX40 ++ (vx_atS RX5 94 "java/lang/IndexOutOfBoundsException" ["java/lang/RuntimeException", "java/lang/Exception"]).filter goodWord)
def wsX5_refuseUnknownPlace : List Cond := .code yX5_refuseUnknownPlace cX5_refuseUnknownPlace 2 none :: ([.classLink RX5 90 "java/lang/IndexOutOfBoundsException", .initialized "java/lang/IndexOutOfBoundsException", .fieldLink RX5 19 "MemoParser" "text" "LMemoParser$Text;"] ++ wsX50 ++ wsX40 ++ (vx_atS RX5 94 "java/lang/IndexOutOfBoundsException" ["java/lang/RuntimeException", "java/lang/Exception"]).filter goodWord)
def wsX5_parse_r1 : List Cond := [Cond.fieldLink RX5 35 "MemoParser" "search" "LMemoParser$Search;", Cond.methodLink RX5 59 yX5_refuseUnknownRule, Cond.static yX5_refuseUnknownRule, Cond.initialized RX5, Cond.code yX5_refuseUnknownRule cX5_refuseUnknownRule 1 none, Cond.classLink RX5 90 "java/lang/IndexOutOfBoundsException", Cond.initialized "java/lang/IndexOutOfBoundsException", Cond.methodLink RX5 130 yX5_refuseUnknownPlace, Cond.instanceMethod yX5_refuseUnknownPlace, Cond.selects RX5 yX5_refuseUnknownPlace yX5_refuseUnknownPlace, Cond.code yX5_refuseUnknownPlace cX5_refuseUnknownPlace 2 none, Cond.fieldLink RX5 19 "MemoParser" "text" "LMemoParser$Text;", Cond.methodLink RX5 133 yX3_run, Cond.instanceMethod yX3_run, Cond.selects RX3 yX3_run yX3_run, Cond.initialized RX3, Cond.code yX3_run cX3_run 4 (some .int), Cond.fieldLink RX3 18 "MemoParser$Search" "work" "I", Cond.fieldLink RX3 22 "MemoParser$Search" "hits" "I", Cond.fieldLink RX3 25 "MemoParser$Search" "growths" "I", Cond.fieldLink RX3 28 "MemoParser$Search" "farthest" "I", Cond.fieldLink RX3 43 "MemoParser$Search" "memory" "LMemoParser$Memory;", Cond.methodLink RX3 47 yX3_lookForRule, Cond.instanceMethod yX3_lookForRule]
def wsX5_parse_r2 : List Cond := [Cond.selects RX3 yX3_lookForRule yX3_lookForRule, Cond.code yX3_lookForRule cX3_lookForRule 9 (some .int), Cond.fieldLink RX3 12 "MemoParser$Search" "progress" "LMemoParser$Progress;", Cond.fieldLink RX3 35 "MemoParser$Search" "grammar" "LMemoParser$Grammar;", Cond.fieldLink RX3 31 "MemoParser$Search" "cut" "Z", Cond.methodLink RX3 109 yX3_knownResult, Cond.instanceMethod yX3_knownResult, Cond.selects RX3 yX3_knownResult yX3_knownResult, Cond.code yX3_knownResult cX3_knownResult 5 (some .int), Cond.methodLink RX3 133 yX0_has, Cond.instanceMethod yX0_has, Cond.selects RX0 yX0_has yX0_has, Cond.initialized RX0, Cond.code yX0_has cX0_has 2 (some .boolean), Cond.fieldLink RX0 24 "MemoParser$Grammar" "count" "I", Cond.static yX5_cell, Cond.code yX5_cell cX5_cell 2 (some .int), Cond.methodLink RX3 140 yX1_holds, Cond.instanceMethod yX1_holds, Cond.selects RX1 yX1_holds yX1_holds, Cond.initialized RX1, Cond.code yX1_holds cX1_holds 2 (some .boolean), Cond.fieldLink RX1 9 "MemoParser$Memory" "results" "[I", Cond.methodLink RX3 146 yX2_hasOneOf]
def wsX5_parse_r3 : List Cond := [Cond.instanceMethod yX2_hasOneOf, Cond.selects RX2 yX2_hasOneOf yX2_hasOneOf, Cond.initialized RX2, Cond.code yX2_hasOneOf cX2_hasOneOf 3 (some .boolean), Cond.fieldLink RX2 37 "MemoParser$Progress" "rulesAt" "[I", Cond.methodLink RX3 90 yX2_countLook, Cond.instanceMethod yX2_countLook, Cond.selects RX2 yX2_countLook yX2_countLook, Cond.code yX2_countLook cX2_countLook 2 none, Cond.fieldLink RX2 40 "MemoParser$Progress" "open" "I", Cond.fieldLink RX2 25 "MemoParser$Progress" "reaches" "[I", Cond.methodLink RX2 69 Lib.Math.max.name, Cond.static Lib.Math.max.name, Cond.initialized "java/lang/Math", Cond.code Lib.Math.max.name Lib.Math.max.code 2 (some .int), Cond.methodLink RX3 153 yX2_countNames, Cond.instanceMethod yX2_countNames, Cond.selects RX2 yX2_countNames yX2_countNames, Cond.code yX2_countNames cX2_countNames 3 none, Cond.fieldLink RX2 15 "MemoParser$Progress" "places" "[I", Cond.fieldLink RX2 28 "MemoParser$Progress" "names" "[I", Cond.methodLink RX3 162 yX2_askSeed, Cond.instanceMethod yX2_askSeed, Cond.selects RX2 yX2_askSeed yX2_askSeed]
def wsX5_parse_r4 : List Cond := [Cond.code yX2_askSeed cX2_askSeed 2 (some .int), Cond.fieldLink RX2 21 "MemoParser$Progress" "asked" "[Z", Cond.fieldLink RX2 18 "MemoParser$Progress" "seeds" "[I", Cond.methodLink RX2 66 yX2_countAsked, Cond.instanceMethod yX2_countAsked, Cond.selects RX2 yX2_countAsked yX2_countAsked, Cond.code yX2_countAsked cX2_countAsked 2 none, Cond.fieldLink RX2 31 "MemoParser$Progress" "earliestAsked" "[I", Cond.methodLink RX2 74 Lib.Math.min.name, Cond.static Lib.Math.min.name, Cond.code Lib.Math.min.name Lib.Math.min.code 2 (some .int), Cond.methodLink RX3 112 yX2_isFull, Cond.instanceMethod yX2_isFull, Cond.selects RX2 yX2_isFull yX2_isFull, Cond.code yX2_isFull cX2_isFull 1 (some .boolean), Cond.methodLink RX3 119 yX2_begin, Cond.instanceMethod yX2_begin, Cond.selects RX2 yX2_begin yX2_begin, Cond.code yX2_begin cX2_begin 4 (some .int), Cond.fieldLink RX2 9 "MemoParser$Progress" "rules" "[I", Cond.fieldLink RX2 34 "MemoParser$Progress" "numberOf" "[I", Cond.static yX5_bit, Cond.code yX5_bit cX5_bit 1 (some .int), Cond.methodLink RX3 106 yX3_look]
def wsX5_parse_r5 : List Cond := [Cond.instanceMethod yX3_look, Cond.selects RX3 yX3_look yX3_look, Cond.methodLink RX3 129 yX3_finish, Cond.instanceMethod yX3_finish, Cond.selects RX3 yX3_finish yX3_finish, Cond.code yX3_finish cX3_finish 4 none, Cond.methodLink RX3 165 yX2_askedEarlierOne, Cond.instanceMethod yX2_askedEarlierOne, Cond.selects RX2 yX2_askedEarlierOne yX2_askedEarlierOne, Cond.code yX2_askedEarlierOne cX2_askedEarlierOne 2 (some .boolean), Cond.methodLink RX3 176 yX1_put, Cond.instanceMethod yX1_put, Cond.selects RX1 yX1_put yX1_put, Cond.code yX1_put cX1_put 5 none, Cond.fieldLink RX1 15 "MemoParser$Memory" "reaches" "[I", Cond.fieldLink RX1 18 "MemoParser$Memory" "names" "[I", Cond.methodLink RX3 180 yX2_end, Cond.instanceMethod yX2_end, Cond.selects RX2 yX2_end yX2_end, Cond.code yX2_end cX2_end 3 none, Cond.methodLink RX2 58 yX2_countLook, Cond.methodLink RX2 62 yX2_countNames, Cond.code yX3_look cX3_look 6 (some .int), Cond.methodLink RX3 68 yX3_lookForRange]
def wsX5_parse_r6 : List Cond := [Cond.instanceMethod yX3_lookForRange, Cond.selects RX3 yX3_lookForRange yX3_lookForRange, Cond.code yX3_lookForRange cX3_lookForRange 5 (some .int), Cond.fieldLink RX3 39 "MemoParser$Search" "text" "LMemoParser$Text;", Cond.methodLink RX3 100 Lib.Math.max.name, Cond.methodLink RX3 94 yX4_byteOrNone, Cond.instanceMethod yX4_byteOrNone, Cond.selects RX4 yX4_byteOrNone yX4_byteOrNone, Cond.initialized RX4, Cond.code yX4_byteOrNone cX4_byteOrNone 2 (some .int), Cond.fieldLink RX4 9 "MemoParser$Text" "bytes" "[I", Cond.methodLink RX4 19 yX4_hasByte, Cond.instanceMethod yX4_hasByte, Cond.selects RX4 yX4_hasByte yX4_hasByte, Cond.code yX4_hasByte cX4_hasByte 2 (some .boolean), Cond.fieldLink RX4 15 "MemoParser$Text" "size" "I", Cond.methodLink RX3 71 yX3_lookForSequence, Cond.instanceMethod yX3_lookForSequence, Cond.selects RX3 yX3_lookForSequence yX3_lookForSequence, Cond.methodLink RX3 75 yX3_lookForChoice, Cond.instanceMethod yX3_lookForChoice, Cond.selects RX3 yX3_lookForChoice yX3_lookForChoice, Cond.methodLink RX3 78 yX3_lookForStar, Cond.instanceMethod yX3_lookForStar]
def wsX5_parse_r7 : List Cond := [Cond.selects RX3 yX3_lookForStar yX3_lookForStar, Cond.methodLink RX3 81 yX3_lookForOptional, Cond.instanceMethod yX3_lookForOptional, Cond.selects RX3 yX3_lookForOptional yX3_lookForOptional, Cond.methodLink RX3 84 yX3_lookForAnd, Cond.instanceMethod yX3_lookForAnd, Cond.selects RX3 yX3_lookForAnd yX3_lookForAnd, Cond.methodLink RX3 87 yX3_lookForNot, Cond.instanceMethod yX3_lookForNot, Cond.selects RX3 yX3_lookForNot yX3_lookForNot, Cond.code yX3_lookForAnd cX3_lookForAnd 5 (some .int), Cond.code yX3_lookForChoice cX3_lookForChoice 6 (some .int), Cond.code yX3_lookForNot cX3_lookForNot 5 (some .int), Cond.code yX3_lookForOptional cX3_lookForOptional 5 (some .int), Cond.code yX3_lookForSequence cX3_lookForSequence 8 (some .int), Cond.code yX3_lookForStar cX3_lookForStar 7 (some .int), Cond.methodLink RX3 51 yX1_clear, Cond.instanceMethod yX1_clear, Cond.selects RX1 yX1_clear yX1_clear, Cond.code yX1_clear cX1_clear 2 none, Cond.methodLink RX1 27 yX1_drop, Cond.instanceMethod yX1_drop, Cond.selects RX1 yX1_drop yX1_drop, Cond.code yX1_drop cX1_drop 2 none]
def wsX5_parse_r8 : List Cond := [Cond.methodLink RX1 43 yX1_put]
def wsX5_parse : List Cond := .code yX5_parse cX5_parse 3 (some .int) :: ((wsX5_parse_r1 ++ (wsX5_parse_r2 ++ (wsX5_parse_r3 ++ (wsX5_parse_r4 ++ (wsX5_parse_r5 ++ (wsX5_parse_r6 ++ (wsX5_parse_r7 ++ wsX5_parse_r8))))))) ++ wsX50 ++ wsX40 ++ wsX30 ++ wsX00 ++ wsX20 ++ wsX10 ++ (vx_atS RX5 94 "java/lang/IndexOutOfBoundsException" ["java/lang/RuntimeException", "java/lang/Exception"]).filter goodWord)
def wsX5_work : List Cond := .code yX5_work cX5_work 1 (some .int) :: ([.fieldLink RX5 35 "MemoParser" "search" "LMemoParser$Search;"] ++ wsX50 ++ wsX30)
def wsX5_hits : List Cond := .code yX5_hits cX5_hits 1 (some .int) :: ([.fieldLink RX5 35 "MemoParser" "search" "LMemoParser$Search;"] ++ wsX50 ++ wsX30)
def wsX5_growths : List Cond := .code yX5_growths cX5_growths 1 (some .int) :: ([.fieldLink RX5 35 "MemoParser" "search" "LMemoParser$Search;"] ++ wsX50 ++ wsX30)
def wsX5_farthest : List Cond := .code yX5_farthest cX5_farthest 1 (some .int) :: ([.fieldLink RX5 35 "MemoParser" "search" "LMemoParser$Search;"] ++ wsX50 ++ wsX30)
def wsX5_remembered : List Cond := .code yX5_remembered cX5_remembered 1 (some .int) :: ([.fieldLink RX5 26 "MemoParser" "memory" "LMemoParser$Memory;", .methodLink RX5 148 yX1_count, .instanceMethod yX1_count, .selects RX1 yX1_count yX1_count, .initialized RX1, .code yX1_count cX1_count 3 (some .int), .methodLink RX1 31 yX1_holds, .instanceMethod yX1_holds, .selects RX1 yX1_holds yX1_holds, .code yX1_holds cX1_holds 2 (some .boolean), .fieldLink RX1 9 "MemoParser$Memory" "results" "[I"] ++ wsX50 ++ wsX10)
def wsX5_result : List Cond := .code yX5_result cX5_result 3 (some .int) :: ([.fieldLink RX5 26 "MemoParser" "memory" "LMemoParser$Memory;", .methodLink RX5 59 yX5_refuseUnknownRule, .static yX5_refuseUnknownRule, .initialized RX5, .code yX5_refuseUnknownRule cX5_refuseUnknownRule 1 none, .classLink RX5 90 "java/lang/IndexOutOfBoundsException", .initialized "java/lang/IndexOutOfBoundsException", .methodLink RX5 130 yX5_refuseUnknownPlace, .instanceMethod yX5_refuseUnknownPlace, .selects RX5 yX5_refuseUnknownPlace yX5_refuseUnknownPlace, .code yX5_refuseUnknownPlace cX5_refuseUnknownPlace 2 none, .fieldLink RX5 19 "MemoParser" "text" "LMemoParser$Text;", .methodLink RX5 155 yX5_cell, .static yX5_cell, .code yX5_cell cX5_cell 2 (some .int)] ++ wsX50 ++ wsX10 ++ wsX40 ++ (vx_atS RX5 94 "java/lang/IndexOutOfBoundsException" ["java/lang/RuntimeException", "java/lang/Exception"]).filter goodWord)
def wsX5_reach : List Cond := .code yX5_reach cX5_reach 3 (some .int) :: ([.fieldLink RX5 26 "MemoParser" "memory" "LMemoParser$Memory;", .methodLink RX5 59 yX5_refuseUnknownRule, .static yX5_refuseUnknownRule, .initialized RX5, .code yX5_refuseUnknownRule cX5_refuseUnknownRule 1 none, .classLink RX5 90 "java/lang/IndexOutOfBoundsException", .initialized "java/lang/IndexOutOfBoundsException", .methodLink RX5 130 yX5_refuseUnknownPlace, .instanceMethod yX5_refuseUnknownPlace, .selects RX5 yX5_refuseUnknownPlace yX5_refuseUnknownPlace, .code yX5_refuseUnknownPlace cX5_refuseUnknownPlace 2 none, .fieldLink RX5 19 "MemoParser" "text" "LMemoParser$Text;", .methodLink RX5 155 yX5_cell, .static yX5_cell, .code yX5_cell cX5_cell 2 (some .int)] ++ wsX50 ++ wsX10 ++ wsX40 ++ (vx_atS RX5 94 "java/lang/IndexOutOfBoundsException" ["java/lang/RuntimeException", "java/lang/Exception"]).filter goodWord)
def wsX5_forget_r1 : List Cond := [Cond.fieldLink RX5 26 "MemoParser" "memory" "LMemoParser$Memory;", Cond.methodLink RX5 148 yX1_count, Cond.instanceMethod yX1_count, Cond.selects RX1 yX1_count yX1_count, Cond.initialized RX1, Cond.code yX1_count cX1_count 3 (some .int), Cond.methodLink RX1 31 yX1_holds, Cond.instanceMethod yX1_holds, Cond.selects RX1 yX1_holds yX1_holds, Cond.code yX1_holds cX1_holds 2 (some .boolean), Cond.fieldLink RX1 9 "MemoParser$Memory" "results" "[I", Cond.methodLink RX5 70 yX1_clear, Cond.instanceMethod yX1_clear, Cond.selects RX1 yX1_clear yX1_clear, Cond.code yX1_clear cX1_clear 2 none, Cond.methodLink RX1 27 yX1_drop, Cond.instanceMethod yX1_drop, Cond.selects RX1 yX1_drop yX1_drop, Cond.code yX1_drop cX1_drop 2 none, Cond.methodLink RX1 43 yX1_put, Cond.instanceMethod yX1_put, Cond.selects RX1 yX1_put yX1_put, Cond.code yX1_put cX1_put 5 none, Cond.fieldLink RX1 15 "MemoParser$Memory" "reaches" "[I"]
def wsX5_forget_r2 : List Cond := [Cond.fieldLink RX1 18 "MemoParser$Memory" "names" "[I"]
def wsX5_forget : List Cond := .code yX5_forget cX5_forget 2 (some .int) :: ((wsX5_forget_r1 ++ wsX5_forget_r2) ++ wsX50 ++ wsX10)
def wsX5_digest_r1 : List Cond := [Cond.fieldLink RX5 12 "MemoParser" "grammar" "LMemoParser$Grammar;", Cond.constantLong RX5 161 (107), Cond.fieldLink RX5 19 "MemoParser" "text" "LMemoParser$Text;", Cond.fieldLink RX5 26 "MemoParser" "memory" "LMemoParser$Memory;", Cond.fieldLink RX5 35 "MemoParser" "search" "LMemoParser$Search;", Cond.methodLink RX5 163 yX0_addToDigest, Cond.instanceMethod yX0_addToDigest, Cond.selects RX0 yX0_addToDigest yX0_addToDigest, Cond.initialized RX0, Cond.code yX0_addToDigest cX0_addToDigest 6 (some .long), Cond.fieldLink RX0 24 "MemoParser$Grammar" "count" "I", Cond.fieldLink RX0 21 "MemoParser$Grammar" "ruleExpressions" "[I", Cond.static yX5_mix, Cond.initialized RX5, Cond.code yX5_mix cX5_mix 3 (some .long), Cond.constantLong RX5 190 (31), Cond.methodLink RX5 167 yX4_addToDigest, Cond.instanceMethod yX4_addToDigest, Cond.selects RX4 yX4_addToDigest yX4_addToDigest, Cond.initialized RX4, Cond.code yX4_addToDigest cX4_addToDigest 6 (some .long), Cond.fieldLink RX4 15 "MemoParser$Text" "size" "I", Cond.fieldLink RX4 9 "MemoParser$Text" "bytes" "[I", Cond.methodLink RX5 168 yX1_addToDigest]
def wsX5_digest_r2 : List Cond := [Cond.instanceMethod yX1_addToDigest, Cond.selects RX1 yX1_addToDigest yX1_addToDigest, Cond.initialized RX1, Cond.code yX1_addToDigest cX1_addToDigest 6 (some .long), Cond.fieldLink RX1 9 "MemoParser$Memory" "results" "[I", Cond.fieldLink RX1 15 "MemoParser$Memory" "reaches" "[I", Cond.methodLink RX1 31 yX1_holds, Cond.instanceMethod yX1_holds, Cond.selects RX1 yX1_holds yX1_holds, Cond.code yX1_holds cX1_holds 2 (some .boolean), Cond.methodLink RX5 169 yX5_mix]
def wsX5_digest : List Cond := .code yX5_digest cX5_digest 3 (some .long) :: ((wsX5_digest_r1 ++ wsX5_digest_r2) ++ wsX50 ++ wsX30 ++ wsX00 ++ wsX40 ++ wsX10)
def wsX6_init_r1 : List Cond := [Cond.methodLink RX6 3 objectInit, Cond.instanceMethod objectInit, Cond.code objectInit ⟨#[0xb1]⟩ 1 none, Cond.arrayClass .int, Cond.fieldLink RX6 9 "MemoParserModel" "kinds" "[I", Cond.fieldLink RX6 13 "MemoParserModel" "as" "[I", Cond.fieldLink RX6 16 "MemoParserModel" "bs" "[I", Cond.fieldLink RX6 19 "MemoParserModel" "rules" "[I", Cond.fieldLink RX6 22 "MemoParserModel" "text" "[I", Cond.arrayClass .boolean, Cond.fieldLink RX6 25 "MemoParserModel" "isKnown" "[Z", Cond.fieldLink RX6 29 "MemoParserModel" "results" "[I", Cond.fieldLink RX6 32 "MemoParserModel" "reaches" "[I", Cond.fieldLink RX6 35 "MemoParserModel" "names" "[I", Cond.fieldLink RX6 38 "MemoParserModel" "progressRules" "[I", Cond.fieldLink RX6 41 "MemoParserModel" "progressPlaces" "[I", Cond.fieldLink RX6 44 "MemoParserModel" "seeds" "[I", Cond.fieldLink RX6 47 "MemoParserModel" "areAsked" "[Z", Cond.fieldLink RX6 50 "MemoParserModel" "lean" "[Z", Cond.fieldLink RX6 53 "MemoParserModel" "looked" "[I", Cond.fieldLink RX6 56 "MemoParserModel" "named" "[I", Cond.fieldLink RX6 59 "MemoParserModel" "farthest" "I", Cond.fieldLink RX6 63 "MemoParserModel" "ruleCan" "[Z", Cond.fieldLink RX6 66 "MemoParserModel" "areEmpty" "[Z"]
def wsX6_init_r2 : List Cond := [Cond.fieldLink RX6 69 "MemoParserModel" "begins" "[I"]
def wsX6_init : List Cond := .code yX6_init cX6_init 2 none :: ((wsX6_init_r1 ++ wsX6_init_r2) ++ wsX60)
def wsX6_thrown : List Cond := .code yX6_thrown cX6_thrown 1 (some .int) :: ([.fieldLink RX6 72 "MemoParserModel" "thrown" "I"] ++ wsX60)
def wsX6_fail : List Cond := .code yX6_fail cX6_fail 2 (some .int) :: ([.fieldLink RX6 72 "MemoParserModel" "thrown" "I"] ++ wsX60)
def wsX6_isExpression : List Cond := .code yX6_isExpression cX6_isExpression 2 (some .boolean) :: ([.fieldLink RX6 75 "MemoParserModel" "expressions" "I"] ++ wsX60)
def wsX6_isRule : List Cond := .code yX6_isRule cX6_isRule 1 (some .boolean) :: ([])
def wsX6_isByte : List Cond := .code yX6_isByte cX6_isByte 1 (some .boolean) :: ([])
def wsX6_add : List Cond := .code yX6_add cX6_add 4 (some .int) :: ([.fieldLink RX6 9 "MemoParserModel" "kinds" "[I", .fieldLink RX6 75 "MemoParserModel" "expressions" "I", .fieldLink RX6 13 "MemoParserModel" "as" "[I", .fieldLink RX6 16 "MemoParserModel" "bs" "[I"] ++ wsX60)
def wsX6_plain : List Cond := .code yX6_plain cX6_plain 2 (some .int) :: ([.fieldLink RX6 72 "MemoParserModel" "thrown" "I", .fieldLink RX6 75 "MemoParserModel" "expressions" "I", .methodLink RX6 78 yX6_fail, .instanceMethod yX6_fail, .selects RX6 yX6_fail yX6_fail, .initialized RX6, .code yX6_fail cX6_fail 2 (some .int), .methodLink RX6 82 yX6_add, .instanceMethod yX6_add, .selects RX6 yX6_add yX6_add, .code yX6_add cX6_add 4 (some .int), .fieldLink RX6 9 "MemoParserModel" "kinds" "[I", .fieldLink RX6 13 "MemoParserModel" "as" "[I", .fieldLink RX6 16 "MemoParserModel" "bs" "[I"] ++ wsX60)
def wsX6_range : List Cond := .code yX6_range cX6_range 3 (some .int) :: ([.fieldLink RX6 72 "MemoParserModel" "thrown" "I", .fieldLink RX6 75 "MemoParserModel" "expressions" "I", .methodLink RX6 86 yX6_isByte, .static yX6_isByte, .initialized RX6, .code yX6_isByte cX6_isByte 1 (some .boolean), .methodLink RX6 78 yX6_fail, .instanceMethod yX6_fail, .selects RX6 yX6_fail yX6_fail, .code yX6_fail cX6_fail 2 (some .int), .methodLink RX6 82 yX6_add, .instanceMethod yX6_add, .selects RX6 yX6_add yX6_add, .code yX6_add cX6_add 4 (some .int), .fieldLink RX6 9 "MemoParserModel" "kinds" "[I", .fieldLink RX6 13 "MemoParserModel" "as" "[I", .fieldLink RX6 16 "MemoParserModel" "bs" "[I"] ++ wsX60)
def wsX6_rule : List Cond := .code yX6_rule cX6_rule 2 (some .int) :: ([.fieldLink RX6 72 "MemoParserModel" "thrown" "I", .fieldLink RX6 75 "MemoParserModel" "expressions" "I", .methodLink RX6 90 yX6_isRule, .static yX6_isRule, .initialized RX6, .code yX6_isRule cX6_isRule 1 (some .boolean), .methodLink RX6 78 yX6_fail, .instanceMethod yX6_fail, .selects RX6 yX6_fail yX6_fail, .code yX6_fail cX6_fail 2 (some .int), .methodLink RX6 82 yX6_add, .instanceMethod yX6_add, .selects RX6 yX6_add yX6_add, .code yX6_add cX6_add 4 (some .int), .fieldLink RX6 9 "MemoParserModel" "kinds" "[I", .fieldLink RX6 13 "MemoParserModel" "as" "[I", .fieldLink RX6 16 "MemoParserModel" "bs" "[I"] ++ wsX60)
def wsX6_join : List Cond := .code yX6_join cX6_join 4 (some .int) :: ([.fieldLink RX6 72 "MemoParserModel" "thrown" "I", .fieldLink RX6 75 "MemoParserModel" "expressions" "I", .methodLink RX6 93 yX6_isExpression, .instanceMethod yX6_isExpression, .selects RX6 yX6_isExpression yX6_isExpression, .initialized RX6, .code yX6_isExpression cX6_isExpression 2 (some .boolean), .methodLink RX6 78 yX6_fail, .instanceMethod yX6_fail, .selects RX6 yX6_fail yX6_fail, .code yX6_fail cX6_fail 2 (some .int), .methodLink RX6 82 yX6_add, .instanceMethod yX6_add, .selects RX6 yX6_add yX6_add, .code yX6_add cX6_add 4 (some .int), .fieldLink RX6 9 "MemoParserModel" "kinds" "[I", .fieldLink RX6 13 "MemoParserModel" "as" "[I", .fieldLink RX6 16 "MemoParserModel" "bs" "[I"] ++ wsX60)
def wsX6_wrap : List Cond := .code yX6_wrap cX6_wrap 3 (some .int) :: ([.fieldLink RX6 72 "MemoParserModel" "thrown" "I", .fieldLink RX6 75 "MemoParserModel" "expressions" "I", .methodLink RX6 93 yX6_isExpression, .instanceMethod yX6_isExpression, .selects RX6 yX6_isExpression yX6_isExpression, .initialized RX6, .code yX6_isExpression cX6_isExpression 2 (some .boolean), .methodLink RX6 78 yX6_fail, .instanceMethod yX6_fail, .selects RX6 yX6_fail yX6_fail, .code yX6_fail cX6_fail 2 (some .int), .methodLink RX6 82 yX6_add, .instanceMethod yX6_add, .selects RX6 yX6_add yX6_add, .code yX6_add cX6_add 4 (some .int), .fieldLink RX6 9 "MemoParserModel" "kinds" "[I", .fieldLink RX6 13 "MemoParserModel" "as" "[I", .fieldLink RX6 16 "MemoParserModel" "bs" "[I"] ++ wsX60)
def wsX6_countAll : List Cond := .code yX6_countAll cX6_countAll 3 (some .int) :: ([.fieldLink RX6 25 "MemoParserModel" "isKnown" "[Z"] ++ wsX60)
def wsX6_forgetAll : List Cond := .code yX6_forgetAll cX6_forgetAll 3 (some .int) :: ([.fieldLink RX6 25 "MemoParserModel" "isKnown" "[Z", .methodLink RX6 182 yX6_countAll, .instanceMethod yX6_countAll, .selects RX6 yX6_countAll yX6_countAll, .initialized RX6, .code yX6_countAll cX6_countAll 3 (some .int)] ++ wsX60)
def wsX6_define : List Cond := .code yX6_define cX6_define 4 (some .int) :: ([.fieldLink RX6 72 "MemoParserModel" "thrown" "I", .fieldLink RX6 19 "MemoParserModel" "rules" "[I", .methodLink RX6 90 yX6_isRule, .static yX6_isRule, .initialized RX6, .code yX6_isRule cX6_isRule 1 (some .boolean), .methodLink RX6 93 yX6_isExpression, .instanceMethod yX6_isExpression, .selects RX6 yX6_isExpression yX6_isExpression, .code yX6_isExpression cX6_isExpression 2 (some .boolean), .fieldLink RX6 75 "MemoParserModel" "expressions" "I", .methodLink RX6 78 yX6_fail, .instanceMethod yX6_fail, .selects RX6 yX6_fail yX6_fail, .code yX6_fail cX6_fail 2 (some .int), .methodLink RX6 96 yX6_forgetAll, .instanceMethod yX6_forgetAll, .selects RX6 yX6_forgetAll yX6_forgetAll, .code yX6_forgetAll cX6_forgetAll 3 (some .int), .fieldLink RX6 25 "MemoParserModel" "isKnown" "[Z", .methodLink RX6 182 yX6_countAll, .instanceMethod yX6_countAll, .selects RX6 yX6_countAll yX6_countAll, .code yX6_countAll cX6_countAll 3 (some .int)] ++ wsX60)
def wsX6_expressionCount : List Cond := .code yX6_expressionCount cX6_expressionCount 1 (some .int) :: ([.fieldLink RX6 72 "MemoParserModel" "thrown" "I", .fieldLink RX6 75 "MemoParserModel" "expressions" "I"] ++ wsX60)
def wsX6_can : List Cond := .code yX6_can cX6_can 2 (some .boolean) :: ([.fieldLink RX6 9 "MemoParserModel" "kinds" "[I", .fieldLink RX6 63 "MemoParserModel" "ruleCan" "[Z", .fieldLink RX6 13 "MemoParserModel" "as" "[I", .fieldLink RX6 66 "MemoParserModel" "areEmpty" "[Z", .fieldLink RX6 16 "MemoParserModel" "bs" "[I"] ++ wsX60)
def wsX6_beginsWith : List Cond := .code yX6_beginsWith cX6_beginsWith 2 (some .int) :: ([.fieldLink RX6 9 "MemoParserModel" "kinds" "[I", .fieldLink RX6 13 "MemoParserModel" "as" "[I", .fieldLink RX6 69 "MemoParserModel" "begins" "[I", .fieldLink RX6 66 "MemoParserModel" "areEmpty" "[Z", .fieldLink RX6 16 "MemoParserModel" "bs" "[I"] ++ wsX60)
def wsX6_findForms : List Cond := .code yX6_findForms cX6_findForms 3 none :: ([.fieldLink RX6 63 "MemoParserModel" "ruleCan" "[Z", .fieldLink RX6 75 "MemoParserModel" "expressions" "I", .fieldLink RX6 66 "MemoParserModel" "areEmpty" "[Z", .fieldLink RX6 19 "MemoParserModel" "rules" "[I", .fieldLink RX6 69 "MemoParserModel" "begins" "[I", .methodLink RX6 100 yX6_can, .instanceMethod yX6_can, .selects RX6 yX6_can yX6_can, .initialized RX6, .code yX6_can cX6_can 2 (some .boolean), .fieldLink RX6 9 "MemoParserModel" "kinds" "[I", .fieldLink RX6 13 "MemoParserModel" "as" "[I", .fieldLink RX6 16 "MemoParserModel" "bs" "[I", .methodLink RX6 103 yX6_beginsWith, .instanceMethod yX6_beginsWith, .selects RX6 yX6_beginsWith yX6_beginsWith, .code yX6_beginsWith cX6_beginsWith 2 (some .int)] ++ wsX60)
def wsX6_canBeEmpty_r1 : List Cond := [Cond.fieldLink RX6 72 "MemoParserModel" "thrown" "I", Cond.fieldLink RX6 66 "MemoParserModel" "areEmpty" "[Z", Cond.methodLink RX6 93 yX6_isExpression, Cond.instanceMethod yX6_isExpression, Cond.selects RX6 yX6_isExpression yX6_isExpression, Cond.initialized RX6, Cond.code yX6_isExpression cX6_isExpression 2 (some .boolean), Cond.fieldLink RX6 75 "MemoParserModel" "expressions" "I", Cond.methodLink RX6 106 yX6_findForms, Cond.instanceMethod yX6_findForms, Cond.selects RX6 yX6_findForms yX6_findForms, Cond.code yX6_findForms cX6_findForms 3 none, Cond.fieldLink RX6 63 "MemoParserModel" "ruleCan" "[Z", Cond.fieldLink RX6 19 "MemoParserModel" "rules" "[I", Cond.fieldLink RX6 69 "MemoParserModel" "begins" "[I", Cond.methodLink RX6 100 yX6_can, Cond.instanceMethod yX6_can, Cond.selects RX6 yX6_can yX6_can, Cond.code yX6_can cX6_can 2 (some .boolean), Cond.fieldLink RX6 9 "MemoParserModel" "kinds" "[I", Cond.fieldLink RX6 13 "MemoParserModel" "as" "[I", Cond.fieldLink RX6 16 "MemoParserModel" "bs" "[I", Cond.methodLink RX6 103 yX6_beginsWith, Cond.instanceMethod yX6_beginsWith]
def wsX6_canBeEmpty_r2 : List Cond := [Cond.selects RX6 yX6_beginsWith yX6_beginsWith, Cond.code yX6_beginsWith cX6_beginsWith 2 (some .int)]
def wsX6_canBeEmpty : List Cond := .code yX6_canBeEmpty cX6_canBeEmpty 2 (some .boolean) :: ((wsX6_canBeEmpty_r1 ++ wsX6_canBeEmpty_r2) ++ wsX60)
def wsX6_isLeftRecursive_r1 : List Cond := [Cond.fieldLink RX6 72 "MemoParserModel" "thrown" "I", Cond.fieldLink RX6 19 "MemoParserModel" "rules" "[I", Cond.fieldLink RX6 69 "MemoParserModel" "begins" "[I", Cond.methodLink RX6 90 yX6_isRule, Cond.static yX6_isRule, Cond.initialized RX6, Cond.code yX6_isRule cX6_isRule 1 (some .boolean), Cond.methodLink RX6 106 yX6_findForms, Cond.instanceMethod yX6_findForms, Cond.selects RX6 yX6_findForms yX6_findForms, Cond.code yX6_findForms cX6_findForms 3 none, Cond.fieldLink RX6 63 "MemoParserModel" "ruleCan" "[Z", Cond.fieldLink RX6 75 "MemoParserModel" "expressions" "I", Cond.fieldLink RX6 66 "MemoParserModel" "areEmpty" "[Z", Cond.methodLink RX6 100 yX6_can, Cond.instanceMethod yX6_can, Cond.selects RX6 yX6_can yX6_can, Cond.code yX6_can cX6_can 2 (some .boolean), Cond.fieldLink RX6 9 "MemoParserModel" "kinds" "[I", Cond.fieldLink RX6 13 "MemoParserModel" "as" "[I", Cond.fieldLink RX6 16 "MemoParserModel" "bs" "[I", Cond.methodLink RX6 103 yX6_beginsWith, Cond.instanceMethod yX6_beginsWith, Cond.selects RX6 yX6_beginsWith yX6_beginsWith]
def wsX6_isLeftRecursive_r2 : List Cond := [Cond.code yX6_beginsWith cX6_beginsWith 2 (some .int)]
def wsX6_isLeftRecursive : List Cond := .code yX6_isLeftRecursive cX6_isLeftRecursive 5 (some .boolean) :: ((wsX6_isLeftRecursive_r1 ++ wsX6_isLeftRecursive_r2) ++ wsX60)
def wsX6_byteOf : List Cond := .code yX6_byteOf cX6_byteOf 3 (some .int) :: ([.constantLong RX6 109 (255)])
def wsX6_keep : List Cond := .code yX6_keep cX6_keep 14 (some .int) :: ([.arrayClass .boolean, .arrayClass .int, .fieldLink RX6 111 "MemoParserModel" "size" "I", .fieldLink RX6 25 "MemoParserModel" "isKnown" "[Z", .fieldLink RX6 32 "MemoParserModel" "reaches" "[I", .fieldLink RX6 29 "MemoParserModel" "results" "[I", .fieldLink RX6 35 "MemoParserModel" "names" "[I"] ++ wsX60)
def wsX6_replace_r1 : List Cond := [Cond.fieldLink RX6 72 "MemoParserModel" "thrown" "I", Cond.fieldLink RX6 111 "MemoParserModel" "size" "I", Cond.arrayClass .int, Cond.fieldLink RX6 22 "MemoParserModel" "text" "[I", Cond.methodLink RX6 78 yX6_fail, Cond.instanceMethod yX6_fail, Cond.selects RX6 yX6_fail yX6_fail, Cond.initialized RX6, Cond.code yX6_fail cX6_fail 2 (some .int), Cond.methodLink RX6 114 yX6_byteOf, Cond.static yX6_byteOf, Cond.code yX6_byteOf cX6_byteOf 3 (some .int), Cond.constantLong RX6 109 (255), Cond.methodLink RX6 86 yX6_isByte, Cond.static yX6_isByte, Cond.code yX6_isByte cX6_isByte 1 (some .boolean), Cond.methodLink RX6 118 yX6_keep, Cond.instanceMethod yX6_keep, Cond.selects RX6 yX6_keep yX6_keep, Cond.code yX6_keep cX6_keep 14 (some .int), Cond.arrayClass .boolean, Cond.fieldLink RX6 25 "MemoParserModel" "isKnown" "[Z", Cond.fieldLink RX6 32 "MemoParserModel" "reaches" "[I", Cond.fieldLink RX6 29 "MemoParserModel" "results" "[I"]
def wsX6_replace_r2 : List Cond := [Cond.fieldLink RX6 35 "MemoParserModel" "names" "[I"]
def wsX6_replace : List Cond := .code yX6_replace cX6_replace 9 (some .int) :: ((wsX6_replace_r1 ++ wsX6_replace_r2) ++ wsX60)
def wsX6_size : List Cond := .code yX6_size cX6_size 1 (some .int) :: ([.fieldLink RX6 72 "MemoParserModel" "thrown" "I", .fieldLink RX6 111 "MemoParserModel" "size" "I"] ++ wsX60)
def wsX6_byteAt : List Cond := .code yX6_byteAt cX6_byteAt 2 (some .int) :: ([.fieldLink RX6 72 "MemoParserModel" "thrown" "I", .fieldLink RX6 111 "MemoParserModel" "size" "I", .fieldLink RX6 22 "MemoParserModel" "text" "[I", .methodLink RX6 78 yX6_fail, .instanceMethod yX6_fail, .selects RX6 yX6_fail yX6_fail, .initialized RX6, .code yX6_fail cX6_fail 2 (some .int)] ++ wsX60)
def wsX6_succeed : List Cond := .code yX6_succeed cX6_succeed 2 (some .int) :: ([.fieldLink RX6 121 "MemoParserModel" "hasCut" "Z"] ++ wsX60)
def wsX6_miss : List Cond := .code yX6_miss cX6_miss 2 (some .int) :: ([.fieldLink RX6 121 "MemoParserModel" "hasCut" "Z"] ++ wsX60)
def wsX6_lookAt : List Cond := .code yX6_lookAt cX6_lookAt 5 (some .int) :: ([.fieldLink RX6 150 "MemoParserModel" "progresses" "I", .fieldLink RX6 53 "MemoParserModel" "looked" "[I", .methodLink RX6 153 Lib.Math.max.name, .static Lib.Math.max.name, .initialized "java/lang/Math", .code Lib.Math.max.name Lib.Math.max.code 2 (some .int), .fieldLink RX6 111 "MemoParserModel" "size" "I", .fieldLink RX6 22 "MemoParserModel" "text" "[I", .fieldLink RX6 59 "MemoParserModel" "farthest" "I", .methodLink RX6 135 yX6_succeed, .instanceMethod yX6_succeed, .selects RX6 yX6_succeed yX6_succeed, .initialized RX6, .code yX6_succeed cX6_succeed 2 (some .int), .fieldLink RX6 121 "MemoParserModel" "hasCut" "Z", .methodLink RX6 131 yX6_miss, .instanceMethod yX6_miss, .selects RX6 yX6_miss yX6_miss, .code yX6_miss cX6_miss 2 (some .int)] ++ wsX60)
def wsX6_isInProgress : List Cond := .code yX6_isInProgress cX6_isInProgress 5 (some .boolean) :: ([.fieldLink RX6 150 "MemoParserModel" "progresses" "I", .fieldLink RX6 38 "MemoParserModel" "progressRules" "[I", .fieldLink RX6 41 "MemoParserModel" "progressPlaces" "[I"] ++ wsX60)
def wsX6_isShut : List Cond := .code yX6_isShut cX6_isShut 5 (some .boolean) :: ([.fieldLink RX6 35 "MemoParserModel" "names" "[I", .methodLink RX6 159 yX6_isInProgress, .instanceMethod yX6_isInProgress, .selects RX6 yX6_isInProgress yX6_isInProgress, .initialized RX6, .code yX6_isInProgress cX6_isInProgress 5 (some .boolean), .fieldLink RX6 150 "MemoParserModel" "progresses" "I", .fieldLink RX6 38 "MemoParserModel" "progressRules" "[I", .fieldLink RX6 41 "MemoParserModel" "progressPlaces" "[I"] ++ wsX60)
def wsX6_name : List Cond := .code yX6_name cX6_name 4 none :: ([.fieldLink RX6 150 "MemoParserModel" "progresses" "I", .fieldLink RX6 41 "MemoParserModel" "progressPlaces" "[I", .fieldLink RX6 56 "MemoParserModel" "named" "[I"] ++ wsX60)
def wsX6_ask : List Cond := .code yX6_ask cX6_ask 3 (some .int) :: ([.fieldLink RX6 47 "MemoParserModel" "areAsked" "[Z", .fieldLink RX6 150 "MemoParserModel" "progresses" "I", .fieldLink RX6 50 "MemoParserModel" "lean" "[Z", .fieldLink RX6 44 "MemoParserModel" "seeds" "[I"] ++ wsX60)
def wsX6_look_r1 : List Cond := [Cond.fieldLink RX6 125 "MemoParserModel" "isExhausted" "Z", Cond.fieldLink RX6 128 "MemoParserModel" "work" "I", Cond.fieldLink RX6 13 "MemoParserModel" "as" "[I", Cond.fieldLink RX6 9 "MemoParserModel" "kinds" "[I", Cond.fieldLink RX6 121 "MemoParserModel" "hasCut" "Z", Cond.fieldLink RX6 16 "MemoParserModel" "bs" "[I", Cond.methodLink RX6 131 yX6_miss, Cond.instanceMethod yX6_miss, Cond.selects RX6 yX6_miss yX6_miss, Cond.initialized RX6, Cond.code yX6_miss cX6_miss 2 (some .int), Cond.methodLink RX6 135 yX6_succeed, Cond.instanceMethod yX6_succeed, Cond.selects RX6 yX6_succeed yX6_succeed, Cond.code yX6_succeed cX6_succeed 2 (some .int), Cond.methodLink RX6 138 yX6_lookAt, Cond.instanceMethod yX6_lookAt, Cond.selects RX6 yX6_lookAt yX6_lookAt, Cond.code yX6_lookAt cX6_lookAt 5 (some .int), Cond.fieldLink RX6 150 "MemoParserModel" "progresses" "I", Cond.fieldLink RX6 53 "MemoParserModel" "looked" "[I", Cond.methodLink RX6 153 Lib.Math.max.name, Cond.static Lib.Math.max.name, Cond.initialized "java/lang/Math"]
def wsX6_look_r2 : List Cond := [Cond.code Lib.Math.max.name Lib.Math.max.code 2 (some .int), Cond.fieldLink RX6 111 "MemoParserModel" "size" "I", Cond.fieldLink RX6 22 "MemoParserModel" "text" "[I", Cond.fieldLink RX6 59 "MemoParserModel" "farthest" "I", Cond.methodLink RX6 141 yX6_lookRule, Cond.instanceMethod yX6_lookRule, Cond.selects RX6 yX6_lookRule yX6_lookRule, Cond.methodLink RX6 144 yX6_look, Cond.instanceMethod yX6_look, Cond.selects RX6 yX6_look yX6_look, Cond.methodLink RX6 147 yX6_lookAgain, Cond.instanceMethod yX6_lookAgain, Cond.selects RX6 yX6_lookAgain yX6_lookAgain, Cond.code yX6_lookAgain cX6_lookAgain 6 (some .int), Cond.code yX6_lookRule cX6_lookRule 7 (some .int), Cond.fieldLink RX6 19 "MemoParserModel" "rules" "[I", Cond.fieldLink RX6 25 "MemoParserModel" "isKnown" "[Z", Cond.fieldLink RX6 166 "MemoParserModel" "hits" "I", Cond.fieldLink RX6 35 "MemoParserModel" "names" "[I", Cond.fieldLink RX6 32 "MemoParserModel" "reaches" "[I", Cond.fieldLink RX6 29 "MemoParserModel" "results" "[I", Cond.fieldLink RX6 38 "MemoParserModel" "progressRules" "[I", Cond.fieldLink RX6 41 "MemoParserModel" "progressPlaces" "[I", Cond.fieldLink RX6 44 "MemoParserModel" "seeds" "[I"]
def wsX6_look_r3 : List Cond := [Cond.fieldLink RX6 47 "MemoParserModel" "areAsked" "[Z", Cond.fieldLink RX6 50 "MemoParserModel" "lean" "[Z", Cond.fieldLink RX6 56 "MemoParserModel" "named" "[I", Cond.fieldLink RX6 176 "MemoParserModel" "growths" "I", Cond.methodLink RX6 163 yX6_isShut, Cond.instanceMethod yX6_isShut, Cond.selects RX6 yX6_isShut yX6_isShut, Cond.code yX6_isShut cX6_isShut 5 (some .boolean), Cond.methodLink RX6 159 yX6_isInProgress, Cond.instanceMethod yX6_isInProgress, Cond.selects RX6 yX6_isInProgress yX6_isInProgress, Cond.code yX6_isInProgress cX6_isInProgress 5 (some .boolean), Cond.methodLink RX6 169 yX6_name, Cond.instanceMethod yX6_name, Cond.selects RX6 yX6_name yX6_name, Cond.code yX6_name cX6_name 4 none, Cond.methodLink RX6 173 yX6_ask, Cond.instanceMethod yX6_ask, Cond.selects RX6 yX6_ask yX6_ask, Cond.code yX6_ask cX6_ask 3 (some .int)]
def wsX6_look : List Cond := .code yX6_look cX6_look 7 (some .int) :: ((wsX6_look_r1 ++ (wsX6_look_r2 ++ wsX6_look_r3)) ++ wsX60)
def wsX6_lookAgain_r1 : List Cond := [Cond.fieldLink RX6 125 "MemoParserModel" "isExhausted" "Z", Cond.fieldLink RX6 121 "MemoParserModel" "hasCut" "Z", Cond.methodLink RX6 144 yX6_look, Cond.instanceMethod yX6_look, Cond.selects RX6 yX6_look yX6_look, Cond.initialized RX6, Cond.methodLink RX6 131 yX6_miss, Cond.instanceMethod yX6_miss, Cond.selects RX6 yX6_miss yX6_miss, Cond.code yX6_miss cX6_miss 2 (some .int), Cond.methodLink RX6 135 yX6_succeed, Cond.instanceMethod yX6_succeed, Cond.selects RX6 yX6_succeed yX6_succeed, Cond.code yX6_succeed cX6_succeed 2 (some .int), Cond.code yX6_look cX6_look 7 (some .int), Cond.fieldLink RX6 128 "MemoParserModel" "work" "I", Cond.fieldLink RX6 13 "MemoParserModel" "as" "[I", Cond.fieldLink RX6 9 "MemoParserModel" "kinds" "[I", Cond.fieldLink RX6 16 "MemoParserModel" "bs" "[I", Cond.methodLink RX6 138 yX6_lookAt, Cond.instanceMethod yX6_lookAt, Cond.selects RX6 yX6_lookAt yX6_lookAt, Cond.code yX6_lookAt cX6_lookAt 5 (some .int), Cond.fieldLink RX6 150 "MemoParserModel" "progresses" "I"]
def wsX6_lookAgain_r2 : List Cond := [Cond.fieldLink RX6 53 "MemoParserModel" "looked" "[I", Cond.methodLink RX6 153 Lib.Math.max.name, Cond.static Lib.Math.max.name, Cond.initialized "java/lang/Math", Cond.code Lib.Math.max.name Lib.Math.max.code 2 (some .int), Cond.fieldLink RX6 111 "MemoParserModel" "size" "I", Cond.fieldLink RX6 22 "MemoParserModel" "text" "[I", Cond.fieldLink RX6 59 "MemoParserModel" "farthest" "I", Cond.methodLink RX6 141 yX6_lookRule, Cond.instanceMethod yX6_lookRule, Cond.selects RX6 yX6_lookRule yX6_lookRule, Cond.methodLink RX6 147 yX6_lookAgain, Cond.instanceMethod yX6_lookAgain, Cond.selects RX6 yX6_lookAgain yX6_lookAgain, Cond.code yX6_lookRule cX6_lookRule 7 (some .int), Cond.fieldLink RX6 19 "MemoParserModel" "rules" "[I", Cond.fieldLink RX6 25 "MemoParserModel" "isKnown" "[Z", Cond.fieldLink RX6 166 "MemoParserModel" "hits" "I", Cond.fieldLink RX6 35 "MemoParserModel" "names" "[I", Cond.fieldLink RX6 32 "MemoParserModel" "reaches" "[I", Cond.fieldLink RX6 29 "MemoParserModel" "results" "[I", Cond.fieldLink RX6 38 "MemoParserModel" "progressRules" "[I", Cond.fieldLink RX6 41 "MemoParserModel" "progressPlaces" "[I", Cond.fieldLink RX6 44 "MemoParserModel" "seeds" "[I"]
def wsX6_lookAgain_r3 : List Cond := [Cond.fieldLink RX6 47 "MemoParserModel" "areAsked" "[Z", Cond.fieldLink RX6 50 "MemoParserModel" "lean" "[Z", Cond.fieldLink RX6 56 "MemoParserModel" "named" "[I", Cond.fieldLink RX6 176 "MemoParserModel" "growths" "I", Cond.methodLink RX6 163 yX6_isShut, Cond.instanceMethod yX6_isShut, Cond.selects RX6 yX6_isShut yX6_isShut, Cond.code yX6_isShut cX6_isShut 5 (some .boolean), Cond.methodLink RX6 159 yX6_isInProgress, Cond.instanceMethod yX6_isInProgress, Cond.selects RX6 yX6_isInProgress yX6_isInProgress, Cond.code yX6_isInProgress cX6_isInProgress 5 (some .boolean), Cond.methodLink RX6 169 yX6_name, Cond.instanceMethod yX6_name, Cond.selects RX6 yX6_name yX6_name, Cond.code yX6_name cX6_name 4 none, Cond.methodLink RX6 173 yX6_ask, Cond.instanceMethod yX6_ask, Cond.selects RX6 yX6_ask yX6_ask, Cond.code yX6_ask cX6_ask 3 (some .int)]
def wsX6_lookAgain : List Cond := .code yX6_lookAgain cX6_lookAgain 6 (some .int) :: ((wsX6_lookAgain_r1 ++ (wsX6_lookAgain_r2 ++ wsX6_lookAgain_r3)) ++ wsX60)
def wsX6_lookRule_r1 : List Cond := [Cond.fieldLink RX6 19 "MemoParserModel" "rules" "[I", Cond.fieldLink RX6 25 "MemoParserModel" "isKnown" "[Z", Cond.fieldLink RX6 166 "MemoParserModel" "hits" "I", Cond.fieldLink RX6 35 "MemoParserModel" "names" "[I", Cond.fieldLink RX6 150 "MemoParserModel" "progresses" "I", Cond.fieldLink RX6 53 "MemoParserModel" "looked" "[I", Cond.fieldLink RX6 32 "MemoParserModel" "reaches" "[I", Cond.methodLink RX6 153 Lib.Math.max.name, Cond.static Lib.Math.max.name, Cond.initialized "java/lang/Math", Cond.code Lib.Math.max.name Lib.Math.max.code 2 (some .int), Cond.fieldLink RX6 29 "MemoParserModel" "results" "[I", Cond.fieldLink RX6 38 "MemoParserModel" "progressRules" "[I", Cond.fieldLink RX6 41 "MemoParserModel" "progressPlaces" "[I", Cond.fieldLink RX6 44 "MemoParserModel" "seeds" "[I", Cond.fieldLink RX6 47 "MemoParserModel" "areAsked" "[Z", Cond.fieldLink RX6 50 "MemoParserModel" "lean" "[Z", Cond.fieldLink RX6 56 "MemoParserModel" "named" "[I", Cond.fieldLink RX6 125 "MemoParserModel" "isExhausted" "Z", Cond.fieldLink RX6 176 "MemoParserModel" "growths" "I", Cond.methodLink RX6 163 yX6_isShut, Cond.instanceMethod yX6_isShut, Cond.selects RX6 yX6_isShut yX6_isShut, Cond.initialized RX6]
def wsX6_lookRule_r2 : List Cond := [Cond.code yX6_isShut cX6_isShut 5 (some .boolean), Cond.methodLink RX6 159 yX6_isInProgress, Cond.instanceMethod yX6_isInProgress, Cond.selects RX6 yX6_isInProgress yX6_isInProgress, Cond.code yX6_isInProgress cX6_isInProgress 5 (some .boolean), Cond.methodLink RX6 169 yX6_name, Cond.instanceMethod yX6_name, Cond.selects RX6 yX6_name yX6_name, Cond.code yX6_name cX6_name 4 none, Cond.methodLink RX6 173 yX6_ask, Cond.instanceMethod yX6_ask, Cond.selects RX6 yX6_ask yX6_ask, Cond.code yX6_ask cX6_ask 3 (some .int), Cond.methodLink RX6 144 yX6_look, Cond.instanceMethod yX6_look, Cond.selects RX6 yX6_look yX6_look, Cond.code yX6_look cX6_look 7 (some .int), Cond.fieldLink RX6 128 "MemoParserModel" "work" "I", Cond.fieldLink RX6 13 "MemoParserModel" "as" "[I", Cond.fieldLink RX6 9 "MemoParserModel" "kinds" "[I", Cond.fieldLink RX6 121 "MemoParserModel" "hasCut" "Z", Cond.fieldLink RX6 16 "MemoParserModel" "bs" "[I", Cond.methodLink RX6 131 yX6_miss, Cond.instanceMethod yX6_miss]
def wsX6_lookRule_r3 : List Cond := [Cond.selects RX6 yX6_miss yX6_miss, Cond.code yX6_miss cX6_miss 2 (some .int), Cond.methodLink RX6 135 yX6_succeed, Cond.instanceMethod yX6_succeed, Cond.selects RX6 yX6_succeed yX6_succeed, Cond.code yX6_succeed cX6_succeed 2 (some .int), Cond.methodLink RX6 138 yX6_lookAt, Cond.instanceMethod yX6_lookAt, Cond.selects RX6 yX6_lookAt yX6_lookAt, Cond.code yX6_lookAt cX6_lookAt 5 (some .int), Cond.fieldLink RX6 111 "MemoParserModel" "size" "I", Cond.fieldLink RX6 22 "MemoParserModel" "text" "[I", Cond.fieldLink RX6 59 "MemoParserModel" "farthest" "I", Cond.methodLink RX6 141 yX6_lookRule, Cond.instanceMethod yX6_lookRule, Cond.selects RX6 yX6_lookRule yX6_lookRule, Cond.methodLink RX6 147 yX6_lookAgain, Cond.instanceMethod yX6_lookAgain, Cond.selects RX6 yX6_lookAgain yX6_lookAgain, Cond.code yX6_lookAgain cX6_lookAgain 6 (some .int)]
def wsX6_lookRule : List Cond := .code yX6_lookRule cX6_lookRule 7 (some .int) :: ((wsX6_lookRule_r1 ++ (wsX6_lookRule_r2 ++ wsX6_lookRule_r3)) ++ wsX60)
def wsX6_isPlace : List Cond := .code yX6_isPlace cX6_isPlace 2 (some .boolean) :: ([.fieldLink RX6 111 "MemoParserModel" "size" "I"] ++ wsX60)
def wsX6_parse_r1 : List Cond := [Cond.fieldLink RX6 72 "MemoParserModel" "thrown" "I", Cond.fieldLink RX6 128 "MemoParserModel" "work" "I", Cond.fieldLink RX6 166 "MemoParserModel" "hits" "I", Cond.fieldLink RX6 176 "MemoParserModel" "growths" "I", Cond.fieldLink RX6 59 "MemoParserModel" "farthest" "I", Cond.fieldLink RX6 125 "MemoParserModel" "isExhausted" "Z", Cond.fieldLink RX6 150 "MemoParserModel" "progresses" "I", Cond.methodLink RX6 90 yX6_isRule, Cond.static yX6_isRule, Cond.initialized RX6, Cond.code yX6_isRule cX6_isRule 1 (some .boolean), Cond.methodLink RX6 179 yX6_isPlace, Cond.instanceMethod yX6_isPlace, Cond.selects RX6 yX6_isPlace yX6_isPlace, Cond.code yX6_isPlace cX6_isPlace 2 (some .boolean), Cond.fieldLink RX6 111 "MemoParserModel" "size" "I", Cond.methodLink RX6 78 yX6_fail, Cond.instanceMethod yX6_fail, Cond.selects RX6 yX6_fail yX6_fail, Cond.code yX6_fail cX6_fail 2 (some .int), Cond.methodLink RX6 141 yX6_lookRule, Cond.instanceMethod yX6_lookRule, Cond.selects RX6 yX6_lookRule yX6_lookRule, Cond.code yX6_lookRule cX6_lookRule 7 (some .int)]
def wsX6_parse_r2 : List Cond := [Cond.fieldLink RX6 19 "MemoParserModel" "rules" "[I", Cond.fieldLink RX6 25 "MemoParserModel" "isKnown" "[Z", Cond.fieldLink RX6 35 "MemoParserModel" "names" "[I", Cond.fieldLink RX6 53 "MemoParserModel" "looked" "[I", Cond.fieldLink RX6 32 "MemoParserModel" "reaches" "[I", Cond.methodLink RX6 153 Lib.Math.max.name, Cond.static Lib.Math.max.name, Cond.initialized "java/lang/Math", Cond.code Lib.Math.max.name Lib.Math.max.code 2 (some .int), Cond.fieldLink RX6 29 "MemoParserModel" "results" "[I", Cond.fieldLink RX6 38 "MemoParserModel" "progressRules" "[I", Cond.fieldLink RX6 41 "MemoParserModel" "progressPlaces" "[I", Cond.fieldLink RX6 44 "MemoParserModel" "seeds" "[I", Cond.fieldLink RX6 47 "MemoParserModel" "areAsked" "[Z", Cond.fieldLink RX6 50 "MemoParserModel" "lean" "[Z", Cond.fieldLink RX6 56 "MemoParserModel" "named" "[I", Cond.methodLink RX6 163 yX6_isShut, Cond.instanceMethod yX6_isShut, Cond.selects RX6 yX6_isShut yX6_isShut, Cond.code yX6_isShut cX6_isShut 5 (some .boolean), Cond.methodLink RX6 159 yX6_isInProgress, Cond.instanceMethod yX6_isInProgress, Cond.selects RX6 yX6_isInProgress yX6_isInProgress, Cond.code yX6_isInProgress cX6_isInProgress 5 (some .boolean)]
def wsX6_parse_r3 : List Cond := [Cond.methodLink RX6 169 yX6_name, Cond.instanceMethod yX6_name, Cond.selects RX6 yX6_name yX6_name, Cond.code yX6_name cX6_name 4 none, Cond.methodLink RX6 173 yX6_ask, Cond.instanceMethod yX6_ask, Cond.selects RX6 yX6_ask yX6_ask, Cond.code yX6_ask cX6_ask 3 (some .int), Cond.methodLink RX6 144 yX6_look, Cond.instanceMethod yX6_look, Cond.selects RX6 yX6_look yX6_look, Cond.code yX6_look cX6_look 7 (some .int), Cond.fieldLink RX6 13 "MemoParserModel" "as" "[I", Cond.fieldLink RX6 9 "MemoParserModel" "kinds" "[I", Cond.fieldLink RX6 121 "MemoParserModel" "hasCut" "Z", Cond.fieldLink RX6 16 "MemoParserModel" "bs" "[I", Cond.methodLink RX6 131 yX6_miss, Cond.instanceMethod yX6_miss, Cond.selects RX6 yX6_miss yX6_miss, Cond.code yX6_miss cX6_miss 2 (some .int), Cond.methodLink RX6 135 yX6_succeed, Cond.instanceMethod yX6_succeed, Cond.selects RX6 yX6_succeed yX6_succeed, Cond.code yX6_succeed cX6_succeed 2 (some .int)]
def wsX6_parse_r4 : List Cond := [Cond.methodLink RX6 138 yX6_lookAt, Cond.instanceMethod yX6_lookAt, Cond.selects RX6 yX6_lookAt yX6_lookAt, Cond.code yX6_lookAt cX6_lookAt 5 (some .int), Cond.fieldLink RX6 22 "MemoParserModel" "text" "[I", Cond.methodLink RX6 147 yX6_lookAgain, Cond.instanceMethod yX6_lookAgain, Cond.selects RX6 yX6_lookAgain yX6_lookAgain, Cond.code yX6_lookAgain cX6_lookAgain 6 (some .int), Cond.methodLink RX6 96 yX6_forgetAll, Cond.instanceMethod yX6_forgetAll, Cond.selects RX6 yX6_forgetAll yX6_forgetAll, Cond.code yX6_forgetAll cX6_forgetAll 3 (some .int), Cond.methodLink RX6 182 yX6_countAll, Cond.instanceMethod yX6_countAll, Cond.selects RX6 yX6_countAll yX6_countAll, Cond.code yX6_countAll cX6_countAll 3 (some .int)]
def wsX6_parse : List Cond := .code yX6_parse cX6_parse 4 (some .int) :: ((wsX6_parse_r1 ++ (wsX6_parse_r2 ++ (wsX6_parse_r3 ++ wsX6_parse_r4))) ++ wsX60)
def wsX6_work : List Cond := .code yX6_work cX6_work 1 (some .int) :: ([.fieldLink RX6 72 "MemoParserModel" "thrown" "I", .fieldLink RX6 128 "MemoParserModel" "work" "I"] ++ wsX60)
def wsX6_hits : List Cond := .code yX6_hits cX6_hits 1 (some .int) :: ([.fieldLink RX6 72 "MemoParserModel" "thrown" "I", .fieldLink RX6 166 "MemoParserModel" "hits" "I"] ++ wsX60)
def wsX6_growths : List Cond := .code yX6_growths cX6_growths 1 (some .int) :: ([.fieldLink RX6 72 "MemoParserModel" "thrown" "I", .fieldLink RX6 176 "MemoParserModel" "growths" "I"] ++ wsX60)
def wsX6_farthest : List Cond := .code yX6_farthest cX6_farthest 1 (some .int) :: ([.fieldLink RX6 72 "MemoParserModel" "thrown" "I", .fieldLink RX6 59 "MemoParserModel" "farthest" "I"] ++ wsX60)
def wsX6_remembered : List Cond := .code yX6_remembered cX6_remembered 1 (some .int) :: ([.fieldLink RX6 72 "MemoParserModel" "thrown" "I", .methodLink RX6 182 yX6_countAll, .instanceMethod yX6_countAll, .selects RX6 yX6_countAll yX6_countAll, .initialized RX6, .code yX6_countAll cX6_countAll 3 (some .int), .fieldLink RX6 25 "MemoParserModel" "isKnown" "[Z"] ++ wsX60)
def wsX6_result : List Cond := .code yX6_result cX6_result 3 (some .int) :: ([.fieldLink RX6 72 "MemoParserModel" "thrown" "I", .fieldLink RX6 25 "MemoParserModel" "isKnown" "[Z", .fieldLink RX6 29 "MemoParserModel" "results" "[I", .methodLink RX6 90 yX6_isRule, .static yX6_isRule, .initialized RX6, .code yX6_isRule cX6_isRule 1 (some .boolean), .methodLink RX6 179 yX6_isPlace, .instanceMethod yX6_isPlace, .selects RX6 yX6_isPlace yX6_isPlace, .code yX6_isPlace cX6_isPlace 2 (some .boolean), .fieldLink RX6 111 "MemoParserModel" "size" "I", .methodLink RX6 78 yX6_fail, .instanceMethod yX6_fail, .selects RX6 yX6_fail yX6_fail, .code yX6_fail cX6_fail 2 (some .int)] ++ wsX60)
def wsX6_reach : List Cond := .code yX6_reach cX6_reach 3 (some .int) :: ([.fieldLink RX6 72 "MemoParserModel" "thrown" "I", .fieldLink RX6 25 "MemoParserModel" "isKnown" "[Z", .fieldLink RX6 32 "MemoParserModel" "reaches" "[I", .methodLink RX6 90 yX6_isRule, .static yX6_isRule, .initialized RX6, .code yX6_isRule cX6_isRule 1 (some .boolean), .methodLink RX6 179 yX6_isPlace, .instanceMethod yX6_isPlace, .selects RX6 yX6_isPlace yX6_isPlace, .code yX6_isPlace cX6_isPlace 2 (some .boolean), .fieldLink RX6 111 "MemoParserModel" "size" "I", .methodLink RX6 78 yX6_fail, .instanceMethod yX6_fail, .selects RX6 yX6_fail yX6_fail, .code yX6_fail cX6_fail 2 (some .int)] ++ wsX60)
def wsX6_forget : List Cond := .code yX6_forget cX6_forget 1 (some .int) :: ([.fieldLink RX6 72 "MemoParserModel" "thrown" "I", .methodLink RX6 96 yX6_forgetAll, .instanceMethod yX6_forgetAll, .selects RX6 yX6_forgetAll yX6_forgetAll, .initialized RX6, .code yX6_forgetAll cX6_forgetAll 3 (some .int), .fieldLink RX6 25 "MemoParserModel" "isKnown" "[Z", .methodLink RX6 182 yX6_countAll, .instanceMethod yX6_countAll, .selects RX6 yX6_countAll yX6_countAll, .code yX6_countAll cX6_countAll 3 (some .int)] ++ wsX60)
def wsX6_digest : List Cond := .code yX6_digest cX6_digest 6 (some .long) :: ([.fieldLink RX6 72 "MemoParserModel" "thrown" "I", .constantLong RX6 185 (3317), .fieldLink RX6 75 "MemoParserModel" "expressions" "I", .constantLong RX6 187 (31), .fieldLink RX6 19 "MemoParserModel" "rules" "[I", .fieldLink RX6 111 "MemoParserModel" "size" "I", .fieldLink RX6 22 "MemoParserModel" "text" "[I", .fieldLink RX6 25 "MemoParserModel" "isKnown" "[Z", .fieldLink RX6 29 "MemoParserModel" "results" "[I", .fieldLink RX6 32 "MemoParserModel" "reaches" "[I", .fieldLink RX6 128 "MemoParserModel" "work" "I", .fieldLink RX6 166 "MemoParserModel" "hits" "I", .fieldLink RX6 176 "MemoParserModel" "growths" "I"] ++ wsX60)
def wsJ9_max_7cf53 : List Cond := .code yJ9_max_7cf53 cJ9_max_7cf53 2 (some .int) :: ([])
def wsJ9_min_7cf53 : List Cond := .code yJ9_min_7cf53 cJ9_min_7cf53 2 (some .int) :: ([])
def wsL_plain_r1 : List Cond := [Cond.classLink RL 13 "java/lang/IllegalArgumentException", Cond.classLink RL 15 "java/lang/IllegalStateException", Cond.methodLink RL 7 yX5_plain, Cond.instanceMethod yX5_plain, Cond.selects RX5 yX5_plain yX5_plain, Cond.initialized RX5, Cond.code yX5_plain cX5_plain 2 (some .int), Cond.classLink RX5 39 "java/lang/IllegalArgumentException", Cond.initialized "java/lang/IllegalArgumentException", Cond.fieldLink RX5 12 "MemoParser" "grammar" "LMemoParser$Grammar;", Cond.methodLink RX5 46 yX5_refuseIfFull, Cond.instanceMethod yX5_refuseIfFull, Cond.selects RX5 yX5_refuseIfFull yX5_refuseIfFull, Cond.code yX5_refuseIfFull cX5_refuseIfFull 1 none, Cond.classLink RX5 105 "java/lang/IllegalStateException", Cond.initialized "java/lang/IllegalStateException", Cond.methodLink RX5 173 yX0_isFull, Cond.instanceMethod yX0_isFull, Cond.selects RX0 yX0_isFull yX0_isFull, Cond.initialized RX0, Cond.code yX0_isFull cX0_isFull 1 (some .boolean), Cond.fieldLink RX0 24 "MemoParser$Grammar" "count" "I", Cond.methodLink RX5 49 yX0_add, Cond.instanceMethod yX0_add]
def wsL_plain_r2 : List Cond := [Cond.selects RX0 yX0_add yX0_add, Cond.code yX0_add cX0_add 5 (some .int), Cond.fieldLink RX0 9 "MemoParser$Grammar" "kinds" "[I", Cond.fieldLink RX0 15 "MemoParser$Grammar" "firsts" "[I", Cond.fieldLink RX0 18 "MemoParser$Grammar" "seconds" "[I"]
def wsL_plain : List Cond := .codeWith yL_plain cL_plain 4 (some .int) [(0, 9, 12, 13), (0, 9, 15, 15)] :: ((wsL_plain_r1 ++ wsL_plain_r2) ++ wsX50 ++ wsX00 ++ (vx_atS RX5 43 "java/lang/IllegalArgumentException" ["java/lang/RuntimeException", "java/lang/Exception"]).filter goodWord ++ (vx_atS RX5 109 "java/lang/IllegalStateException" ["java/lang/RuntimeException", "java/lang/Exception"]).filter goodWord)
def wsL_range_r1 : List Cond := [Cond.classLink RL 13 "java/lang/IllegalArgumentException", Cond.classLink RL 15 "java/lang/IllegalStateException", Cond.methodLink RL 17 yX5_range, Cond.instanceMethod yX5_range, Cond.selects RX5 yX5_range yX5_range, Cond.initialized RX5, Cond.code yX5_range cX5_range 3 (some .int), Cond.classLink RX5 39 "java/lang/IllegalArgumentException", Cond.initialized "java/lang/IllegalArgumentException", Cond.fieldLink RX5 12 "MemoParser" "grammar" "LMemoParser$Grammar;", Cond.methodLink RX5 53 yX5_isByte, Cond.static yX5_isByte, Cond.code yX5_isByte cX5_isByte 1 (some .boolean), Cond.methodLink RX5 46 yX5_refuseIfFull, Cond.instanceMethod yX5_refuseIfFull, Cond.selects RX5 yX5_refuseIfFull yX5_refuseIfFull, Cond.code yX5_refuseIfFull cX5_refuseIfFull 1 none, Cond.classLink RX5 105 "java/lang/IllegalStateException", Cond.initialized "java/lang/IllegalStateException", Cond.methodLink RX5 173 yX0_isFull, Cond.instanceMethod yX0_isFull, Cond.selects RX0 yX0_isFull yX0_isFull, Cond.initialized RX0, Cond.code yX0_isFull cX0_isFull 1 (some .boolean)]
def wsL_range_r2 : List Cond := [Cond.fieldLink RX0 24 "MemoParser$Grammar" "count" "I", Cond.methodLink RX5 49 yX0_add, Cond.instanceMethod yX0_add, Cond.selects RX0 yX0_add yX0_add, Cond.code yX0_add cX0_add 5 (some .int), Cond.fieldLink RX0 9 "MemoParser$Grammar" "kinds" "[I", Cond.fieldLink RX0 15 "MemoParser$Grammar" "firsts" "[I", Cond.fieldLink RX0 18 "MemoParser$Grammar" "seconds" "[I"]
def wsL_range : List Cond := .codeWith yL_range cL_range 5 (some .int) [(0, 10, 13, 13), (0, 10, 17, 15)] :: ((wsL_range_r1 ++ wsL_range_r2) ++ wsX50 ++ wsX00 ++ (vx_atS RX5 43 "java/lang/IllegalArgumentException" ["java/lang/RuntimeException", "java/lang/Exception"]).filter goodWord ++ (vx_atS RX5 109 "java/lang/IllegalStateException" ["java/lang/RuntimeException", "java/lang/Exception"]).filter goodWord)
def wsL_rule_r1 : List Cond := [Cond.classLink RL 24 "java/lang/IndexOutOfBoundsException", Cond.classLink RL 15 "java/lang/IllegalStateException", Cond.methodLink RL 21 yX5_rule, Cond.instanceMethod yX5_rule, Cond.selects RX5 yX5_rule yX5_rule, Cond.initialized RX5, Cond.code yX5_rule cX5_rule 2 (some .int), Cond.fieldLink RX5 12 "MemoParser" "grammar" "LMemoParser$Grammar;", Cond.methodLink RX5 59 yX5_refuseUnknownRule, Cond.static yX5_refuseUnknownRule, Cond.code yX5_refuseUnknownRule cX5_refuseUnknownRule 1 none, Cond.classLink RX5 90 "java/lang/IndexOutOfBoundsException", Cond.initialized "java/lang/IndexOutOfBoundsException", Cond.methodLink RX5 46 yX5_refuseIfFull, Cond.instanceMethod yX5_refuseIfFull, Cond.selects RX5 yX5_refuseIfFull yX5_refuseIfFull, Cond.code yX5_refuseIfFull cX5_refuseIfFull 1 none, Cond.classLink RX5 105 "java/lang/IllegalStateException", Cond.initialized "java/lang/IllegalStateException", Cond.methodLink RX5 173 yX0_isFull, Cond.instanceMethod yX0_isFull, Cond.selects RX0 yX0_isFull yX0_isFull, Cond.initialized RX0, Cond.code yX0_isFull cX0_isFull 1 (some .boolean)]
def wsL_rule_r2 : List Cond := [Cond.fieldLink RX0 24 "MemoParser$Grammar" "count" "I", Cond.methodLink RX5 49 yX0_add, Cond.instanceMethod yX0_add, Cond.selects RX0 yX0_add yX0_add, Cond.code yX0_add cX0_add 5 (some .int), Cond.fieldLink RX0 9 "MemoParser$Grammar" "kinds" "[I", Cond.fieldLink RX0 15 "MemoParser$Grammar" "firsts" "[I", Cond.fieldLink RX0 18 "MemoParser$Grammar" "seconds" "[I"]
def wsL_rule : List Cond := .codeWith yL_rule cL_rule 4 (some .int) [(0, 9, 12, 24), (0, 9, 15, 15)] :: ((wsL_rule_r1 ++ wsL_rule_r2) ++ wsX50 ++ wsX00 ++ (vx_atS RX5 94 "java/lang/IndexOutOfBoundsException" ["java/lang/RuntimeException", "java/lang/Exception"]).filter goodWord ++ (vx_atS RX5 109 "java/lang/IllegalStateException" ["java/lang/RuntimeException", "java/lang/Exception"]).filter goodWord)
def wsL_join_r1 : List Cond := [Cond.classLink RL 24 "java/lang/IndexOutOfBoundsException", Cond.classLink RL 13 "java/lang/IllegalArgumentException", Cond.classLink RL 15 "java/lang/IllegalStateException", Cond.methodLink RL 26 yX5_join, Cond.instanceMethod yX5_join, Cond.selects RX5 yX5_join yX5_join, Cond.initialized RX5, Cond.code yX5_join cX5_join 4 (some .int), Cond.classLink RX5 39 "java/lang/IllegalArgumentException", Cond.initialized "java/lang/IllegalArgumentException", Cond.fieldLink RX5 12 "MemoParser" "grammar" "LMemoParser$Grammar;", Cond.methodLink RX5 63 yX5_refuseUnknownExpression, Cond.instanceMethod yX5_refuseUnknownExpression, Cond.selects RX5 yX5_refuseUnknownExpression yX5_refuseUnknownExpression, Cond.code yX5_refuseUnknownExpression cX5_refuseUnknownExpression 2 none, Cond.classLink RX5 90 "java/lang/IndexOutOfBoundsException", Cond.initialized "java/lang/IndexOutOfBoundsException", Cond.methodLink RX5 179 yX0_has, Cond.instanceMethod yX0_has, Cond.selects RX0 yX0_has yX0_has, Cond.initialized RX0, Cond.code yX0_has cX0_has 2 (some .boolean), Cond.fieldLink RX0 24 "MemoParser$Grammar" "count" "I", Cond.methodLink RX5 46 yX5_refuseIfFull]
def wsL_join_r2 : List Cond := [Cond.instanceMethod yX5_refuseIfFull, Cond.selects RX5 yX5_refuseIfFull yX5_refuseIfFull, Cond.code yX5_refuseIfFull cX5_refuseIfFull 1 none, Cond.classLink RX5 105 "java/lang/IllegalStateException", Cond.initialized "java/lang/IllegalStateException", Cond.methodLink RX5 173 yX0_isFull, Cond.instanceMethod yX0_isFull, Cond.selects RX0 yX0_isFull yX0_isFull, Cond.code yX0_isFull cX0_isFull 1 (some .boolean), Cond.methodLink RX5 49 yX0_add, Cond.instanceMethod yX0_add, Cond.selects RX0 yX0_add yX0_add, Cond.code yX0_add cX0_add 5 (some .int), Cond.fieldLink RX0 9 "MemoParser$Grammar" "kinds" "[I", Cond.fieldLink RX0 15 "MemoParser$Grammar" "firsts" "[I", Cond.fieldLink RX0 18 "MemoParser$Grammar" "seconds" "[I"]
def wsL_join : List Cond := .codeWith yL_join cL_join 6 (some .int) [(0, 12, 15, 24), (0, 12, 19, 13), (0, 12, 23, 15)] :: ((wsL_join_r1 ++ wsL_join_r2) ++ wsX50 ++ wsX00 ++ (vx_atS RX5 43 "java/lang/IllegalArgumentException" ["java/lang/RuntimeException", "java/lang/Exception"]).filter goodWord ++ (vx_atS RX5 94 "java/lang/IndexOutOfBoundsException" ["java/lang/RuntimeException", "java/lang/Exception"]).filter goodWord ++ (vx_atS RX5 109 "java/lang/IllegalStateException" ["java/lang/RuntimeException", "java/lang/Exception"]).filter goodWord)
def wsL_wrap_r1 : List Cond := [Cond.classLink RL 24 "java/lang/IndexOutOfBoundsException", Cond.classLink RL 13 "java/lang/IllegalArgumentException", Cond.classLink RL 15 "java/lang/IllegalStateException", Cond.methodLink RL 30 yX5_wrap, Cond.instanceMethod yX5_wrap, Cond.selects RX5 yX5_wrap yX5_wrap, Cond.initialized RX5, Cond.code yX5_wrap cX5_wrap 3 (some .int), Cond.classLink RX5 39 "java/lang/IllegalArgumentException", Cond.initialized "java/lang/IllegalArgumentException", Cond.fieldLink RX5 12 "MemoParser" "grammar" "LMemoParser$Grammar;", Cond.methodLink RX5 63 yX5_refuseUnknownExpression, Cond.instanceMethod yX5_refuseUnknownExpression, Cond.selects RX5 yX5_refuseUnknownExpression yX5_refuseUnknownExpression, Cond.code yX5_refuseUnknownExpression cX5_refuseUnknownExpression 2 none, Cond.classLink RX5 90 "java/lang/IndexOutOfBoundsException", Cond.initialized "java/lang/IndexOutOfBoundsException", Cond.methodLink RX5 179 yX0_has, Cond.instanceMethod yX0_has, Cond.selects RX0 yX0_has yX0_has, Cond.initialized RX0, Cond.code yX0_has cX0_has 2 (some .boolean), Cond.fieldLink RX0 24 "MemoParser$Grammar" "count" "I", Cond.methodLink RX5 46 yX5_refuseIfFull]
def wsL_wrap_r2 : List Cond := [Cond.instanceMethod yX5_refuseIfFull, Cond.selects RX5 yX5_refuseIfFull yX5_refuseIfFull, Cond.code yX5_refuseIfFull cX5_refuseIfFull 1 none, Cond.classLink RX5 105 "java/lang/IllegalStateException", Cond.initialized "java/lang/IllegalStateException", Cond.methodLink RX5 173 yX0_isFull, Cond.instanceMethod yX0_isFull, Cond.selects RX0 yX0_isFull yX0_isFull, Cond.code yX0_isFull cX0_isFull 1 (some .boolean), Cond.methodLink RX5 49 yX0_add, Cond.instanceMethod yX0_add, Cond.selects RX0 yX0_add yX0_add, Cond.code yX0_add cX0_add 5 (some .int), Cond.fieldLink RX0 9 "MemoParser$Grammar" "kinds" "[I", Cond.fieldLink RX0 15 "MemoParser$Grammar" "firsts" "[I", Cond.fieldLink RX0 18 "MemoParser$Grammar" "seconds" "[I"]
def wsL_wrap : List Cond := .codeWith yL_wrap cL_wrap 5 (some .int) [(0, 10, 13, 24), (0, 10, 17, 13), (0, 10, 21, 15)] :: ((wsL_wrap_r1 ++ wsL_wrap_r2) ++ wsX50 ++ wsX00 ++ (vx_atS RX5 43 "java/lang/IllegalArgumentException" ["java/lang/RuntimeException", "java/lang/Exception"]).filter goodWord ++ (vx_atS RX5 94 "java/lang/IndexOutOfBoundsException" ["java/lang/RuntimeException", "java/lang/Exception"]).filter goodWord ++ (vx_atS RX5 109 "java/lang/IllegalStateException" ["java/lang/RuntimeException", "java/lang/Exception"]).filter goodWord)
def wsL_define_r1 : List Cond := [Cond.classLink RL 24 "java/lang/IndexOutOfBoundsException", Cond.methodLink RL 33 yX5_define, Cond.instanceMethod yX5_define, Cond.selects RX5 yX5_define yX5_define, Cond.initialized RX5, Cond.code yX5_define cX5_define 3 (some .int), Cond.fieldLink RX5 26 "MemoParser" "memory" "LMemoParser$Memory;", Cond.fieldLink RX5 12 "MemoParser" "grammar" "LMemoParser$Grammar;", Cond.methodLink RX5 59 yX5_refuseUnknownRule, Cond.static yX5_refuseUnknownRule, Cond.code yX5_refuseUnknownRule cX5_refuseUnknownRule 1 none, Cond.classLink RX5 90 "java/lang/IndexOutOfBoundsException", Cond.initialized "java/lang/IndexOutOfBoundsException", Cond.methodLink RX5 63 yX5_refuseUnknownExpression, Cond.instanceMethod yX5_refuseUnknownExpression, Cond.selects RX5 yX5_refuseUnknownExpression yX5_refuseUnknownExpression, Cond.code yX5_refuseUnknownExpression cX5_refuseUnknownExpression 2 none, Cond.methodLink RX5 179 yX0_has, Cond.instanceMethod yX0_has, Cond.selects RX0 yX0_has yX0_has, Cond.initialized RX0, Cond.code yX0_has cX0_has 2 (some .boolean), Cond.fieldLink RX0 24 "MemoParser$Grammar" "count" "I", Cond.methodLink RX5 70 yX1_clear]
def wsL_define_r2 : List Cond := [Cond.instanceMethod yX1_clear, Cond.selects RX1 yX1_clear yX1_clear, Cond.initialized RX1, Cond.code yX1_clear cX1_clear 2 none, Cond.methodLink RX1 27 yX1_drop, Cond.instanceMethod yX1_drop, Cond.selects RX1 yX1_drop yX1_drop, Cond.code yX1_drop cX1_drop 2 none, Cond.methodLink RX1 43 yX1_put, Cond.instanceMethod yX1_put, Cond.selects RX1 yX1_put yX1_put, Cond.code yX1_put cX1_put 5 none, Cond.fieldLink RX1 9 "MemoParser$Memory" "results" "[I", Cond.fieldLink RX1 15 "MemoParser$Memory" "reaches" "[I", Cond.fieldLink RX1 18 "MemoParser$Memory" "names" "[I", Cond.methodLink RX5 73 yX0_give, Cond.instanceMethod yX0_give, Cond.selects RX0 yX0_give yX0_give, Cond.code yX0_give cX0_give 4 (some .int), Cond.fieldLink RX0 21 "MemoParser$Grammar" "ruleExpressions" "[I"]
def wsL_define : List Cond := .codeWith yL_define cL_define 5 (some .int) [(0, 10, 13, 24)] :: ((wsL_define_r1 ++ wsL_define_r2) ++ wsX50 ++ wsX00 ++ wsX10 ++ (vx_atS RX5 94 "java/lang/IndexOutOfBoundsException" ["java/lang/RuntimeException", "java/lang/Exception"]).filter goodWord)
def wsL_canBeEmpty_r1 : List Cond := [Cond.classLink RL 24 "java/lang/IndexOutOfBoundsException", Cond.methodLink RL 36 yX5_canBeEmpty, Cond.instanceMethod yX5_canBeEmpty, Cond.selects RX5 yX5_canBeEmpty yX5_canBeEmpty, Cond.initialized RX5, Cond.code yX5_canBeEmpty cX5_canBeEmpty 2 (some .boolean), Cond.fieldLink RX5 12 "MemoParser" "grammar" "LMemoParser$Grammar;", Cond.methodLink RX5 63 yX5_refuseUnknownExpression, Cond.instanceMethod yX5_refuseUnknownExpression, Cond.selects RX5 yX5_refuseUnknownExpression yX5_refuseUnknownExpression, Cond.code yX5_refuseUnknownExpression cX5_refuseUnknownExpression 2 none, Cond.classLink RX5 90 "java/lang/IndexOutOfBoundsException", Cond.initialized "java/lang/IndexOutOfBoundsException", Cond.methodLink RX5 179 yX0_has, Cond.instanceMethod yX0_has, Cond.selects RX0 yX0_has yX0_has, Cond.initialized RX0, Cond.code yX0_has cX0_has 2 (some .boolean), Cond.fieldLink RX0 24 "MemoParser$Grammar" "count" "I", Cond.methodLink RX5 81 yX0_succeedsInPlace, Cond.instanceMethod yX0_succeedsInPlace, Cond.selects RX0 yX0_succeedsInPlace yX0_succeedsInPlace, Cond.code yX0_succeedsInPlace cX0_succeedsInPlace 2 (some .boolean), Cond.fieldLink RX0 28 "MemoParser$Grammar" "empties" "[Z"]
def wsL_canBeEmpty_r2 : List Cond := [Cond.methodLink RX0 44 yX0_findEmpties, Cond.instanceMethod yX0_findEmpties, Cond.selects RX0 yX0_findEmpties yX0_findEmpties, Cond.code yX0_findEmpties cX0_findEmpties 4 none, Cond.fieldLink RX0 32 "MemoParser$Grammar" "emptyRules" "[Z", Cond.methodLink RX0 61 yJ7_fill_49daa, Cond.static yJ7_fill_49daa, Cond.initialized RJ7, Cond.code yJ7_fill_49daa cJ7_fill_49daa 4 none, Cond.methodLink RX0 64 yX0_isEmptyByForm, Cond.instanceMethod yX0_isEmptyByForm, Cond.selects RX0 yX0_isEmptyByForm yX0_isEmptyByForm, Cond.code yX0_isEmptyByForm cX0_isEmptyByForm 4 (some .boolean), Cond.fieldLink RX0 15 "MemoParser$Grammar" "firsts" "[I", Cond.fieldLink RX0 18 "MemoParser$Grammar" "seconds" "[I", Cond.fieldLink RX0 9 "MemoParser$Grammar" "kinds" "[I", Cond.methodLink RX0 68 yX0_addEmptyRules, Cond.instanceMethod yX0_addEmptyRules, Cond.selects RX0 yX0_addEmptyRules yX0_addEmptyRules, Cond.code yX0_addEmptyRules cX0_addEmptyRules 4 (some .boolean), Cond.fieldLink RX0 21 "MemoParser$Grammar" "ruleExpressions" "[I", Cond.methodLink RX0 72 yX0_has]
def wsL_canBeEmpty : List Cond := .codeWith yL_canBeEmpty cL_canBeEmpty 4 (some .int) [(0, 16, 19, 24)] :: ((wsL_canBeEmpty_r1 ++ wsL_canBeEmpty_r2) ++ wsX50 ++ wsX00 ++ (vx_atS RX5 94 "java/lang/IndexOutOfBoundsException" ["java/lang/RuntimeException", "java/lang/Exception"]).filter goodWord)
def wsL_isLeftRecursive_r1 : List Cond := [Cond.classLink RL 24 "java/lang/IndexOutOfBoundsException", Cond.methodLink RL 40 yX5_isLeftRecursive, Cond.instanceMethod yX5_isLeftRecursive, Cond.selects RX5 yX5_isLeftRecursive yX5_isLeftRecursive, Cond.initialized RX5, Cond.code yX5_isLeftRecursive cX5_isLeftRecursive 2 (some .boolean), Cond.fieldLink RX5 12 "MemoParser" "grammar" "LMemoParser$Grammar;", Cond.methodLink RX5 59 yX5_refuseUnknownRule, Cond.static yX5_refuseUnknownRule, Cond.code yX5_refuseUnknownRule cX5_refuseUnknownRule 1 none, Cond.classLink RX5 90 "java/lang/IndexOutOfBoundsException", Cond.initialized "java/lang/IndexOutOfBoundsException", Cond.methodLink RX5 84 yX0_beginsWithItself, Cond.instanceMethod yX0_beginsWithItself, Cond.selects RX0 yX0_beginsWithItself yX0_beginsWithItself, Cond.initialized RX0, Cond.code yX0_beginsWithItself cX0_beginsWithItself 5 (some .boolean), Cond.methodLink RX0 44 yX0_findEmpties, Cond.instanceMethod yX0_findEmpties, Cond.selects RX0 yX0_findEmpties yX0_findEmpties, Cond.code yX0_findEmpties cX0_findEmpties 4 none, Cond.fieldLink RX0 32 "MemoParser$Grammar" "emptyRules" "[Z", Cond.fieldLink RX0 24 "MemoParser$Grammar" "count" "I", Cond.fieldLink RX0 28 "MemoParser$Grammar" "empties" "[Z"]
def wsL_isLeftRecursive_r2 : List Cond := [Cond.methodLink RX0 61 yJ7_fill_49daa, Cond.static yJ7_fill_49daa, Cond.initialized RJ7, Cond.code yJ7_fill_49daa cJ7_fill_49daa 4 none, Cond.methodLink RX0 64 yX0_isEmptyByForm, Cond.instanceMethod yX0_isEmptyByForm, Cond.selects RX0 yX0_isEmptyByForm yX0_isEmptyByForm, Cond.code yX0_isEmptyByForm cX0_isEmptyByForm 4 (some .boolean), Cond.fieldLink RX0 15 "MemoParser$Grammar" "firsts" "[I", Cond.fieldLink RX0 18 "MemoParser$Grammar" "seconds" "[I", Cond.fieldLink RX0 9 "MemoParser$Grammar" "kinds" "[I", Cond.methodLink RX0 68 yX0_addEmptyRules, Cond.instanceMethod yX0_addEmptyRules, Cond.selects RX0 yX0_addEmptyRules yX0_addEmptyRules, Cond.code yX0_addEmptyRules cX0_addEmptyRules 4 (some .boolean), Cond.fieldLink RX0 21 "MemoParser$Grammar" "ruleExpressions" "[I", Cond.methodLink RX0 72 yX0_has, Cond.instanceMethod yX0_has, Cond.selects RX0 yX0_has yX0_has, Cond.code yX0_has cX0_has 2 (some .boolean), Cond.methodLink RX0 47 yX0_findBeginnings, Cond.instanceMethod yX0_findBeginnings, Cond.selects RX0 yX0_findBeginnings yX0_findBeginnings, Cond.code yX0_findBeginnings cX0_findBeginnings 2 none]
def wsL_isLeftRecursive_r3 : List Cond := [Cond.fieldLink RX0 35 "MemoParser$Grammar" "beginnings" "[I", Cond.methodLink RX0 75 yX0_beginningsByForm, Cond.instanceMethod yX0_beginningsByForm, Cond.selects RX0 yX0_beginningsByForm yX0_beginningsByForm, Cond.code yX0_beginningsByForm cX0_beginningsByForm 4 (some .int), Cond.static yX5_bit, Cond.code yX5_bit cX5_bit 1 (some .int), Cond.methodLink RX0 50 yX0_beginningsOfRule, Cond.instanceMethod yX0_beginningsOfRule, Cond.selects RX0 yX0_beginningsOfRule yX0_beginningsOfRule, Cond.code yX0_beginningsOfRule cX0_beginningsOfRule 3 (some .int)]
def wsL_isLeftRecursive : List Cond := .codeWith yL_isLeftRecursive cL_isLeftRecursive 4 (some .int) [(0, 16, 19, 24)] :: ((wsL_isLeftRecursive_r1 ++ (wsL_isLeftRecursive_r2 ++ wsL_isLeftRecursive_r3)) ++ wsX50 ++ wsX00 ++ (vx_atS RX5 94 "java/lang/IndexOutOfBoundsException" ["java/lang/RuntimeException", "java/lang/Exception"]).filter goodWord)
def wsL_replace_r1 : List Cond := [Cond.classLink RL 24 "java/lang/IndexOutOfBoundsException", Cond.classLink RL 13 "java/lang/IllegalArgumentException", Cond.classLink RL 15 "java/lang/IllegalStateException", Cond.methodLink RL 43 yX5_replace, Cond.instanceMethod yX5_replace, Cond.selects RX5 yX5_replace yX5_replace, Cond.initialized RX5, Cond.code yX5_replace cX5_replace 7 (some .int), Cond.classLink RX5 90 "java/lang/IndexOutOfBoundsException", Cond.initialized "java/lang/IndexOutOfBoundsException", Cond.classLink RX5 39 "java/lang/IllegalArgumentException", Cond.initialized "java/lang/IllegalArgumentException", Cond.classLink RX5 105 "java/lang/IllegalStateException", Cond.initialized "java/lang/IllegalStateException", Cond.fieldLink RX5 19 "MemoParser" "text" "LMemoParser$Text;", Cond.fieldLink RX5 26 "MemoParser" "memory" "LMemoParser$Memory;", Cond.methodLink RX5 95 yX5_areBytes, Cond.static yX5_areBytes, Cond.code yX5_areBytes cX5_areBytes 4 (some .boolean), Cond.methodLink RX5 186 yX5_packedByte, Cond.static yX5_packedByte, Cond.code yX5_packedByte cX5_packedByte 3 (some .int), Cond.methodLink RX5 53 yX5_isByte, Cond.static yX5_isByte]
def wsL_replace_r2 : List Cond := [Cond.code yX5_isByte cX5_isByte 1 (some .boolean), Cond.methodLink RX5 101 yX5_countBytes, Cond.static yX5_countBytes, Cond.code yX5_countBytes cX5_countBytes 4 (some .int), Cond.methodLink RX5 110 yX1_keepUnchanged, Cond.instanceMethod yX1_keepUnchanged, Cond.selects RX1 yX1_keepUnchanged yX1_keepUnchanged, Cond.initialized RX1, Cond.code yX1_keepUnchanged cX1_keepUnchanged 5 (some .int), Cond.fieldLink RX1 15 "MemoParser$Memory" "reaches" "[I", Cond.methodLink RX1 31 yX1_holds, Cond.instanceMethod yX1_holds, Cond.selects RX1 yX1_holds yX1_holds, Cond.code yX1_holds cX1_holds 2 (some .boolean), Cond.fieldLink RX1 9 "MemoParser$Memory" "results" "[I", Cond.methodLink RX1 27 yX1_drop, Cond.instanceMethod yX1_drop, Cond.selects RX1 yX1_drop yX1_drop, Cond.code yX1_drop cX1_drop 2 none, Cond.methodLink RX1 43 yX1_put, Cond.instanceMethod yX1_put, Cond.selects RX1 yX1_put yX1_put, Cond.code yX1_put cX1_put 5 none, Cond.fieldLink RX1 18 "MemoParser$Memory" "names" "[I"]
def wsL_replace_r3 : List Cond := [Cond.methodLink RX5 113 yX1_shift, Cond.instanceMethod yX1_shift, Cond.selects RX1 yX1_shift yX1_shift, Cond.code yX1_shift cX1_shift 5 none, Cond.methodLink RX1 35 yX1_move, Cond.instanceMethod yX1_move, Cond.selects RX1 yX1_move yX1_move, Cond.code yX1_move cX1_move 5 none, Cond.methodLink RX5 117 yX4_splice, Cond.instanceMethod yX4_splice, Cond.selects RX4 yX4_splice yX4_splice, Cond.initialized RX4, Cond.code yX4_splice cX4_splice 10 none, Cond.fieldLink RX4 9 "MemoParser$Text" "bytes" "[I", Cond.fieldLink RX4 15 "MemoParser$Text" "size" "I", Cond.methodLink RX4 27 arraycopyName, Cond.native arraycopyName, Cond.static arraycopyName, Cond.initialized "java/lang/System"]
def wsL_replace : List Cond := .codeWith yL_replace cL_replace 7 (some .int) [(0, 12, 15, 24), (0, 12, 19, 13), (0, 12, 23, 15)] :: ((wsL_replace_r1 ++ (wsL_replace_r2 ++ wsL_replace_r3)) ++ wsX50 ++ wsX40 ++ wsX10 ++ (vx_atS RX5 94 "java/lang/IndexOutOfBoundsException" ["java/lang/RuntimeException", "java/lang/Exception"]).filter goodWord ++ (vx_atS RX5 43 "java/lang/IllegalArgumentException" ["java/lang/RuntimeException", "java/lang/Exception"]).filter goodWord ++ (vx_atS RX5 109 "java/lang/IllegalStateException" ["java/lang/RuntimeException", "java/lang/Exception"]).filter goodWord)
def wsL_byteAt : List Cond := .codeWith yL_byteAt cL_byteAt 4 (some .int) [(0, 9, 12, 24)] :: ([.classLink RL 24 "java/lang/IndexOutOfBoundsException", .methodLink RL 47 yX5_byteAt, .instanceMethod yX5_byteAt, .selects RX5 yX5_byteAt yX5_byteAt, .initialized RX5, .code yX5_byteAt cX5_byteAt 2 (some .int), .classLink RX5 90 "java/lang/IndexOutOfBoundsException", .initialized "java/lang/IndexOutOfBoundsException", .fieldLink RX5 19 "MemoParser" "text" "LMemoParser$Text;", .methodLink RX5 121 yX4_hasByte, .instanceMethod yX4_hasByte, .selects RX4 yX4_hasByte yX4_hasByte, .initialized RX4, .code yX4_hasByte cX4_hasByte 2 (some .boolean), .fieldLink RX4 15 "MemoParser$Text" "size" "I", .methodLink RX5 126 yX4_byteOrNone, .instanceMethod yX4_byteOrNone, .selects RX4 yX4_byteOrNone yX4_byteOrNone, .code yX4_byteOrNone cX4_byteOrNone 2 (some .int), .fieldLink RX4 9 "MemoParser$Text" "bytes" "[I", .methodLink RX4 19 yX4_hasByte] ++ wsX50 ++ wsX40 ++ (vx_atS RX5 94 "java/lang/IndexOutOfBoundsException" ["java/lang/RuntimeException", "java/lang/Exception"]).filter goodWord)
def wsL_parse_r1 : List Cond := [Cond.classLink RL 24 "java/lang/IndexOutOfBoundsException", Cond.methodLink RL 50 yX5_parse, Cond.instanceMethod yX5_parse, Cond.selects RX5 yX5_parse yX5_parse, Cond.initialized RX5, Cond.code yX5_parse cX5_parse 3 (some .int), Cond.fieldLink RX5 35 "MemoParser" "search" "LMemoParser$Search;", Cond.methodLink RX5 59 yX5_refuseUnknownRule, Cond.static yX5_refuseUnknownRule, Cond.code yX5_refuseUnknownRule cX5_refuseUnknownRule 1 none, Cond.classLink RX5 90 "java/lang/IndexOutOfBoundsException", Cond.initialized "java/lang/IndexOutOfBoundsException", Cond.methodLink RX5 130 yX5_refuseUnknownPlace, Cond.instanceMethod yX5_refuseUnknownPlace, Cond.selects RX5 yX5_refuseUnknownPlace yX5_refuseUnknownPlace, Cond.code yX5_refuseUnknownPlace cX5_refuseUnknownPlace 2 none, Cond.fieldLink RX5 19 "MemoParser" "text" "LMemoParser$Text;", Cond.methodLink RX5 133 yX3_run, Cond.instanceMethod yX3_run, Cond.selects RX3 yX3_run yX3_run, Cond.initialized RX3, Cond.code yX3_run cX3_run 4 (some .int), Cond.fieldLink RX3 18 "MemoParser$Search" "work" "I", Cond.fieldLink RX3 22 "MemoParser$Search" "hits" "I"]
def wsL_parse_r2 : List Cond := [Cond.fieldLink RX3 25 "MemoParser$Search" "growths" "I", Cond.fieldLink RX3 28 "MemoParser$Search" "farthest" "I", Cond.fieldLink RX3 43 "MemoParser$Search" "memory" "LMemoParser$Memory;", Cond.methodLink RX3 47 yX3_lookForRule, Cond.instanceMethod yX3_lookForRule, Cond.selects RX3 yX3_lookForRule yX3_lookForRule, Cond.code yX3_lookForRule cX3_lookForRule 9 (some .int), Cond.fieldLink RX3 12 "MemoParser$Search" "progress" "LMemoParser$Progress;", Cond.fieldLink RX3 35 "MemoParser$Search" "grammar" "LMemoParser$Grammar;", Cond.fieldLink RX3 31 "MemoParser$Search" "cut" "Z", Cond.methodLink RX3 109 yX3_knownResult, Cond.instanceMethod yX3_knownResult, Cond.selects RX3 yX3_knownResult yX3_knownResult, Cond.code yX3_knownResult cX3_knownResult 5 (some .int), Cond.methodLink RX3 133 yX0_has, Cond.instanceMethod yX0_has, Cond.selects RX0 yX0_has yX0_has, Cond.initialized RX0, Cond.code yX0_has cX0_has 2 (some .boolean), Cond.fieldLink RX0 24 "MemoParser$Grammar" "count" "I", Cond.static yX5_cell, Cond.code yX5_cell cX5_cell 2 (some .int), Cond.methodLink RX3 140 yX1_holds, Cond.instanceMethod yX1_holds]
def wsL_parse_r3 : List Cond := [Cond.selects RX1 yX1_holds yX1_holds, Cond.initialized RX1, Cond.code yX1_holds cX1_holds 2 (some .boolean), Cond.fieldLink RX1 9 "MemoParser$Memory" "results" "[I", Cond.methodLink RX3 146 yX2_hasOneOf, Cond.instanceMethod yX2_hasOneOf, Cond.selects RX2 yX2_hasOneOf yX2_hasOneOf, Cond.initialized RX2, Cond.code yX2_hasOneOf cX2_hasOneOf 3 (some .boolean), Cond.fieldLink RX2 37 "MemoParser$Progress" "rulesAt" "[I", Cond.methodLink RX3 90 yX2_countLook, Cond.instanceMethod yX2_countLook, Cond.selects RX2 yX2_countLook yX2_countLook, Cond.code yX2_countLook cX2_countLook 2 none, Cond.fieldLink RX2 40 "MemoParser$Progress" "open" "I", Cond.fieldLink RX2 25 "MemoParser$Progress" "reaches" "[I", Cond.methodLink RX2 69 Lib.Math.max.name, Cond.static Lib.Math.max.name, Cond.initialized "java/lang/Math", Cond.code Lib.Math.max.name Lib.Math.max.code 2 (some .int), Cond.methodLink RX3 153 yX2_countNames, Cond.instanceMethod yX2_countNames, Cond.selects RX2 yX2_countNames yX2_countNames, Cond.code yX2_countNames cX2_countNames 3 none]
def wsL_parse_r4 : List Cond := [Cond.fieldLink RX2 15 "MemoParser$Progress" "places" "[I", Cond.fieldLink RX2 28 "MemoParser$Progress" "names" "[I", Cond.methodLink RX3 162 yX2_askSeed, Cond.instanceMethod yX2_askSeed, Cond.selects RX2 yX2_askSeed yX2_askSeed, Cond.code yX2_askSeed cX2_askSeed 2 (some .int), Cond.fieldLink RX2 21 "MemoParser$Progress" "asked" "[Z", Cond.fieldLink RX2 18 "MemoParser$Progress" "seeds" "[I", Cond.methodLink RX2 66 yX2_countAsked, Cond.instanceMethod yX2_countAsked, Cond.selects RX2 yX2_countAsked yX2_countAsked, Cond.code yX2_countAsked cX2_countAsked 2 none, Cond.fieldLink RX2 31 "MemoParser$Progress" "earliestAsked" "[I", Cond.methodLink RX2 74 Lib.Math.min.name, Cond.static Lib.Math.min.name, Cond.code Lib.Math.min.name Lib.Math.min.code 2 (some .int), Cond.methodLink RX3 112 yX2_isFull, Cond.instanceMethod yX2_isFull, Cond.selects RX2 yX2_isFull yX2_isFull, Cond.code yX2_isFull cX2_isFull 1 (some .boolean), Cond.methodLink RX3 119 yX2_begin, Cond.instanceMethod yX2_begin, Cond.selects RX2 yX2_begin yX2_begin, Cond.code yX2_begin cX2_begin 4 (some .int)]
def wsL_parse_r5 : List Cond := [Cond.fieldLink RX2 9 "MemoParser$Progress" "rules" "[I", Cond.fieldLink RX2 34 "MemoParser$Progress" "numberOf" "[I", Cond.static yX5_bit, Cond.code yX5_bit cX5_bit 1 (some .int), Cond.methodLink RX3 106 yX3_look, Cond.instanceMethod yX3_look, Cond.selects RX3 yX3_look yX3_look, Cond.methodLink RX3 129 yX3_finish, Cond.instanceMethod yX3_finish, Cond.selects RX3 yX3_finish yX3_finish, Cond.code yX3_finish cX3_finish 4 none, Cond.methodLink RX3 165 yX2_askedEarlierOne, Cond.instanceMethod yX2_askedEarlierOne, Cond.selects RX2 yX2_askedEarlierOne yX2_askedEarlierOne, Cond.code yX2_askedEarlierOne cX2_askedEarlierOne 2 (some .boolean), Cond.methodLink RX3 176 yX1_put, Cond.instanceMethod yX1_put, Cond.selects RX1 yX1_put yX1_put, Cond.code yX1_put cX1_put 5 none, Cond.fieldLink RX1 15 "MemoParser$Memory" "reaches" "[I", Cond.fieldLink RX1 18 "MemoParser$Memory" "names" "[I", Cond.methodLink RX3 180 yX2_end, Cond.instanceMethod yX2_end, Cond.selects RX2 yX2_end yX2_end]
def wsL_parse_r6 : List Cond := [Cond.code yX2_end cX2_end 3 none, Cond.methodLink RX2 58 yX2_countLook, Cond.methodLink RX2 62 yX2_countNames, Cond.code yX3_look cX3_look 6 (some .int), Cond.methodLink RX3 68 yX3_lookForRange, Cond.instanceMethod yX3_lookForRange, Cond.selects RX3 yX3_lookForRange yX3_lookForRange, Cond.code yX3_lookForRange cX3_lookForRange 5 (some .int), Cond.fieldLink RX3 39 "MemoParser$Search" "text" "LMemoParser$Text;", Cond.methodLink RX3 100 Lib.Math.max.name, Cond.methodLink RX3 94 yX4_byteOrNone, Cond.instanceMethod yX4_byteOrNone, Cond.selects RX4 yX4_byteOrNone yX4_byteOrNone, Cond.initialized RX4, Cond.code yX4_byteOrNone cX4_byteOrNone 2 (some .int), Cond.fieldLink RX4 9 "MemoParser$Text" "bytes" "[I", Cond.methodLink RX4 19 yX4_hasByte, Cond.instanceMethod yX4_hasByte, Cond.selects RX4 yX4_hasByte yX4_hasByte, Cond.code yX4_hasByte cX4_hasByte 2 (some .boolean), Cond.fieldLink RX4 15 "MemoParser$Text" "size" "I", Cond.methodLink RX3 71 yX3_lookForSequence, Cond.instanceMethod yX3_lookForSequence, Cond.selects RX3 yX3_lookForSequence yX3_lookForSequence]
def wsL_parse_r7 : List Cond := [Cond.methodLink RX3 75 yX3_lookForChoice, Cond.instanceMethod yX3_lookForChoice, Cond.selects RX3 yX3_lookForChoice yX3_lookForChoice, Cond.methodLink RX3 78 yX3_lookForStar, Cond.instanceMethod yX3_lookForStar, Cond.selects RX3 yX3_lookForStar yX3_lookForStar, Cond.methodLink RX3 81 yX3_lookForOptional, Cond.instanceMethod yX3_lookForOptional, Cond.selects RX3 yX3_lookForOptional yX3_lookForOptional, Cond.methodLink RX3 84 yX3_lookForAnd, Cond.instanceMethod yX3_lookForAnd, Cond.selects RX3 yX3_lookForAnd yX3_lookForAnd, Cond.methodLink RX3 87 yX3_lookForNot, Cond.instanceMethod yX3_lookForNot, Cond.selects RX3 yX3_lookForNot yX3_lookForNot, Cond.code yX3_lookForAnd cX3_lookForAnd 5 (some .int), Cond.code yX3_lookForChoice cX3_lookForChoice 6 (some .int), Cond.code yX3_lookForNot cX3_lookForNot 5 (some .int), Cond.code yX3_lookForOptional cX3_lookForOptional 5 (some .int), Cond.code yX3_lookForSequence cX3_lookForSequence 8 (some .int), Cond.code yX3_lookForStar cX3_lookForStar 7 (some .int), Cond.methodLink RX3 51 yX1_clear, Cond.instanceMethod yX1_clear, Cond.selects RX1 yX1_clear yX1_clear]
def wsL_parse_r8 : List Cond := [Cond.code yX1_clear cX1_clear 2 none, Cond.methodLink RX1 27 yX1_drop, Cond.instanceMethod yX1_drop, Cond.selects RX1 yX1_drop yX1_drop, Cond.code yX1_drop cX1_drop 2 none, Cond.methodLink RX1 43 yX1_put]
def wsL_parse : List Cond := .codeWith yL_parse cL_parse 5 (some .int) [(0, 10, 13, 24)] :: ((wsL_parse_r1 ++ (wsL_parse_r2 ++ (wsL_parse_r3 ++ (wsL_parse_r4 ++ (wsL_parse_r5 ++ (wsL_parse_r6 ++ (wsL_parse_r7 ++ wsL_parse_r8))))))) ++ wsX50 ++ wsX40 ++ wsX30 ++ wsX00 ++ wsX20 ++ wsX10 ++ (vx_atS RX5 94 "java/lang/IndexOutOfBoundsException" ["java/lang/RuntimeException", "java/lang/Exception"]).filter goodWord)
def wsL_result : List Cond := .codeWith yL_result cL_result 5 (some .int) [(0, 10, 13, 24)] :: ([.classLink RL 24 "java/lang/IndexOutOfBoundsException", .methodLink RL 53 yX5_result, .instanceMethod yX5_result, .selects RX5 yX5_result yX5_result, .initialized RX5, .code yX5_result cX5_result 3 (some .int), .fieldLink RX5 26 "MemoParser" "memory" "LMemoParser$Memory;", .methodLink RX5 59 yX5_refuseUnknownRule, .static yX5_refuseUnknownRule, .code yX5_refuseUnknownRule cX5_refuseUnknownRule 1 none, .classLink RX5 90 "java/lang/IndexOutOfBoundsException", .initialized "java/lang/IndexOutOfBoundsException", .methodLink RX5 130 yX5_refuseUnknownPlace, .instanceMethod yX5_refuseUnknownPlace, .selects RX5 yX5_refuseUnknownPlace yX5_refuseUnknownPlace, .code yX5_refuseUnknownPlace cX5_refuseUnknownPlace 2 none, .fieldLink RX5 19 "MemoParser" "text" "LMemoParser$Text;", .methodLink RX5 155 yX5_cell, .static yX5_cell, .code yX5_cell cX5_cell 2 (some .int)] ++ wsX50 ++ wsX10 ++ wsX40 ++ (vx_atS RX5 94 "java/lang/IndexOutOfBoundsException" ["java/lang/RuntimeException", "java/lang/Exception"]).filter goodWord)
def wsL_reach : List Cond := .codeWith yL_reach cL_reach 5 (some .int) [(0, 10, 13, 24)] :: ([.classLink RL 24 "java/lang/IndexOutOfBoundsException", .methodLink RL 56 yX5_reach, .instanceMethod yX5_reach, .selects RX5 yX5_reach yX5_reach, .initialized RX5, .code yX5_reach cX5_reach 3 (some .int), .fieldLink RX5 26 "MemoParser" "memory" "LMemoParser$Memory;", .methodLink RX5 59 yX5_refuseUnknownRule, .static yX5_refuseUnknownRule, .code yX5_refuseUnknownRule cX5_refuseUnknownRule 1 none, .classLink RX5 90 "java/lang/IndexOutOfBoundsException", .initialized "java/lang/IndexOutOfBoundsException", .methodLink RX5 130 yX5_refuseUnknownPlace, .instanceMethod yX5_refuseUnknownPlace, .selects RX5 yX5_refuseUnknownPlace yX5_refuseUnknownPlace, .code yX5_refuseUnknownPlace cX5_refuseUnknownPlace 2 none, .fieldLink RX5 19 "MemoParser" "text" "LMemoParser$Text;", .methodLink RX5 155 yX5_cell, .static yX5_cell, .code yX5_cell cX5_cell 2 (some .int)] ++ wsX50 ++ wsX10 ++ wsX40 ++ (vx_atS RX5 94 "java/lang/IndexOutOfBoundsException" ["java/lang/RuntimeException", "java/lang/Exception"]).filter goodWord)
def wsL_law0_r1 : List Cond := [Cond.classLink RL 8 RX5, Cond.instantiable RX5 4, Cond.initialized RX5, Cond.classLink RL 60 RX6, Cond.instantiable RX6 29, Cond.initialized RX6, Cond.arrayClass .long, Cond.constantLong RL 100 (4294967295), Cond.methodLink RL 59 yX5_init, Cond.instanceMethod yX5_init, Cond.code yX5_init cX5_init 1 none, Cond.methodLink RX5 3 objectInit, Cond.instanceMethod objectInit, Cond.code objectInit ⟨#[0xb1]⟩ 1 none, Cond.classLink RX5 9 RX0, Cond.instantiable RX0 8, Cond.initialized RX0, Cond.fieldLink RX5 12 "MemoParser" "grammar" "LMemoParser$Grammar;", Cond.classLink RX5 16 RX4, Cond.instantiable RX4 2, Cond.initialized RX4, Cond.fieldLink RX5 19 "MemoParser" "text" "LMemoParser$Text;", Cond.classLink RX5 23 RX1, Cond.instantiable RX1 3]
def wsL_law0_r2 : List Cond := [Cond.initialized RX1, Cond.fieldLink RX5 26 "MemoParser" "memory" "LMemoParser$Memory;", Cond.classLink RX5 30 RX3, Cond.instantiable RX3 9, Cond.initialized RX3, Cond.fieldLink RX5 35 "MemoParser" "search" "LMemoParser$Search;", Cond.methodLink RX5 11 yX0_init, Cond.instanceMethod yX0_init, Cond.code yX0_init cX0_init 1 none, Cond.methodLink RX0 3 objectInit, Cond.arrayClass .int, Cond.fieldLink RX0 9 "MemoParser$Grammar" "kinds" "[I", Cond.fieldLink RX0 15 "MemoParser$Grammar" "firsts" "[I", Cond.fieldLink RX0 18 "MemoParser$Grammar" "seconds" "[I", Cond.fieldLink RX0 21 "MemoParser$Grammar" "ruleExpressions" "[I", Cond.fieldLink RX0 24 "MemoParser$Grammar" "count" "I", Cond.arrayClass .boolean, Cond.fieldLink RX0 28 "MemoParser$Grammar" "empties" "[Z", Cond.fieldLink RX0 32 "MemoParser$Grammar" "emptyRules" "[Z", Cond.fieldLink RX0 35 "MemoParser$Grammar" "beginnings" "[I", Cond.methodLink RX0 38 yJ7_fill_53178, Cond.static yJ7_fill_53178, Cond.initialized RJ7, Cond.code yJ7_fill_53178 cJ7_fill_53178 4 none]
def wsL_law0_r3 : List Cond := [Cond.instanceMethod yX4_init, Cond.code yX4_init cX4_init 1 none, Cond.methodLink RX4 3 objectInit, Cond.fieldLink RX4 9 "MemoParser$Text" "bytes" "[I", Cond.fieldLink RX4 15 "MemoParser$Text" "size" "I", Cond.methodLink RX5 25 yX1_init, Cond.instanceMethod yX1_init, Cond.code yX1_init cX1_init 1 none, Cond.methodLink RX1 3 objectInit, Cond.fieldLink RX1 9 "MemoParser$Memory" "results" "[I", Cond.fieldLink RX1 15 "MemoParser$Memory" "reaches" "[I", Cond.fieldLink RX1 18 "MemoParser$Memory" "names" "[I", Cond.methodLink RX1 21 yJ7_fill_53178, Cond.methodLink RX5 32 yX3_init, Cond.instanceMethod yX3_init, Cond.code yX3_init cX3_init 4 none, Cond.methodLink RX3 3 objectInit, Cond.classLink RX3 9 RX2, Cond.instantiable RX2 10, Cond.initialized RX2, Cond.fieldLink RX3 12 "MemoParser$Search" "progress" "LMemoParser$Progress;", Cond.fieldLink RX3 18 "MemoParser$Search" "work" "I", Cond.fieldLink RX3 22 "MemoParser$Search" "hits" "I", Cond.fieldLink RX3 25 "MemoParser$Search" "growths" "I"]
def wsL_law0_r4 : List Cond := [Cond.fieldLink RX3 28 "MemoParser$Search" "farthest" "I", Cond.fieldLink RX3 31 "MemoParser$Search" "cut" "Z", Cond.fieldLink RX3 35 "MemoParser$Search" "grammar" "LMemoParser$Grammar;", Cond.fieldLink RX3 39 "MemoParser$Search" "text" "LMemoParser$Text;", Cond.fieldLink RX3 43 "MemoParser$Search" "memory" "LMemoParser$Memory;", Cond.methodLink RX3 11 yX2_init, Cond.instanceMethod yX2_init, Cond.code yX2_init cX2_init 1 none, Cond.methodLink RX2 3 objectInit, Cond.fieldLink RX2 9 "MemoParser$Progress" "rules" "[I", Cond.fieldLink RX2 15 "MemoParser$Progress" "places" "[I", Cond.fieldLink RX2 18 "MemoParser$Progress" "seeds" "[I", Cond.fieldLink RX2 21 "MemoParser$Progress" "asked" "[Z", Cond.fieldLink RX2 25 "MemoParser$Progress" "reaches" "[I", Cond.fieldLink RX2 28 "MemoParser$Progress" "names" "[I", Cond.fieldLink RX2 31 "MemoParser$Progress" "earliestAsked" "[I", Cond.fieldLink RX2 34 "MemoParser$Progress" "numberOf" "[I", Cond.fieldLink RX2 37 "MemoParser$Progress" "rulesAt" "[I", Cond.fieldLink RX2 40 "MemoParser$Progress" "open" "I", Cond.methodLink RX2 44 yJ7_fill_53178, Cond.methodLink RL 62 yX6_init, Cond.instanceMethod yX6_init, Cond.code yX6_init cX6_init 2 none, Cond.methodLink RX6 3 objectInit]
def wsL_law0_r5 : List Cond := [Cond.fieldLink RX6 9 "MemoParserModel" "kinds" "[I", Cond.fieldLink RX6 13 "MemoParserModel" "as" "[I", Cond.fieldLink RX6 16 "MemoParserModel" "bs" "[I", Cond.fieldLink RX6 19 "MemoParserModel" "rules" "[I", Cond.fieldLink RX6 22 "MemoParserModel" "text" "[I", Cond.fieldLink RX6 25 "MemoParserModel" "isKnown" "[Z", Cond.fieldLink RX6 29 "MemoParserModel" "results" "[I", Cond.fieldLink RX6 32 "MemoParserModel" "reaches" "[I", Cond.fieldLink RX6 35 "MemoParserModel" "names" "[I", Cond.fieldLink RX6 38 "MemoParserModel" "progressRules" "[I", Cond.fieldLink RX6 41 "MemoParserModel" "progressPlaces" "[I", Cond.fieldLink RX6 44 "MemoParserModel" "seeds" "[I", Cond.fieldLink RX6 47 "MemoParserModel" "areAsked" "[Z", Cond.fieldLink RX6 50 "MemoParserModel" "lean" "[Z", Cond.fieldLink RX6 53 "MemoParserModel" "looked" "[I", Cond.fieldLink RX6 56 "MemoParserModel" "named" "[I", Cond.fieldLink RX6 59 "MemoParserModel" "farthest" "I", Cond.fieldLink RX6 63 "MemoParserModel" "ruleCan" "[Z", Cond.fieldLink RX6 66 "MemoParserModel" "areEmpty" "[Z", Cond.fieldLink RX6 69 "MemoParserModel" "begins" "[I", Cond.methodLink RL 63 yL_plain, Cond.static yL_plain, Cond.initialized RL, Cond.codeWith yL_plain cL_plain 4 (some .int) [(0, 9, 12, 13), (0, 9, 15, 15)]]
def wsL_law0_r6 : List Cond := [Cond.classLink RL 13 "java/lang/IllegalArgumentException", Cond.classLink RL 15 "java/lang/IllegalStateException", Cond.methodLink RL 7 yX5_plain, Cond.instanceMethod yX5_plain, Cond.selects RX5 yX5_plain yX5_plain, Cond.code yX5_plain cX5_plain 2 (some .int), Cond.classLink RX5 39 "java/lang/IllegalArgumentException", Cond.initialized "java/lang/IllegalArgumentException", Cond.methodLink RX5 46 yX5_refuseIfFull, Cond.instanceMethod yX5_refuseIfFull, Cond.selects RX5 yX5_refuseIfFull yX5_refuseIfFull, Cond.code yX5_refuseIfFull cX5_refuseIfFull 1 none, Cond.classLink RX5 105 "java/lang/IllegalStateException", Cond.initialized "java/lang/IllegalStateException", Cond.methodLink RX5 173 yX0_isFull, Cond.instanceMethod yX0_isFull, Cond.selects RX0 yX0_isFull yX0_isFull, Cond.code yX0_isFull cX0_isFull 1 (some .boolean), Cond.methodLink RX5 49 yX0_add, Cond.instanceMethod yX0_add, Cond.selects RX0 yX0_add yX0_add, Cond.code yX0_add cX0_add 5 (some .int), Cond.methodLink RL 68 yX6_plain, Cond.instanceMethod yX6_plain]
def wsL_law0_r7 : List Cond := [Cond.selects RX6 yX6_plain yX6_plain, Cond.code yX6_plain cX6_plain 2 (some .int), Cond.fieldLink RX6 72 "MemoParserModel" "thrown" "I", Cond.fieldLink RX6 75 "MemoParserModel" "expressions" "I", Cond.methodLink RX6 78 yX6_fail, Cond.instanceMethod yX6_fail, Cond.selects RX6 yX6_fail yX6_fail, Cond.code yX6_fail cX6_fail 2 (some .int), Cond.methodLink RX6 82 yX6_add, Cond.instanceMethod yX6_add, Cond.selects RX6 yX6_add yX6_add, Cond.code yX6_add cX6_add 4 (some .int), Cond.methodLink RL 69 yX6_thrown, Cond.instanceMethod yX6_thrown, Cond.selects RX6 yX6_thrown yX6_thrown, Cond.code yX6_thrown cX6_thrown 1 (some .int), Cond.methodLink RL 73 yL_range, Cond.static yL_range, Cond.codeWith yL_range cL_range 5 (some .int) [(0, 10, 13, 13), (0, 10, 17, 15)], Cond.methodLink RL 17 yX5_range, Cond.instanceMethod yX5_range, Cond.selects RX5 yX5_range yX5_range, Cond.code yX5_range cX5_range 3 (some .int), Cond.methodLink RX5 53 yX5_isByte]
def wsL_law0_r8 : List Cond := [Cond.static yX5_isByte, Cond.code yX5_isByte cX5_isByte 1 (some .boolean), Cond.methodLink RL 76 yX6_range, Cond.instanceMethod yX6_range, Cond.selects RX6 yX6_range yX6_range, Cond.code yX6_range cX6_range 3 (some .int), Cond.methodLink RX6 86 yX6_isByte, Cond.static yX6_isByte, Cond.code yX6_isByte cX6_isByte 1 (some .boolean), Cond.methodLink RL 77 yL_rule, Cond.static yL_rule, Cond.codeWith yL_rule cL_rule 4 (some .int) [(0, 9, 12, 24), (0, 9, 15, 15)], Cond.classLink RL 24 "java/lang/IndexOutOfBoundsException", Cond.methodLink RL 21 yX5_rule, Cond.instanceMethod yX5_rule, Cond.selects RX5 yX5_rule yX5_rule, Cond.code yX5_rule cX5_rule 2 (some .int), Cond.methodLink RX5 59 yX5_refuseUnknownRule, Cond.static yX5_refuseUnknownRule, Cond.code yX5_refuseUnknownRule cX5_refuseUnknownRule 1 none, Cond.classLink RX5 90 "java/lang/IndexOutOfBoundsException", Cond.initialized "java/lang/IndexOutOfBoundsException", Cond.methodLink RL 79 yX6_rule, Cond.instanceMethod yX6_rule]
def wsL_law0_r9 : List Cond := [Cond.selects RX6 yX6_rule yX6_rule, Cond.code yX6_rule cX6_rule 2 (some .int), Cond.methodLink RX6 90 yX6_isRule, Cond.static yX6_isRule, Cond.code yX6_isRule cX6_isRule 1 (some .boolean), Cond.methodLink RL 80 yL_join, Cond.static yL_join, Cond.codeWith yL_join cL_join 6 (some .int) [(0, 12, 15, 24), (0, 12, 19, 13), (0, 12, 23, 15)], Cond.methodLink RL 26 yX5_join, Cond.instanceMethod yX5_join, Cond.selects RX5 yX5_join yX5_join, Cond.code yX5_join cX5_join 4 (some .int), Cond.methodLink RX5 63 yX5_refuseUnknownExpression, Cond.instanceMethod yX5_refuseUnknownExpression, Cond.selects RX5 yX5_refuseUnknownExpression yX5_refuseUnknownExpression, Cond.code yX5_refuseUnknownExpression cX5_refuseUnknownExpression 2 none, Cond.methodLink RX5 179 yX0_has, Cond.instanceMethod yX0_has, Cond.selects RX0 yX0_has yX0_has, Cond.code yX0_has cX0_has 2 (some .boolean), Cond.methodLink RL 83 yX6_join, Cond.instanceMethod yX6_join, Cond.selects RX6 yX6_join yX6_join, Cond.code yX6_join cX6_join 4 (some .int)]
def wsL_law0_r10 : List Cond := [Cond.methodLink RX6 93 yX6_isExpression, Cond.instanceMethod yX6_isExpression, Cond.selects RX6 yX6_isExpression yX6_isExpression, Cond.code yX6_isExpression cX6_isExpression 2 (some .boolean), Cond.methodLink RL 84 yL_wrap, Cond.static yL_wrap, Cond.codeWith yL_wrap cL_wrap 5 (some .int) [(0, 10, 13, 24), (0, 10, 17, 13), (0, 10, 21, 15)], Cond.methodLink RL 30 yX5_wrap, Cond.instanceMethod yX5_wrap, Cond.selects RX5 yX5_wrap yX5_wrap, Cond.code yX5_wrap cX5_wrap 3 (some .int), Cond.methodLink RL 86 yX6_wrap, Cond.instanceMethod yX6_wrap, Cond.selects RX6 yX6_wrap yX6_wrap, Cond.code yX6_wrap cX6_wrap 3 (some .int), Cond.methodLink RL 87 yL_define, Cond.static yL_define, Cond.codeWith yL_define cL_define 5 (some .int) [(0, 10, 13, 24)], Cond.methodLink RL 33 yX5_define, Cond.instanceMethod yX5_define, Cond.selects RX5 yX5_define yX5_define, Cond.code yX5_define cX5_define 3 (some .int), Cond.methodLink RX5 70 yX1_clear, Cond.instanceMethod yX1_clear]
def wsL_law0_r11 : List Cond := [Cond.selects RX1 yX1_clear yX1_clear, Cond.code yX1_clear cX1_clear 2 none, Cond.methodLink RX1 27 yX1_drop, Cond.instanceMethod yX1_drop, Cond.selects RX1 yX1_drop yX1_drop, Cond.code yX1_drop cX1_drop 2 none, Cond.methodLink RX1 43 yX1_put, Cond.instanceMethod yX1_put, Cond.selects RX1 yX1_put yX1_put, Cond.code yX1_put cX1_put 5 none, Cond.methodLink RX5 73 yX0_give, Cond.instanceMethod yX0_give, Cond.selects RX0 yX0_give yX0_give, Cond.code yX0_give cX0_give 4 (some .int), Cond.methodLink RL 89 yX6_define, Cond.instanceMethod yX6_define, Cond.selects RX6 yX6_define yX6_define, Cond.code yX6_define cX6_define 4 (some .int), Cond.methodLink RX6 96 yX6_forgetAll, Cond.instanceMethod yX6_forgetAll, Cond.selects RX6 yX6_forgetAll yX6_forgetAll, Cond.code yX6_forgetAll cX6_forgetAll 3 (some .int), Cond.methodLink RX6 182 yX6_countAll, Cond.instanceMethod yX6_countAll]
def wsL_law0_r12 : List Cond := [Cond.selects RX6 yX6_countAll yX6_countAll, Cond.code yX6_countAll cX6_countAll 3 (some .int), Cond.methodLink RL 90 yX5_expressionCount, Cond.instanceMethod yX5_expressionCount, Cond.selects RX5 yX5_expressionCount yX5_expressionCount, Cond.code yX5_expressionCount cX5_expressionCount 1 (some .int), Cond.methodLink RL 93 yX6_expressionCount, Cond.instanceMethod yX6_expressionCount, Cond.selects RX6 yX6_expressionCount yX6_expressionCount, Cond.code yX6_expressionCount cX6_expressionCount 1 (some .int), Cond.methodLink RL 94 yL_canBeEmpty, Cond.static yL_canBeEmpty, Cond.codeWith yL_canBeEmpty cL_canBeEmpty 4 (some .int) [(0, 16, 19, 24)], Cond.methodLink RL 36 yX5_canBeEmpty, Cond.instanceMethod yX5_canBeEmpty, Cond.selects RX5 yX5_canBeEmpty yX5_canBeEmpty, Cond.code yX5_canBeEmpty cX5_canBeEmpty 2 (some .boolean), Cond.methodLink RX5 81 yX0_succeedsInPlace, Cond.instanceMethod yX0_succeedsInPlace, Cond.selects RX0 yX0_succeedsInPlace yX0_succeedsInPlace, Cond.code yX0_succeedsInPlace cX0_succeedsInPlace 2 (some .boolean), Cond.methodLink RX0 44 yX0_findEmpties, Cond.instanceMethod yX0_findEmpties, Cond.selects RX0 yX0_findEmpties yX0_findEmpties]
def wsL_law0_r13 : List Cond := [Cond.code yX0_findEmpties cX0_findEmpties 4 none, Cond.methodLink RX0 61 yJ7_fill_49daa, Cond.static yJ7_fill_49daa, Cond.code yJ7_fill_49daa cJ7_fill_49daa 4 none, Cond.methodLink RX0 64 yX0_isEmptyByForm, Cond.instanceMethod yX0_isEmptyByForm, Cond.selects RX0 yX0_isEmptyByForm yX0_isEmptyByForm, Cond.code yX0_isEmptyByForm cX0_isEmptyByForm 4 (some .boolean), Cond.methodLink RX0 68 yX0_addEmptyRules, Cond.instanceMethod yX0_addEmptyRules, Cond.selects RX0 yX0_addEmptyRules yX0_addEmptyRules, Cond.code yX0_addEmptyRules cX0_addEmptyRules 4 (some .boolean), Cond.methodLink RX0 72 yX0_has, Cond.methodLink RL 96 yX6_canBeEmpty, Cond.instanceMethod yX6_canBeEmpty, Cond.selects RX6 yX6_canBeEmpty yX6_canBeEmpty, Cond.code yX6_canBeEmpty cX6_canBeEmpty 2 (some .boolean), Cond.methodLink RX6 106 yX6_findForms, Cond.instanceMethod yX6_findForms, Cond.selects RX6 yX6_findForms yX6_findForms, Cond.code yX6_findForms cX6_findForms 3 none, Cond.methodLink RX6 100 yX6_can, Cond.instanceMethod yX6_can, Cond.selects RX6 yX6_can yX6_can]
def wsL_law0_r14 : List Cond := [Cond.code yX6_can cX6_can 2 (some .boolean), Cond.methodLink RX6 103 yX6_beginsWith, Cond.instanceMethod yX6_beginsWith, Cond.selects RX6 yX6_beginsWith yX6_beginsWith, Cond.code yX6_beginsWith cX6_beginsWith 2 (some .int), Cond.methodLink RL 97 yL_isLeftRecursive, Cond.static yL_isLeftRecursive, Cond.codeWith yL_isLeftRecursive cL_isLeftRecursive 4 (some .int) [(0, 16, 19, 24)], Cond.methodLink RL 40 yX5_isLeftRecursive, Cond.instanceMethod yX5_isLeftRecursive, Cond.selects RX5 yX5_isLeftRecursive yX5_isLeftRecursive, Cond.code yX5_isLeftRecursive cX5_isLeftRecursive 2 (some .boolean), Cond.methodLink RX5 84 yX0_beginsWithItself, Cond.instanceMethod yX0_beginsWithItself, Cond.selects RX0 yX0_beginsWithItself yX0_beginsWithItself, Cond.code yX0_beginsWithItself cX0_beginsWithItself 5 (some .boolean), Cond.methodLink RX0 47 yX0_findBeginnings, Cond.instanceMethod yX0_findBeginnings, Cond.selects RX0 yX0_findBeginnings yX0_findBeginnings, Cond.code yX0_findBeginnings cX0_findBeginnings 2 none, Cond.methodLink RX0 75 yX0_beginningsByForm, Cond.instanceMethod yX0_beginningsByForm, Cond.selects RX0 yX0_beginningsByForm yX0_beginningsByForm, Cond.code yX0_beginningsByForm cX0_beginningsByForm 4 (some .int)]
def wsL_law0_r15 : List Cond := [Cond.static yX5_bit, Cond.code yX5_bit cX5_bit 1 (some .int), Cond.methodLink RX0 50 yX0_beginningsOfRule, Cond.instanceMethod yX0_beginningsOfRule, Cond.selects RX0 yX0_beginningsOfRule yX0_beginningsOfRule, Cond.code yX0_beginningsOfRule cX0_beginningsOfRule 3 (some .int), Cond.methodLink RL 99 yX6_isLeftRecursive, Cond.instanceMethod yX6_isLeftRecursive, Cond.selects RX6 yX6_isLeftRecursive yX6_isLeftRecursive, Cond.code yX6_isLeftRecursive cX6_isLeftRecursive 5 (some .boolean), Cond.methodLink RL 102 yL_replace, Cond.static yL_replace, Cond.codeWith yL_replace cL_replace 7 (some .int) [(0, 12, 15, 24), (0, 12, 19, 13), (0, 12, 23, 15)], Cond.methodLink RL 43 yX5_replace, Cond.instanceMethod yX5_replace, Cond.selects RX5 yX5_replace yX5_replace, Cond.code yX5_replace cX5_replace 7 (some .int), Cond.methodLink RX5 95 yX5_areBytes, Cond.static yX5_areBytes, Cond.code yX5_areBytes cX5_areBytes 4 (some .boolean), Cond.methodLink RX5 186 yX5_packedByte, Cond.static yX5_packedByte, Cond.code yX5_packedByte cX5_packedByte 3 (some .int), Cond.methodLink RX5 101 yX5_countBytes]
def wsL_law0_r16 : List Cond := [Cond.static yX5_countBytes, Cond.code yX5_countBytes cX5_countBytes 4 (some .int), Cond.methodLink RX5 110 yX1_keepUnchanged, Cond.instanceMethod yX1_keepUnchanged, Cond.selects RX1 yX1_keepUnchanged yX1_keepUnchanged, Cond.code yX1_keepUnchanged cX1_keepUnchanged 5 (some .int), Cond.methodLink RX1 31 yX1_holds, Cond.instanceMethod yX1_holds, Cond.selects RX1 yX1_holds yX1_holds, Cond.code yX1_holds cX1_holds 2 (some .boolean), Cond.methodLink RX5 113 yX1_shift, Cond.instanceMethod yX1_shift, Cond.selects RX1 yX1_shift yX1_shift, Cond.code yX1_shift cX1_shift 5 none, Cond.methodLink RX1 35 yX1_move, Cond.instanceMethod yX1_move, Cond.selects RX1 yX1_move yX1_move, Cond.code yX1_move cX1_move 5 none, Cond.methodLink RX5 117 yX4_splice, Cond.instanceMethod yX4_splice, Cond.selects RX4 yX4_splice yX4_splice, Cond.code yX4_splice cX4_splice 10 none, Cond.methodLink RX4 27 arraycopyName, Cond.native arraycopyName]
def wsL_law0_r17 : List Cond := [Cond.static arraycopyName, Cond.initialized "java/lang/System", Cond.methodLink RL 105 yX6_replace, Cond.instanceMethod yX6_replace, Cond.selects RX6 yX6_replace yX6_replace, Cond.code yX6_replace cX6_replace 9 (some .int), Cond.fieldLink RX6 111 "MemoParserModel" "size" "I", Cond.methodLink RX6 114 yX6_byteOf, Cond.static yX6_byteOf, Cond.code yX6_byteOf cX6_byteOf 3 (some .int), Cond.constantLong RX6 109 (255), Cond.methodLink RX6 118 yX6_keep, Cond.instanceMethod yX6_keep, Cond.selects RX6 yX6_keep yX6_keep, Cond.code yX6_keep cX6_keep 14 (some .int), Cond.methodLink RL 106 yX5_size, Cond.instanceMethod yX5_size, Cond.selects RX5 yX5_size yX5_size, Cond.code yX5_size cX5_size 1 (some .int), Cond.methodLink RL 109 yX6_size, Cond.instanceMethod yX6_size, Cond.selects RX6 yX6_size yX6_size, Cond.code yX6_size cX6_size 1 (some .int), Cond.methodLink RL 110 yL_byteAt]
def wsL_law0_r18 : List Cond := [Cond.static yL_byteAt, Cond.codeWith yL_byteAt cL_byteAt 4 (some .int) [(0, 9, 12, 24)], Cond.methodLink RL 47 yX5_byteAt, Cond.instanceMethod yX5_byteAt, Cond.selects RX5 yX5_byteAt yX5_byteAt, Cond.code yX5_byteAt cX5_byteAt 2 (some .int), Cond.methodLink RX5 121 yX4_hasByte, Cond.instanceMethod yX4_hasByte, Cond.selects RX4 yX4_hasByte yX4_hasByte, Cond.code yX4_hasByte cX4_hasByte 2 (some .boolean), Cond.methodLink RX5 126 yX4_byteOrNone, Cond.instanceMethod yX4_byteOrNone, Cond.selects RX4 yX4_byteOrNone yX4_byteOrNone, Cond.code yX4_byteOrNone cX4_byteOrNone 2 (some .int), Cond.methodLink RX4 19 yX4_hasByte, Cond.methodLink RL 112 yX6_byteAt, Cond.instanceMethod yX6_byteAt, Cond.selects RX6 yX6_byteAt yX6_byteAt, Cond.code yX6_byteAt cX6_byteAt 2 (some .int), Cond.methodLink RL 113 yL_parse, Cond.static yL_parse, Cond.codeWith yL_parse cL_parse 5 (some .int) [(0, 10, 13, 24)], Cond.methodLink RL 50 yX5_parse, Cond.instanceMethod yX5_parse]
def wsL_law0_r19 : List Cond := [Cond.selects RX5 yX5_parse yX5_parse, Cond.code yX5_parse cX5_parse 3 (some .int), Cond.methodLink RX5 130 yX5_refuseUnknownPlace, Cond.instanceMethod yX5_refuseUnknownPlace, Cond.selects RX5 yX5_refuseUnknownPlace yX5_refuseUnknownPlace, Cond.code yX5_refuseUnknownPlace cX5_refuseUnknownPlace 2 none, Cond.methodLink RX5 133 yX3_run, Cond.instanceMethod yX3_run, Cond.selects RX3 yX3_run yX3_run, Cond.code yX3_run cX3_run 4 (some .int), Cond.methodLink RX3 47 yX3_lookForRule, Cond.instanceMethod yX3_lookForRule, Cond.selects RX3 yX3_lookForRule yX3_lookForRule, Cond.code yX3_lookForRule cX3_lookForRule 9 (some .int), Cond.methodLink RX3 109 yX3_knownResult, Cond.instanceMethod yX3_knownResult, Cond.selects RX3 yX3_knownResult yX3_knownResult, Cond.code yX3_knownResult cX3_knownResult 5 (some .int), Cond.methodLink RX3 133 yX0_has, Cond.static yX5_cell, Cond.code yX5_cell cX5_cell 2 (some .int), Cond.methodLink RX3 140 yX1_holds, Cond.methodLink RX3 146 yX2_hasOneOf, Cond.instanceMethod yX2_hasOneOf]
def wsL_law0_r20 : List Cond := [Cond.selects RX2 yX2_hasOneOf yX2_hasOneOf, Cond.code yX2_hasOneOf cX2_hasOneOf 3 (some .boolean), Cond.methodLink RX3 90 yX2_countLook, Cond.instanceMethod yX2_countLook, Cond.selects RX2 yX2_countLook yX2_countLook, Cond.code yX2_countLook cX2_countLook 2 none, Cond.methodLink RX2 69 Lib.Math.max.name, Cond.static Lib.Math.max.name, Cond.initialized "java/lang/Math", Cond.code Lib.Math.max.name Lib.Math.max.code 2 (some .int), Cond.methodLink RX3 153 yX2_countNames, Cond.instanceMethod yX2_countNames, Cond.selects RX2 yX2_countNames yX2_countNames, Cond.code yX2_countNames cX2_countNames 3 none, Cond.methodLink RX3 162 yX2_askSeed, Cond.instanceMethod yX2_askSeed, Cond.selects RX2 yX2_askSeed yX2_askSeed, Cond.code yX2_askSeed cX2_askSeed 2 (some .int), Cond.methodLink RX2 66 yX2_countAsked, Cond.instanceMethod yX2_countAsked, Cond.selects RX2 yX2_countAsked yX2_countAsked, Cond.code yX2_countAsked cX2_countAsked 2 none, Cond.methodLink RX2 74 Lib.Math.min.name, Cond.static Lib.Math.min.name]
def wsL_law0_r21 : List Cond := [Cond.code Lib.Math.min.name Lib.Math.min.code 2 (some .int), Cond.methodLink RX3 112 yX2_isFull, Cond.instanceMethod yX2_isFull, Cond.selects RX2 yX2_isFull yX2_isFull, Cond.code yX2_isFull cX2_isFull 1 (some .boolean), Cond.methodLink RX3 119 yX2_begin, Cond.instanceMethod yX2_begin, Cond.selects RX2 yX2_begin yX2_begin, Cond.code yX2_begin cX2_begin 4 (some .int), Cond.methodLink RX3 106 yX3_look, Cond.instanceMethod yX3_look, Cond.selects RX3 yX3_look yX3_look, Cond.methodLink RX3 129 yX3_finish, Cond.instanceMethod yX3_finish, Cond.selects RX3 yX3_finish yX3_finish, Cond.code yX3_finish cX3_finish 4 none, Cond.methodLink RX3 165 yX2_askedEarlierOne, Cond.instanceMethod yX2_askedEarlierOne, Cond.selects RX2 yX2_askedEarlierOne yX2_askedEarlierOne, Cond.code yX2_askedEarlierOne cX2_askedEarlierOne 2 (some .boolean), Cond.methodLink RX3 176 yX1_put, Cond.methodLink RX3 180 yX2_end, Cond.instanceMethod yX2_end, Cond.selects RX2 yX2_end yX2_end]
def wsL_law0_r22 : List Cond := [Cond.code yX2_end cX2_end 3 none, Cond.methodLink RX2 58 yX2_countLook, Cond.methodLink RX2 62 yX2_countNames, Cond.code yX3_look cX3_look 6 (some .int), Cond.methodLink RX3 68 yX3_lookForRange, Cond.instanceMethod yX3_lookForRange, Cond.selects RX3 yX3_lookForRange yX3_lookForRange, Cond.code yX3_lookForRange cX3_lookForRange 5 (some .int), Cond.methodLink RX3 100 Lib.Math.max.name, Cond.methodLink RX3 94 yX4_byteOrNone, Cond.methodLink RX3 71 yX3_lookForSequence, Cond.instanceMethod yX3_lookForSequence, Cond.selects RX3 yX3_lookForSequence yX3_lookForSequence, Cond.methodLink RX3 75 yX3_lookForChoice, Cond.instanceMethod yX3_lookForChoice, Cond.selects RX3 yX3_lookForChoice yX3_lookForChoice, Cond.methodLink RX3 78 yX3_lookForStar, Cond.instanceMethod yX3_lookForStar, Cond.selects RX3 yX3_lookForStar yX3_lookForStar, Cond.methodLink RX3 81 yX3_lookForOptional, Cond.instanceMethod yX3_lookForOptional, Cond.selects RX3 yX3_lookForOptional yX3_lookForOptional, Cond.methodLink RX3 84 yX3_lookForAnd, Cond.instanceMethod yX3_lookForAnd]
def wsL_law0_r23 : List Cond := [Cond.selects RX3 yX3_lookForAnd yX3_lookForAnd, Cond.methodLink RX3 87 yX3_lookForNot, Cond.instanceMethod yX3_lookForNot, Cond.selects RX3 yX3_lookForNot yX3_lookForNot, Cond.code yX3_lookForAnd cX3_lookForAnd 5 (some .int), Cond.code yX3_lookForChoice cX3_lookForChoice 6 (some .int), Cond.code yX3_lookForNot cX3_lookForNot 5 (some .int), Cond.code yX3_lookForOptional cX3_lookForOptional 5 (some .int), Cond.code yX3_lookForSequence cX3_lookForSequence 8 (some .int), Cond.code yX3_lookForStar cX3_lookForStar 7 (some .int), Cond.methodLink RX3 51 yX1_clear, Cond.methodLink RL 115 yX6_parse, Cond.instanceMethod yX6_parse, Cond.selects RX6 yX6_parse yX6_parse, Cond.code yX6_parse cX6_parse 4 (some .int), Cond.fieldLink RX6 128 "MemoParserModel" "work" "I", Cond.fieldLink RX6 166 "MemoParserModel" "hits" "I", Cond.fieldLink RX6 176 "MemoParserModel" "growths" "I", Cond.fieldLink RX6 125 "MemoParserModel" "isExhausted" "Z", Cond.fieldLink RX6 150 "MemoParserModel" "progresses" "I", Cond.methodLink RX6 179 yX6_isPlace, Cond.instanceMethod yX6_isPlace, Cond.selects RX6 yX6_isPlace yX6_isPlace, Cond.code yX6_isPlace cX6_isPlace 2 (some .boolean)]
def wsL_law0_r24 : List Cond := [Cond.methodLink RX6 141 yX6_lookRule, Cond.instanceMethod yX6_lookRule, Cond.selects RX6 yX6_lookRule yX6_lookRule, Cond.code yX6_lookRule cX6_lookRule 7 (some .int), Cond.methodLink RX6 153 Lib.Math.max.name, Cond.methodLink RX6 163 yX6_isShut, Cond.instanceMethod yX6_isShut, Cond.selects RX6 yX6_isShut yX6_isShut, Cond.code yX6_isShut cX6_isShut 5 (some .boolean), Cond.methodLink RX6 159 yX6_isInProgress, Cond.instanceMethod yX6_isInProgress, Cond.selects RX6 yX6_isInProgress yX6_isInProgress, Cond.code yX6_isInProgress cX6_isInProgress 5 (some .boolean), Cond.methodLink RX6 169 yX6_name, Cond.instanceMethod yX6_name, Cond.selects RX6 yX6_name yX6_name, Cond.code yX6_name cX6_name 4 none, Cond.methodLink RX6 173 yX6_ask, Cond.instanceMethod yX6_ask, Cond.selects RX6 yX6_ask yX6_ask, Cond.code yX6_ask cX6_ask 3 (some .int), Cond.methodLink RX6 144 yX6_look, Cond.instanceMethod yX6_look, Cond.selects RX6 yX6_look yX6_look]
def wsL_law0_r25 : List Cond := [Cond.code yX6_look cX6_look 7 (some .int), Cond.fieldLink RX6 121 "MemoParserModel" "hasCut" "Z", Cond.methodLink RX6 131 yX6_miss, Cond.instanceMethod yX6_miss, Cond.selects RX6 yX6_miss yX6_miss, Cond.code yX6_miss cX6_miss 2 (some .int), Cond.methodLink RX6 135 yX6_succeed, Cond.instanceMethod yX6_succeed, Cond.selects RX6 yX6_succeed yX6_succeed, Cond.code yX6_succeed cX6_succeed 2 (some .int), Cond.methodLink RX6 138 yX6_lookAt, Cond.instanceMethod yX6_lookAt, Cond.selects RX6 yX6_lookAt yX6_lookAt, Cond.code yX6_lookAt cX6_lookAt 5 (some .int), Cond.methodLink RX6 147 yX6_lookAgain, Cond.instanceMethod yX6_lookAgain, Cond.selects RX6 yX6_lookAgain yX6_lookAgain, Cond.code yX6_lookAgain cX6_lookAgain 6 (some .int), Cond.methodLink RL 116 yX5_work, Cond.instanceMethod yX5_work, Cond.selects RX5 yX5_work yX5_work, Cond.code yX5_work cX5_work 1 (some .int), Cond.methodLink RL 119 yX6_work, Cond.instanceMethod yX6_work]
def wsL_law0_r26 : List Cond := [Cond.selects RX6 yX6_work yX6_work, Cond.code yX6_work cX6_work 1 (some .int), Cond.methodLink RL 120 yX5_hits, Cond.instanceMethod yX5_hits, Cond.selects RX5 yX5_hits yX5_hits, Cond.code yX5_hits cX5_hits 1 (some .int), Cond.methodLink RL 123 yX6_hits, Cond.instanceMethod yX6_hits, Cond.selects RX6 yX6_hits yX6_hits, Cond.code yX6_hits cX6_hits 1 (some .int), Cond.methodLink RL 124 yX5_growths, Cond.instanceMethod yX5_growths, Cond.selects RX5 yX5_growths yX5_growths, Cond.code yX5_growths cX5_growths 1 (some .int), Cond.methodLink RL 127 yX6_growths, Cond.instanceMethod yX6_growths, Cond.selects RX6 yX6_growths yX6_growths, Cond.code yX6_growths cX6_growths 1 (some .int), Cond.methodLink RL 128 yX5_farthest, Cond.instanceMethod yX5_farthest, Cond.selects RX5 yX5_farthest yX5_farthest, Cond.code yX5_farthest cX5_farthest 1 (some .int), Cond.methodLink RL 131 yX6_farthest, Cond.instanceMethod yX6_farthest]
def wsL_law0_r27 : List Cond := [Cond.selects RX6 yX6_farthest yX6_farthest, Cond.code yX6_farthest cX6_farthest 1 (some .int), Cond.methodLink RL 132 yX5_remembered, Cond.instanceMethod yX5_remembered, Cond.selects RX5 yX5_remembered yX5_remembered, Cond.code yX5_remembered cX5_remembered 1 (some .int), Cond.methodLink RX5 148 yX1_count, Cond.instanceMethod yX1_count, Cond.selects RX1 yX1_count yX1_count, Cond.code yX1_count cX1_count 3 (some .int), Cond.methodLink RL 135 yX6_remembered, Cond.instanceMethod yX6_remembered, Cond.selects RX6 yX6_remembered yX6_remembered, Cond.code yX6_remembered cX6_remembered 1 (some .int), Cond.methodLink RL 136 yL_result, Cond.static yL_result, Cond.codeWith yL_result cL_result 5 (some .int) [(0, 10, 13, 24)], Cond.methodLink RL 53 yX5_result, Cond.instanceMethod yX5_result, Cond.selects RX5 yX5_result yX5_result, Cond.code yX5_result cX5_result 3 (some .int), Cond.methodLink RX5 155 yX5_cell, Cond.methodLink RL 138 yX6_result, Cond.instanceMethod yX6_result]
def wsL_law0_r28 : List Cond := [Cond.selects RX6 yX6_result yX6_result, Cond.code yX6_result cX6_result 3 (some .int), Cond.methodLink RL 139 yL_reach, Cond.static yL_reach, Cond.codeWith yL_reach cL_reach 5 (some .int) [(0, 10, 13, 24)], Cond.methodLink RL 56 yX5_reach, Cond.instanceMethod yX5_reach, Cond.selects RX5 yX5_reach yX5_reach, Cond.code yX5_reach cX5_reach 3 (some .int), Cond.methodLink RL 141 yX6_reach, Cond.instanceMethod yX6_reach, Cond.selects RX6 yX6_reach yX6_reach, Cond.code yX6_reach cX6_reach 3 (some .int), Cond.methodLink RL 142 yX5_forget, Cond.instanceMethod yX5_forget, Cond.selects RX5 yX5_forget yX5_forget, Cond.code yX5_forget cX5_forget 2 (some .int), Cond.methodLink RL 145 yX6_forget, Cond.instanceMethod yX6_forget, Cond.selects RX6 yX6_forget yX6_forget, Cond.code yX6_forget cX6_forget 1 (some .int), Cond.methodLink RL 146 yX5_digest, Cond.instanceMethod yX5_digest, Cond.selects RX5 yX5_digest yX5_digest]
def wsL_law0_r29 : List Cond := [Cond.code yX5_digest cX5_digest 3 (some .long), Cond.constantLong RX5 161 (107), Cond.methodLink RX5 163 yX0_addToDigest, Cond.instanceMethod yX0_addToDigest, Cond.selects RX0 yX0_addToDigest yX0_addToDigest, Cond.code yX0_addToDigest cX0_addToDigest 6 (some .long), Cond.static yX5_mix, Cond.code yX5_mix cX5_mix 3 (some .long), Cond.constantLong RX5 190 (31), Cond.methodLink RX5 167 yX4_addToDigest, Cond.instanceMethod yX4_addToDigest, Cond.selects RX4 yX4_addToDigest yX4_addToDigest, Cond.code yX4_addToDigest cX4_addToDigest 6 (some .long), Cond.methodLink RX5 168 yX1_addToDigest, Cond.instanceMethod yX1_addToDigest, Cond.selects RX1 yX1_addToDigest yX1_addToDigest, Cond.code yX1_addToDigest cX1_addToDigest 6 (some .long), Cond.methodLink RX5 169 yX5_mix, Cond.methodLink RL 150 yX6_digest, Cond.instanceMethod yX6_digest, Cond.selects RX6 yX6_digest yX6_digest, Cond.code yX6_digest cX6_digest 6 (some .long), Cond.constantLong RX6 185 (3317), Cond.constantLong RX6 187 (31)]
def wsL_law0 : List Cond := (wsL_law0_r1 ++ (wsL_law0_r2 ++ (wsL_law0_r3 ++ (wsL_law0_r4 ++ (wsL_law0_r5 ++ (wsL_law0_r6 ++ (wsL_law0_r7 ++ (wsL_law0_r8 ++ (wsL_law0_r9 ++ (wsL_law0_r10 ++ (wsL_law0_r11 ++ (wsL_law0_r12 ++ (wsL_law0_r13 ++ (wsL_law0_r14 ++ (wsL_law0_r15 ++ (wsL_law0_r16 ++ (wsL_law0_r17 ++ (wsL_law0_r18 ++ (wsL_law0_r19 ++ (wsL_law0_r20 ++ (wsL_law0_r21 ++ (wsL_law0_r22 ++ (wsL_law0_r23 ++ (wsL_law0_r24 ++ (wsL_law0_r25 ++ (wsL_law0_r26 ++ (wsL_law0_r27 ++ (wsL_law0_r28 ++ wsL_law0_r29)))))))))))))))))))))))))))) ++ wsX50 ++ wsX60 ++ wsX00 ++ wsX40 ++ wsX10 ++ wsX30 ++ wsX20 ++ ([] : List Cond)
def wsL_law : List Cond := wsL_law0 ++ (vx_atS RX5 43 "java/lang/IllegalArgumentException" ["java/lang/RuntimeException", "java/lang/Exception"]).filter goodWord ++ (vx_atS RX5 109 "java/lang/IllegalStateException" ["java/lang/RuntimeException", "java/lang/Exception"]).filter goodWord ++ (vx_atS RX5 94 "java/lang/IndexOutOfBoundsException" ["java/lang/RuntimeException", "java/lang/Exception"]).filter goodWord
abbrev vwCl : List vw_C := [(RX0, TX0, 8), (RX1, TX1, 3), (RX2, TX2, 10), (RX3, TX3, 9), (RX4, TX4, 2), (RX5, TX5, 4), (RX6, TX6, 29)]
end
section
set_option maxRecDepth 20000 in
theorem ggX0_init_J7_fill_53178 : GoodIn wsX0_init wsJ7_fill_53178 := goodIn_r _ [17] (by decide +kernel) (by decide +kernel)
set_option maxRecDepth 20000 in
theorem gX0_init_J7_fill_53178 : GoodIn wsX0_init (va_wsS RX0 38 yJ7_fill_53178 wsJ7_fill_53178) := goodIn_app (goodIn_of _ (by decide +kernel)) ggX0_init_J7_fill_53178
theorem dX0_init_0 : decode cX0_init 0 = .ok (.aload_n 0, 1) := by decide +kernel
theorem dX0_init_1 : decode cX0_init 1 = .ok (.invokespecial 3, 3) := by decide +kernel
theorem dX0_init_4 : decode cX0_init 4 = .ok (.aload_n 0, 1) := by decide +kernel
theorem dX0_init_5 : decode cX0_init 5 = .ok (.bipush 80, 2) := by decide +kernel
theorem dX0_init_7 : decode cX0_init 7 = .ok (.newarray .int, 2) := by decide +kernel
theorem dX0_init_9 : decode cX0_init 9 = .ok (.putfield 9, 3) := by decide +kernel
theorem dX0_init_12 : decode cX0_init 12 = .ok (.aload_n 0, 1) := by decide +kernel
theorem dX0_init_13 : decode cX0_init 13 = .ok (.bipush 80, 2) := by decide +kernel
theorem dX0_init_15 : decode cX0_init 15 = .ok (.newarray .int, 2) := by decide +kernel
theorem dX0_init_17 : decode cX0_init 17 = .ok (.putfield 15, 3) := by decide +kernel
theorem dX0_init_20 : decode cX0_init 20 = .ok (.aload_n 0, 1) := by decide +kernel
theorem dX0_init_21 : decode cX0_init 21 = .ok (.bipush 80, 2) := by decide +kernel
theorem dX0_init_23 : decode cX0_init 23 = .ok (.newarray .int, 2) := by decide +kernel
theorem dX0_init_25 : decode cX0_init 25 = .ok (.putfield 18, 3) := by decide +kernel
theorem dX0_init_28 : decode cX0_init 28 = .ok (.aload_n 0, 1) := by decide +kernel
theorem dX0_init_29 : decode cX0_init 29 = .ok (.bipush 10, 2) := by decide +kernel
theorem dX0_init_31 : decode cX0_init 31 = .ok (.newarray .int, 2) := by decide +kernel
theorem dX0_init_33 : decode cX0_init 33 = .ok (.putfield 21, 3) := by decide +kernel
theorem dX0_init_36 : decode cX0_init 36 = .ok (.aload_n 0, 1) := by decide +kernel
theorem dX0_init_37 : decode cX0_init 37 = .ok (.iconst 0, 1) := by decide +kernel
theorem dX0_init_38 : decode cX0_init 38 = .ok (.putfield 24, 3) := by decide +kernel
theorem dX0_init_41 : decode cX0_init 41 = .ok (.aload_n 0, 1) := by decide +kernel
theorem dX0_init_42 : decode cX0_init 42 = .ok (.bipush 80, 2) := by decide +kernel
theorem dX0_init_44 : decode cX0_init 44 = .ok (.newarray .boolean, 2) := by decide +kernel
theorem dX0_init_46 : decode cX0_init 46 = .ok (.putfield 28, 3) := by decide +kernel
theorem dX0_init_49 : decode cX0_init 49 = .ok (.aload_n 0, 1) := by decide +kernel
theorem dX0_init_50 : decode cX0_init 50 = .ok (.bipush 10, 2) := by decide +kernel
theorem dX0_init_52 : decode cX0_init 52 = .ok (.newarray .boolean, 2) := by decide +kernel
theorem dX0_init_54 : decode cX0_init 54 = .ok (.putfield 32, 3) := by decide +kernel
theorem dX0_init_57 : decode cX0_init 57 = .ok (.aload_n 0, 1) := by decide +kernel
theorem dX0_init_58 : decode cX0_init 58 = .ok (.bipush 80, 2) := by decide +kernel
theorem dX0_init_60 : decode cX0_init 60 = .ok (.newarray .int, 2) := by decide +kernel
theorem dX0_init_62 : decode cX0_init 62 = .ok (.putfield 35, 3) := by decide +kernel
theorem dX0_init_65 : decode cX0_init 65 = .ok (.aload_n 0, 1) := by decide +kernel
theorem dX0_init_66 : decode cX0_init 66 = .ok (.getfield 21, 3) := by decide +kernel
theorem dX0_init_69 : decode cX0_init 69 = .ok (.iconst (-1), 1) := by decide +kernel
theorem dX0_init_70 : decode cX0_init 70 = .ok (.invokestatic 38, 3) := by decide +kernel
theorem dX0_init_73 : decode cX0_init 73 = .ok (.return_, 1) := by decide +kernel
theorem dX0_isFull_0 : decode cX0_isFull 0 = .ok (.aload_n 0, 1) := by decide +kernel
theorem dX0_isFull_1 : decode cX0_isFull 1 = .ok (.getfield 24, 3) := by decide +kernel
theorem dX0_isFull_4 : decode cX0_isFull 4 = .ok (.bipush 80, 2) := by decide +kernel
theorem dX0_isFull_6 : decode cX0_isFull 6 = .ok (.if_icmp .lt 7, 3) := by decide +kernel
theorem dX0_isFull_9 : decode cX0_isFull 9 = .ok (.iconst 1, 1) := by decide +kernel
theorem dX0_isFull_10 : decode cX0_isFull 10 = .ok (.goto 4, 3) := by decide +kernel
theorem dX0_isFull_13 : decode cX0_isFull 13 = .ok (.iconst 0, 1) := by decide +kernel
theorem dX0_isFull_14 : decode cX0_isFull 14 = .ok (.ireturn, 1) := by decide +kernel
theorem dX0_has_0 : decode cX0_has 0 = .ok (.iload_n 1, 1) := by decide +kernel
theorem dX0_has_1 : decode cX0_has 1 = .ok (.ifCond .lt 15, 3) := by decide +kernel
theorem dX0_has_4 : decode cX0_has 4 = .ok (.iload_n 1, 1) := by decide +kernel
theorem dX0_has_5 : decode cX0_has 5 = .ok (.aload_n 0, 1) := by decide +kernel
theorem dX0_has_6 : decode cX0_has 6 = .ok (.getfield 24, 3) := by decide +kernel
theorem dX0_has_9 : decode cX0_has 9 = .ok (.if_icmp .ge 7, 3) := by decide +kernel
theorem dX0_has_12 : decode cX0_has 12 = .ok (.iconst 1, 1) := by decide +kernel
theorem dX0_has_13 : decode cX0_has 13 = .ok (.goto 4, 3) := by decide +kernel
theorem dX0_has_16 : decode cX0_has 16 = .ok (.iconst 0, 1) := by decide +kernel
theorem dX0_has_17 : decode cX0_has 17 = .ok (.ireturn, 1) := by decide +kernel
theorem dX0_add_0 : decode cX0_add 0 = .ok (.aload_n 0, 1) := by decide +kernel
theorem dX0_add_1 : decode cX0_add 1 = .ok (.getfield 24, 3) := by decide +kernel
theorem dX0_add_4 : decode cX0_add 4 = .ok (.istore 4, 2) := by decide +kernel
theorem dX0_add_6 : decode cX0_add 6 = .ok (.aload_n 0, 1) := by decide +kernel
theorem dX0_add_7 : decode cX0_add 7 = .ok (.getfield 9, 3) := by decide +kernel
theorem dX0_add_10 : decode cX0_add 10 = .ok (.iload 4, 2) := by decide +kernel
theorem dX0_add_12 : decode cX0_add 12 = .ok (.iload_n 1, 1) := by decide +kernel
theorem dX0_add_13 : decode cX0_add 13 = .ok (.iastore, 1) := by decide +kernel
theorem dX0_add_14 : decode cX0_add 14 = .ok (.aload_n 0, 1) := by decide +kernel
theorem dX0_add_15 : decode cX0_add 15 = .ok (.getfield 15, 3) := by decide +kernel
theorem dX0_add_18 : decode cX0_add 18 = .ok (.iload 4, 2) := by decide +kernel
theorem dX0_add_20 : decode cX0_add 20 = .ok (.iload_n 2, 1) := by decide +kernel
theorem dX0_add_21 : decode cX0_add 21 = .ok (.iastore, 1) := by decide +kernel
theorem dX0_add_22 : decode cX0_add 22 = .ok (.aload_n 0, 1) := by decide +kernel
theorem dX0_add_23 : decode cX0_add 23 = .ok (.getfield 18, 3) := by decide +kernel
theorem dX0_add_26 : decode cX0_add 26 = .ok (.iload 4, 2) := by decide +kernel
theorem dX0_add_28 : decode cX0_add 28 = .ok (.iload_n 3, 1) := by decide +kernel
theorem dX0_add_29 : decode cX0_add 29 = .ok (.iastore, 1) := by decide +kernel
theorem dX0_add_30 : decode cX0_add 30 = .ok (.aload_n 0, 1) := by decide +kernel
theorem dX0_add_31 : decode cX0_add 31 = .ok (.dup, 1) := by decide +kernel
theorem dX0_add_32 : decode cX0_add 32 = .ok (.getfield 24, 3) := by decide +kernel
theorem dX0_add_35 : decode cX0_add 35 = .ok (.iconst 1, 1) := by decide +kernel
theorem dX0_add_36 : decode cX0_add 36 = .ok (.iadd, 1) := by decide +kernel
theorem dX0_add_37 : decode cX0_add 37 = .ok (.putfield 24, 3) := by decide +kernel
theorem dX0_add_40 : decode cX0_add 40 = .ok (.iload 4, 2) := by decide +kernel
theorem dX0_add_42 : decode cX0_add 42 = .ok (.ireturn, 1) := by decide +kernel
theorem dX0_give_0 : decode cX0_give 0 = .ok (.aload_n 0, 1) := by decide +kernel
theorem dX0_give_1 : decode cX0_give 1 = .ok (.getfield 21, 3) := by decide +kernel
theorem dX0_give_4 : decode cX0_give 4 = .ok (.iload_n 1, 1) := by decide +kernel
theorem dX0_give_5 : decode cX0_give 5 = .ok (.iaload, 1) := by decide +kernel
theorem dX0_give_6 : decode cX0_give 6 = .ok (.istore_n 3, 1) := by decide +kernel
theorem dX0_give_7 : decode cX0_give 7 = .ok (.aload_n 0, 1) := by decide +kernel
theorem dX0_give_8 : decode cX0_give 8 = .ok (.getfield 21, 3) := by decide +kernel
theorem dX0_give_11 : decode cX0_give 11 = .ok (.iload_n 1, 1) := by decide +kernel
theorem dX0_give_12 : decode cX0_give 12 = .ok (.iload_n 2, 1) := by decide +kernel
theorem dX0_give_13 : decode cX0_give 13 = .ok (.iastore, 1) := by decide +kernel
theorem dX0_give_14 : decode cX0_give 14 = .ok (.iload_n 3, 1) := by decide +kernel
theorem dX0_give_15 : decode cX0_give 15 = .ok (.ireturn, 1) := by decide +kernel
set_option maxRecDepth 20000 in
theorem ggX0_succeedsInPlace_X0_findEmpties : GoodIn wsX0_succeedsInPlace wsX0_findEmpties := goodIn_r _ [6, 7, 8, 1, 9, 10, 11, 12, 13, 14, 15, 5, 16, 17, 18, 19, 20, 21, 22, 23, 24, 25, 26, 27, 28, 29, 30, 31, 32, 33, 34, 35, 36] (by decide +kernel) (by decide +kernel)
set_option maxRecDepth 20000 in
theorem gX0_succeedsInPlace_X0_findEmpties : GoodIn wsX0_succeedsInPlace (wsV RX0 44 RX0 yX0_findEmpties wsX0_findEmpties) := goodIn_app (goodIn_of _ (by decide +kernel)) ggX0_succeedsInPlace_X0_findEmpties
theorem dX0_succeedsInPlace_0 : decode cX0_succeedsInPlace 0 = .ok (.aload_n 0, 1) := by decide +kernel
theorem dX0_succeedsInPlace_1 : decode cX0_succeedsInPlace 1 = .ok (.invokevirtual 44, 3) := by decide +kernel
theorem dX0_succeedsInPlace_4 : decode cX0_succeedsInPlace 4 = .ok (.aload_n 0, 1) := by decide +kernel
theorem dX0_succeedsInPlace_5 : decode cX0_succeedsInPlace 5 = .ok (.getfield 28, 3) := by decide +kernel
theorem dX0_succeedsInPlace_8 : decode cX0_succeedsInPlace 8 = .ok (.iload_n 1, 1) := by decide +kernel
theorem dX0_succeedsInPlace_9 : decode cX0_succeedsInPlace 9 = .ok (.baload, 1) := by decide +kernel
theorem dX0_succeedsInPlace_10 : decode cX0_succeedsInPlace 10 = .ok (.ireturn, 1) := by decide +kernel
set_option maxRecDepth 20000 in
theorem ggX0_beginsWithItself_X0_findEmpties : GoodIn wsX0_beginsWithItself wsX0_findEmpties := goodIn_r _ [5, 6, 7, 8, 9, 10, 11, 12, 13, 14, 15, 4, 16, 17, 18, 19, 20, 21, 22, 23, 24, 25, 26, 27, 28, 45, 46, 47, 48, 49, 50, 51, 52] (by decide +kernel) (by decide +kernel)
set_option maxRecDepth 20000 in
theorem gX0_beginsWithItself_X0_findEmpties : GoodIn wsX0_beginsWithItself (wsV RX0 44 RX0 yX0_findEmpties wsX0_findEmpties) := goodIn_app (goodIn_of _ (by decide +kernel)) ggX0_beginsWithItself_X0_findEmpties
set_option maxRecDepth 20000 in
theorem ggX0_beginsWithItself_X0_findBeginnings : GoodIn wsX0_beginsWithItself wsX0_findBeginnings := goodIn_r _ [32, 7, 33, 34, 35, 36, 4, 37, 17, 18, 19, 8, 38, 39, 40, 45, 46, 47, 48, 49, 50, 51, 52] (by decide +kernel) (by decide +kernel)
set_option maxRecDepth 20000 in
theorem gX0_beginsWithItself_X0_findBeginnings : GoodIn wsX0_beginsWithItself (wsV RX0 47 RX0 yX0_findBeginnings wsX0_findBeginnings) := goodIn_app (goodIn_of _ (by decide +kernel)) ggX0_beginsWithItself_X0_findBeginnings
set_option maxRecDepth 20000 in
theorem ggX0_beginsWithItself_X0_beginningsOfRule : GoodIn wsX0_beginsWithItself wsX0_beginningsOfRule := goodIn_r _ [44, 24, 33, 25, 26, 27, 4, 28, 7, 45, 46, 47, 48, 49, 50, 51, 52] (by decide +kernel) (by decide +kernel)
set_option maxRecDepth 20000 in
theorem gX0_beginsWithItself_X0_beginningsOfRule : GoodIn wsX0_beginsWithItself (wsV RX0 50 RX0 yX0_beginningsOfRule wsX0_beginningsOfRule) := goodIn_app (goodIn_of _ (by decide +kernel)) ggX0_beginsWithItself_X0_beginningsOfRule
set_option maxRecDepth 20000 in
theorem ggX0_beginsWithItself_X5_bit : GoodIn wsX0_beginsWithItself wsX5_bit := goodIn_r _ [40] (by decide +kernel) (by decide +kernel)
set_option maxRecDepth 20000 in
theorem gX0_beginsWithItself_X5_bit_n54 : GoodIn wsX0_beginsWithItself (wsX5_bit) := ggX0_beginsWithItself_X5_bit
theorem dX0_beginsWithItself_0 : decode cX0_beginsWithItself 0 = .ok (.aload_n 0, 1) := by decide +kernel
theorem dX0_beginsWithItself_1 : decode cX0_beginsWithItself 1 = .ok (.invokevirtual 44, 3) := by decide +kernel
theorem dX0_beginsWithItself_4 : decode cX0_beginsWithItself 4 = .ok (.aload_n 0, 1) := by decide +kernel
theorem dX0_beginsWithItself_5 : decode cX0_beginsWithItself 5 = .ok (.invokevirtual 47, 3) := by decide +kernel
theorem dX0_beginsWithItself_8 : decode cX0_beginsWithItself 8 = .ok (.aload_n 0, 1) := by decide +kernel
theorem dX0_beginsWithItself_9 : decode cX0_beginsWithItself 9 = .ok (.iload_n 1, 1) := by decide +kernel
theorem dX0_beginsWithItself_10 : decode cX0_beginsWithItself 10 = .ok (.invokevirtual 50, 3) := by decide +kernel
theorem dX0_beginsWithItself_13 : decode cX0_beginsWithItself 13 = .ok (.istore_n 2, 1) := by decide +kernel
theorem dX0_beginsWithItself_14 : decode cX0_beginsWithItself 14 = .ok (.iconst 0, 1) := by decide +kernel
theorem dX0_beginsWithItself_15 : decode cX0_beginsWithItself 15 = .ok (.istore_n 3, 1) := by decide +kernel
theorem dX0_beginsWithItself_16 : decode cX0_beginsWithItself 16 = .ok (.iload_n 3, 1) := by decide +kernel
theorem dX0_beginsWithItself_17 : decode cX0_beginsWithItself 17 = .ok (.bipush 10, 2) := by decide +kernel
theorem dX0_beginsWithItself_19 : decode cX0_beginsWithItself 19 = .ok (.if_icmp .ge 44, 3) := by decide +kernel
theorem dX0_beginsWithItself_22 : decode cX0_beginsWithItself 22 = .ok (.iconst 0, 1) := by decide +kernel
theorem dX0_beginsWithItself_23 : decode cX0_beginsWithItself 23 = .ok (.istore 4, 2) := by decide +kernel
theorem dX0_beginsWithItself_25 : decode cX0_beginsWithItself 25 = .ok (.iload 4, 2) := by decide +kernel
theorem dX0_beginsWithItself_27 : decode cX0_beginsWithItself 27 = .ok (.bipush 10, 2) := by decide +kernel
theorem dX0_beginsWithItself_29 : decode cX0_beginsWithItself 29 = .ok (.if_icmp .ge 28, 3) := by decide +kernel
theorem dX0_beginsWithItself_32 : decode cX0_beginsWithItself 32 = .ok (.iload_n 2, 1) := by decide +kernel
theorem dX0_beginsWithItself_33 : decode cX0_beginsWithItself 33 = .ok (.iload 4, 2) := by decide +kernel
theorem dX0_beginsWithItself_35 : decode cX0_beginsWithItself 35 = .ok (.invokestatic 54, 3) := by decide +kernel
theorem dX0_beginsWithItself_38 : decode cX0_beginsWithItself 38 = .ok (.iand, 1) := by decide +kernel
theorem dX0_beginsWithItself_39 : decode cX0_beginsWithItself 39 = .ok (.ifCond .eq 12, 3) := by decide +kernel
theorem dX0_beginsWithItself_42 : decode cX0_beginsWithItself 42 = .ok (.iload_n 2, 1) := by decide +kernel
theorem dX0_beginsWithItself_43 : decode cX0_beginsWithItself 43 = .ok (.aload_n 0, 1) := by decide +kernel
theorem dX0_beginsWithItself_44 : decode cX0_beginsWithItself 44 = .ok (.iload 4, 2) := by decide +kernel
theorem dX0_beginsWithItself_46 : decode cX0_beginsWithItself 46 = .ok (.invokevirtual 50, 3) := by decide +kernel
theorem dX0_beginsWithItself_49 : decode cX0_beginsWithItself 49 = .ok (.ior, 1) := by decide +kernel
theorem dX0_beginsWithItself_50 : decode cX0_beginsWithItself 50 = .ok (.istore_n 2, 1) := by decide +kernel
theorem dX0_beginsWithItself_51 : decode cX0_beginsWithItself 51 = .ok (.iinc 4 1, 3) := by decide +kernel
theorem dX0_beginsWithItself_54 : decode cX0_beginsWithItself 54 = .ok (.goto (-29), 3) := by decide +kernel
theorem dX0_beginsWithItself_57 : decode cX0_beginsWithItself 57 = .ok (.iinc 3 1, 3) := by decide +kernel
theorem dX0_beginsWithItself_60 : decode cX0_beginsWithItself 60 = .ok (.goto (-44), 3) := by decide +kernel
theorem dX0_beginsWithItself_63 : decode cX0_beginsWithItself 63 = .ok (.iload_n 2, 1) := by decide +kernel
theorem dX0_beginsWithItself_64 : decode cX0_beginsWithItself 64 = .ok (.iload_n 1, 1) := by decide +kernel
theorem dX0_beginsWithItself_65 : decode cX0_beginsWithItself 65 = .ok (.invokestatic 54, 3) := by decide +kernel
theorem dX0_beginsWithItself_68 : decode cX0_beginsWithItself 68 = .ok (.iand, 1) := by decide +kernel
theorem dX0_beginsWithItself_69 : decode cX0_beginsWithItself 69 = .ok (.ifCond .eq 7, 3) := by decide +kernel
theorem dX0_beginsWithItself_72 : decode cX0_beginsWithItself 72 = .ok (.iconst 1, 1) := by decide +kernel
theorem dX0_beginsWithItself_73 : decode cX0_beginsWithItself 73 = .ok (.goto 4, 3) := by decide +kernel
theorem dX0_beginsWithItself_76 : decode cX0_beginsWithItself 76 = .ok (.iconst 0, 1) := by decide +kernel
theorem dX0_beginsWithItself_77 : decode cX0_beginsWithItself 77 = .ok (.ireturn, 1) := by decide +kernel
set_option maxRecDepth 20000 in
theorem ggX0_addToDigest_X5_mix : GoodIn wsX0_addToDigest wsX5_mix := goodIn_r _ [5, 6] (by decide +kernel) (by decide +kernel)
set_option maxRecDepth 20000 in
theorem gX0_addToDigest_X5_mix_n57 : GoodIn wsX0_addToDigest (wsX5_mix) := ggX0_addToDigest_X5_mix
theorem dX0_addToDigest_0 : decode cX0_addToDigest 0 = .ok (.lload_n 1, 1) := by decide +kernel
theorem dX0_addToDigest_1 : decode cX0_addToDigest 1 = .ok (.aload_n 0, 1) := by decide +kernel
theorem dX0_addToDigest_2 : decode cX0_addToDigest 2 = .ok (.getfield 24, 3) := by decide +kernel
theorem dX0_addToDigest_5 : decode cX0_addToDigest 5 = .ok (.invokestatic 57, 3) := by decide +kernel
theorem dX0_addToDigest_8 : decode cX0_addToDigest 8 = .ok (.lstore_n 3, 1) := by decide +kernel
theorem dX0_addToDigest_9 : decode cX0_addToDigest 9 = .ok (.iconst 0, 1) := by decide +kernel
theorem dX0_addToDigest_10 : decode cX0_addToDigest 10 = .ok (.istore 5, 2) := by decide +kernel
theorem dX0_addToDigest_12 : decode cX0_addToDigest 12 = .ok (.iload 5, 2) := by decide +kernel
theorem dX0_addToDigest_14 : decode cX0_addToDigest 14 = .ok (.bipush 10, 2) := by decide +kernel
theorem dX0_addToDigest_16 : decode cX0_addToDigest 16 = .ok (.if_icmp .ge 21, 3) := by decide +kernel
theorem dX0_addToDigest_19 : decode cX0_addToDigest 19 = .ok (.lload_n 3, 1) := by decide +kernel
theorem dX0_addToDigest_20 : decode cX0_addToDigest 20 = .ok (.aload_n 0, 1) := by decide +kernel
theorem dX0_addToDigest_21 : decode cX0_addToDigest 21 = .ok (.getfield 21, 3) := by decide +kernel
theorem dX0_addToDigest_24 : decode cX0_addToDigest 24 = .ok (.iload 5, 2) := by decide +kernel
theorem dX0_addToDigest_26 : decode cX0_addToDigest 26 = .ok (.iaload, 1) := by decide +kernel
theorem dX0_addToDigest_27 : decode cX0_addToDigest 27 = .ok (.invokestatic 57, 3) := by decide +kernel
theorem dX0_addToDigest_30 : decode cX0_addToDigest 30 = .ok (.lstore_n 3, 1) := by decide +kernel
theorem dX0_addToDigest_31 : decode cX0_addToDigest 31 = .ok (.iinc 5 1, 3) := by decide +kernel
theorem dX0_addToDigest_34 : decode cX0_addToDigest 34 = .ok (.goto (-22), 3) := by decide +kernel
theorem dX0_addToDigest_37 : decode cX0_addToDigest 37 = .ok (.lload_n 3, 1) := by decide +kernel
theorem dX0_addToDigest_38 : decode cX0_addToDigest 38 = .ok (.lreturn, 1) := by decide +kernel
set_option maxRecDepth 20000 in
theorem ggX0_findEmpties_J7_fill_49daa : GoodIn wsX0_findEmpties wsJ7_fill_49daa := goodIn_r _ [7] (by decide +kernel) (by decide +kernel)
set_option maxRecDepth 20000 in
theorem gX0_findEmpties_J7_fill_49daa : GoodIn wsX0_findEmpties (va_wsS RX0 61 yJ7_fill_49daa wsJ7_fill_49daa) := goodIn_app (goodIn_of _ (by decide +kernel)) ggX0_findEmpties_J7_fill_49daa
set_option maxRecDepth 20000 in
theorem ggX0_findEmpties_X0_isEmptyByForm : GoodIn wsX0_findEmpties wsX0_isEmptyByForm := goodIn_r _ [12, 13, 14, 15, 1, 3, 25, 26, 27, 28, 29, 30, 31, 32] (by decide +kernel) (by decide +kernel)
set_option maxRecDepth 20000 in
theorem gX0_findEmpties_X0_isEmptyByForm : GoodIn wsX0_findEmpties (wsV RX0 64 RX0 yX0_isEmptyByForm wsX0_isEmptyByForm) := goodIn_app (goodIn_of _ (by decide +kernel)) ggX0_findEmpties_X0_isEmptyByForm
set_option maxRecDepth 20000 in
theorem ggX0_findEmpties_X0_addEmptyRules : GoodIn wsX0_findEmpties wsX0_addEmptyRules := goodIn_r _ [19, 20, 1, 3, 21, 22, 23, 11, 24, 2, 25, 26, 27, 28, 29, 30, 31, 32] (by decide +kernel) (by decide +kernel)
set_option maxRecDepth 20000 in
theorem gX0_findEmpties_X0_addEmptyRules : GoodIn wsX0_findEmpties (wsV RX0 68 RX0 yX0_addEmptyRules wsX0_addEmptyRules) := goodIn_app (goodIn_of _ (by decide +kernel)) ggX0_findEmpties_X0_addEmptyRules
theorem dX0_findEmpties_0 : decode cX0_findEmpties 0 = .ok (.aload_n 0, 1) := by decide +kernel
theorem dX0_findEmpties_1 : decode cX0_findEmpties 1 = .ok (.getfield 32, 3) := by decide +kernel
theorem dX0_findEmpties_4 : decode cX0_findEmpties 4 = .ok (.iconst 0, 1) := by decide +kernel
theorem dX0_findEmpties_5 : decode cX0_findEmpties 5 = .ok (.invokestatic 61, 3) := by decide +kernel
theorem dX0_findEmpties_8 : decode cX0_findEmpties 8 = .ok (.iconst 1, 1) := by decide +kernel
theorem dX0_findEmpties_9 : decode cX0_findEmpties 9 = .ok (.istore_n 1, 1) := by decide +kernel
theorem dX0_findEmpties_10 : decode cX0_findEmpties 10 = .ok (.iconst 0, 1) := by decide +kernel
theorem dX0_findEmpties_11 : decode cX0_findEmpties 11 = .ok (.istore_n 2, 1) := by decide +kernel
theorem dX0_findEmpties_12 : decode cX0_findEmpties 12 = .ok (.iload_n 2, 1) := by decide +kernel
theorem dX0_findEmpties_13 : decode cX0_findEmpties 13 = .ok (.bipush 10, 2) := by decide +kernel
theorem dX0_findEmpties_15 : decode cX0_findEmpties 15 = .ok (.if_icmp .gt 45, 3) := by decide +kernel
theorem dX0_findEmpties_18 : decode cX0_findEmpties 18 = .ok (.iload_n 1, 1) := by decide +kernel
theorem dX0_findEmpties_19 : decode cX0_findEmpties 19 = .ok (.ifCond .eq 41, 3) := by decide +kernel
theorem dX0_findEmpties_22 : decode cX0_findEmpties 22 = .ok (.iconst 0, 1) := by decide +kernel
theorem dX0_findEmpties_23 : decode cX0_findEmpties 23 = .ok (.istore_n 3, 1) := by decide +kernel
theorem dX0_findEmpties_24 : decode cX0_findEmpties 24 = .ok (.iload_n 3, 1) := by decide +kernel
theorem dX0_findEmpties_25 : decode cX0_findEmpties 25 = .ok (.aload_n 0, 1) := by decide +kernel
theorem dX0_findEmpties_26 : decode cX0_findEmpties 26 = .ok (.getfield 24, 3) := by decide +kernel
theorem dX0_findEmpties_29 : decode cX0_findEmpties 29 = .ok (.if_icmp .ge 20, 3) := by decide +kernel
theorem dX0_findEmpties_32 : decode cX0_findEmpties 32 = .ok (.aload_n 0, 1) := by decide +kernel
theorem dX0_findEmpties_33 : decode cX0_findEmpties 33 = .ok (.getfield 28, 3) := by decide +kernel
theorem dX0_findEmpties_36 : decode cX0_findEmpties 36 = .ok (.iload_n 3, 1) := by decide +kernel
theorem dX0_findEmpties_37 : decode cX0_findEmpties 37 = .ok (.aload_n 0, 1) := by decide +kernel
theorem dX0_findEmpties_38 : decode cX0_findEmpties 38 = .ok (.iload_n 3, 1) := by decide +kernel
theorem dX0_findEmpties_39 : decode cX0_findEmpties 39 = .ok (.invokevirtual 64, 3) := by decide +kernel
theorem dX0_findEmpties_42 : decode cX0_findEmpties 42 = .ok (.bastore, 1) := by decide +kernel
theorem dX0_findEmpties_43 : decode cX0_findEmpties 43 = .ok (.iinc 3 1, 3) := by decide +kernel
theorem dX0_findEmpties_46 : decode cX0_findEmpties 46 = .ok (.goto (-22), 3) := by decide +kernel
theorem dX0_findEmpties_49 : decode cX0_findEmpties 49 = .ok (.aload_n 0, 1) := by decide +kernel
theorem dX0_findEmpties_50 : decode cX0_findEmpties 50 = .ok (.invokevirtual 68, 3) := by decide +kernel
theorem dX0_findEmpties_53 : decode cX0_findEmpties 53 = .ok (.istore_n 1, 1) := by decide +kernel
theorem dX0_findEmpties_54 : decode cX0_findEmpties 54 = .ok (.iinc 2 1, 3) := by decide +kernel
theorem dX0_findEmpties_57 : decode cX0_findEmpties 57 = .ok (.goto (-45), 3) := by decide +kernel
theorem dX0_findEmpties_60 : decode cX0_findEmpties 60 = .ok (.return_, 1) := by decide +kernel
theorem dX0_isEmptyByForm_0 : decode cX0_isEmptyByForm 0 = .ok (.aload_n 0, 1) := by decide +kernel
theorem dX0_isEmptyByForm_1 : decode cX0_isEmptyByForm 1 = .ok (.getfield 15, 3) := by decide +kernel
theorem dX0_isEmptyByForm_4 : decode cX0_isEmptyByForm 4 = .ok (.iload_n 1, 1) := by decide +kernel
theorem dX0_isEmptyByForm_5 : decode cX0_isEmptyByForm 5 = .ok (.iaload, 1) := by decide +kernel
theorem dX0_isEmptyByForm_6 : decode cX0_isEmptyByForm 6 = .ok (.istore_n 2, 1) := by decide +kernel
theorem dX0_isEmptyByForm_7 : decode cX0_isEmptyByForm 7 = .ok (.aload_n 0, 1) := by decide +kernel
theorem dX0_isEmptyByForm_8 : decode cX0_isEmptyByForm 8 = .ok (.getfield 18, 3) := by decide +kernel
theorem dX0_isEmptyByForm_11 : decode cX0_isEmptyByForm 11 = .ok (.iload_n 1, 1) := by decide +kernel
theorem dX0_isEmptyByForm_12 : decode cX0_isEmptyByForm 12 = .ok (.iaload, 1) := by decide +kernel
theorem dX0_isEmptyByForm_13 : decode cX0_isEmptyByForm 13 = .ok (.istore_n 3, 1) := by decide +kernel
theorem dX0_isEmptyByForm_14 : decode cX0_isEmptyByForm 14 = .ok (.aload_n 0, 1) := by decide +kernel
theorem dX0_isEmptyByForm_15 : decode cX0_isEmptyByForm 15 = .ok (.getfield 9, 3) := by decide +kernel
theorem dX0_isEmptyByForm_18 : decode cX0_isEmptyByForm 18 = .ok (.iload_n 1, 1) := by decide +kernel
theorem dX0_isEmptyByForm_19 : decode cX0_isEmptyByForm 19 = .ok (.iaload, 1) := by decide +kernel
theorem dX0_isEmptyByForm_20 : decode cX0_isEmptyByForm 20 = .ok (.tableswitch 89 2 5 #[32, 34, 41, 65], 32) := by decide +kernel
theorem dX0_isEmptyByForm_52 : decode cX0_isEmptyByForm 52 = .ok (.iconst 0, 1) := by decide +kernel
theorem dX0_isEmptyByForm_53 : decode cX0_isEmptyByForm 53 = .ok (.ireturn, 1) := by decide +kernel
theorem dX0_isEmptyByForm_54 : decode cX0_isEmptyByForm 54 = .ok (.aload_n 0, 1) := by decide +kernel
theorem dX0_isEmptyByForm_55 : decode cX0_isEmptyByForm 55 = .ok (.getfield 32, 3) := by decide +kernel
theorem dX0_isEmptyByForm_58 : decode cX0_isEmptyByForm 58 = .ok (.iload_n 2, 1) := by decide +kernel
theorem dX0_isEmptyByForm_59 : decode cX0_isEmptyByForm 59 = .ok (.baload, 1) := by decide +kernel
theorem dX0_isEmptyByForm_60 : decode cX0_isEmptyByForm 60 = .ok (.ireturn, 1) := by decide +kernel
theorem dX0_isEmptyByForm_61 : decode cX0_isEmptyByForm 61 = .ok (.aload_n 0, 1) := by decide +kernel
theorem dX0_isEmptyByForm_62 : decode cX0_isEmptyByForm 62 = .ok (.getfield 28, 3) := by decide +kernel
theorem dX0_isEmptyByForm_65 : decode cX0_isEmptyByForm 65 = .ok (.iload_n 2, 1) := by decide +kernel
theorem dX0_isEmptyByForm_66 : decode cX0_isEmptyByForm 66 = .ok (.baload, 1) := by decide +kernel
theorem dX0_isEmptyByForm_67 : decode cX0_isEmptyByForm 67 = .ok (.ifCond .eq 16, 3) := by decide +kernel
theorem dX0_isEmptyByForm_70 : decode cX0_isEmptyByForm 70 = .ok (.aload_n 0, 1) := by decide +kernel
theorem dX0_isEmptyByForm_71 : decode cX0_isEmptyByForm 71 = .ok (.getfield 28, 3) := by decide +kernel
theorem dX0_isEmptyByForm_74 : decode cX0_isEmptyByForm 74 = .ok (.iload_n 3, 1) := by decide +kernel
theorem dX0_isEmptyByForm_75 : decode cX0_isEmptyByForm 75 = .ok (.baload, 1) := by decide +kernel
theorem dX0_isEmptyByForm_76 : decode cX0_isEmptyByForm 76 = .ok (.ifCond .eq 7, 3) := by decide +kernel
theorem dX0_isEmptyByForm_79 : decode cX0_isEmptyByForm 79 = .ok (.iconst 1, 1) := by decide +kernel
theorem dX0_isEmptyByForm_80 : decode cX0_isEmptyByForm 80 = .ok (.goto 4, 3) := by decide +kernel
theorem dX0_isEmptyByForm_83 : decode cX0_isEmptyByForm 83 = .ok (.iconst 0, 1) := by decide +kernel
theorem dX0_isEmptyByForm_84 : decode cX0_isEmptyByForm 84 = .ok (.ireturn, 1) := by decide +kernel
theorem dX0_isEmptyByForm_85 : decode cX0_isEmptyByForm 85 = .ok (.aload_n 0, 1) := by decide +kernel
theorem dX0_isEmptyByForm_86 : decode cX0_isEmptyByForm 86 = .ok (.getfield 28, 3) := by decide +kernel
theorem dX0_isEmptyByForm_89 : decode cX0_isEmptyByForm 89 = .ok (.iload_n 2, 1) := by decide +kernel
theorem dX0_isEmptyByForm_90 : decode cX0_isEmptyByForm 90 = .ok (.baload, 1) := by decide +kernel
theorem dX0_isEmptyByForm_91 : decode cX0_isEmptyByForm 91 = .ok (.ifCond .ne 12, 3) := by decide +kernel
theorem dX0_isEmptyByForm_94 : decode cX0_isEmptyByForm 94 = .ok (.aload_n 0, 1) := by decide +kernel
theorem dX0_isEmptyByForm_95 : decode cX0_isEmptyByForm 95 = .ok (.getfield 28, 3) := by decide +kernel
theorem dX0_isEmptyByForm_98 : decode cX0_isEmptyByForm 98 = .ok (.iload_n 3, 1) := by decide +kernel
theorem dX0_isEmptyByForm_99 : decode cX0_isEmptyByForm 99 = .ok (.baload, 1) := by decide +kernel
theorem dX0_isEmptyByForm_100 : decode cX0_isEmptyByForm 100 = .ok (.ifCond .eq 7, 3) := by decide +kernel
theorem dX0_isEmptyByForm_103 : decode cX0_isEmptyByForm 103 = .ok (.iconst 1, 1) := by decide +kernel
theorem dX0_isEmptyByForm_104 : decode cX0_isEmptyByForm 104 = .ok (.goto 4, 3) := by decide +kernel
theorem dX0_isEmptyByForm_107 : decode cX0_isEmptyByForm 107 = .ok (.iconst 0, 1) := by decide +kernel
theorem dX0_isEmptyByForm_108 : decode cX0_isEmptyByForm 108 = .ok (.ireturn, 1) := by decide +kernel
theorem dX0_isEmptyByForm_109 : decode cX0_isEmptyByForm 109 = .ok (.iconst 1, 1) := by decide +kernel
theorem dX0_isEmptyByForm_110 : decode cX0_isEmptyByForm 110 = .ok (.ireturn, 1) := by decide +kernel
set_option maxRecDepth 20000 in
theorem ggX0_addEmptyRules_X0_has : GoodIn wsX0_addEmptyRules wsX0_has := goodIn_r _ [8, 9, 10, 11, 12, 13, 14, 15, 16, 17] (by decide +kernel) (by decide +kernel)
set_option maxRecDepth 20000 in
theorem gX0_addEmptyRules_X0_has : GoodIn wsX0_addEmptyRules (wsV RX0 72 RX0 yX0_has wsX0_has) := goodIn_app (goodIn_of _ (by decide +kernel)) ggX0_addEmptyRules_X0_has
theorem dX0_addEmptyRules_0 : decode cX0_addEmptyRules 0 = .ok (.iconst 0, 1) := by decide +kernel
theorem dX0_addEmptyRules_1 : decode cX0_addEmptyRules 1 = .ok (.istore_n 1, 1) := by decide +kernel
theorem dX0_addEmptyRules_2 : decode cX0_addEmptyRules 2 = .ok (.iconst 0, 1) := by decide +kernel
theorem dX0_addEmptyRules_3 : decode cX0_addEmptyRules 3 = .ok (.istore_n 2, 1) := by decide +kernel
theorem dX0_addEmptyRules_4 : decode cX0_addEmptyRules 4 = .ok (.iload_n 2, 1) := by decide +kernel
theorem dX0_addEmptyRules_5 : decode cX0_addEmptyRules 5 = .ok (.bipush 10, 2) := by decide +kernel
theorem dX0_addEmptyRules_7 : decode cX0_addEmptyRules 7 = .ok (.if_icmp .ge 51, 3) := by decide +kernel
theorem dX0_addEmptyRules_10 : decode cX0_addEmptyRules 10 = .ok (.aload_n 0, 1) := by decide +kernel
theorem dX0_addEmptyRules_11 : decode cX0_addEmptyRules 11 = .ok (.getfield 21, 3) := by decide +kernel
theorem dX0_addEmptyRules_14 : decode cX0_addEmptyRules 14 = .ok (.iload_n 2, 1) := by decide +kernel
theorem dX0_addEmptyRules_15 : decode cX0_addEmptyRules 15 = .ok (.iaload, 1) := by decide +kernel
theorem dX0_addEmptyRules_16 : decode cX0_addEmptyRules 16 = .ok (.istore_n 3, 1) := by decide +kernel
theorem dX0_addEmptyRules_17 : decode cX0_addEmptyRules 17 = .ok (.aload_n 0, 1) := by decide +kernel
theorem dX0_addEmptyRules_18 : decode cX0_addEmptyRules 18 = .ok (.getfield 32, 3) := by decide +kernel
theorem dX0_addEmptyRules_21 : decode cX0_addEmptyRules 21 = .ok (.iload_n 2, 1) := by decide +kernel
theorem dX0_addEmptyRules_22 : decode cX0_addEmptyRules 22 = .ok (.baload, 1) := by decide +kernel
theorem dX0_addEmptyRules_23 : decode cX0_addEmptyRules 23 = .ok (.ifCond .ne 29, 3) := by decide +kernel
theorem dX0_addEmptyRules_26 : decode cX0_addEmptyRules 26 = .ok (.aload_n 0, 1) := by decide +kernel
theorem dX0_addEmptyRules_27 : decode cX0_addEmptyRules 27 = .ok (.iload_n 3, 1) := by decide +kernel
theorem dX0_addEmptyRules_28 : decode cX0_addEmptyRules 28 = .ok (.invokevirtual 72, 3) := by decide +kernel
theorem dX0_addEmptyRules_31 : decode cX0_addEmptyRules 31 = .ok (.ifCond .eq 21, 3) := by decide +kernel
theorem dX0_addEmptyRules_34 : decode cX0_addEmptyRules 34 = .ok (.aload_n 0, 1) := by decide +kernel
theorem dX0_addEmptyRules_35 : decode cX0_addEmptyRules 35 = .ok (.getfield 28, 3) := by decide +kernel
theorem dX0_addEmptyRules_38 : decode cX0_addEmptyRules 38 = .ok (.iload_n 3, 1) := by decide +kernel
theorem dX0_addEmptyRules_39 : decode cX0_addEmptyRules 39 = .ok (.baload, 1) := by decide +kernel
theorem dX0_addEmptyRules_40 : decode cX0_addEmptyRules 40 = .ok (.ifCond .eq 12, 3) := by decide +kernel
theorem dX0_addEmptyRules_43 : decode cX0_addEmptyRules 43 = .ok (.aload_n 0, 1) := by decide +kernel
theorem dX0_addEmptyRules_44 : decode cX0_addEmptyRules 44 = .ok (.getfield 32, 3) := by decide +kernel
theorem dX0_addEmptyRules_47 : decode cX0_addEmptyRules 47 = .ok (.iload_n 2, 1) := by decide +kernel
theorem dX0_addEmptyRules_48 : decode cX0_addEmptyRules 48 = .ok (.iconst 1, 1) := by decide +kernel
theorem dX0_addEmptyRules_49 : decode cX0_addEmptyRules 49 = .ok (.bastore, 1) := by decide +kernel
theorem dX0_addEmptyRules_50 : decode cX0_addEmptyRules 50 = .ok (.iconst 1, 1) := by decide +kernel
theorem dX0_addEmptyRules_51 : decode cX0_addEmptyRules 51 = .ok (.istore_n 1, 1) := by decide +kernel
theorem dX0_addEmptyRules_52 : decode cX0_addEmptyRules 52 = .ok (.iinc 2 1, 3) := by decide +kernel
theorem dX0_addEmptyRules_55 : decode cX0_addEmptyRules 55 = .ok (.goto (-51), 3) := by decide +kernel
theorem dX0_addEmptyRules_58 : decode cX0_addEmptyRules 58 = .ok (.iload_n 1, 1) := by decide +kernel
theorem dX0_addEmptyRules_59 : decode cX0_addEmptyRules 59 = .ok (.ireturn, 1) := by decide +kernel
set_option maxRecDepth 20000 in
theorem ggX0_findBeginnings_X0_beginningsByForm : GoodIn wsX0_findBeginnings wsX0_beginningsByForm := goodIn_r _ [7, 8, 9, 10, 2, 11, 12, 13, 14, 15, 16, 17, 18, 19, 20, 21, 22] (by decide +kernel) (by decide +kernel)
set_option maxRecDepth 20000 in
theorem gX0_findBeginnings_X0_beginningsByForm : GoodIn wsX0_findBeginnings (wsV RX0 75 RX0 yX0_beginningsByForm wsX0_beginningsByForm) := goodIn_app (goodIn_of _ (by decide +kernel)) ggX0_findBeginnings_X0_beginningsByForm
theorem dX0_findBeginnings_0 : decode cX0_findBeginnings 0 = .ok (.iconst 0, 1) := by decide +kernel
theorem dX0_findBeginnings_1 : decode cX0_findBeginnings 1 = .ok (.istore_n 1, 1) := by decide +kernel
theorem dX0_findBeginnings_2 : decode cX0_findBeginnings 2 = .ok (.iload_n 1, 1) := by decide +kernel
theorem dX0_findBeginnings_3 : decode cX0_findBeginnings 3 = .ok (.aload_n 0, 1) := by decide +kernel
theorem dX0_findBeginnings_4 : decode cX0_findBeginnings 4 = .ok (.getfield 24, 3) := by decide +kernel
theorem dX0_findBeginnings_7 : decode cX0_findBeginnings 7 = .ok (.if_icmp .ge 20, 3) := by decide +kernel
theorem dX0_findBeginnings_10 : decode cX0_findBeginnings 10 = .ok (.aload_n 0, 1) := by decide +kernel
theorem dX0_findBeginnings_11 : decode cX0_findBeginnings 11 = .ok (.getfield 35, 3) := by decide +kernel
theorem dX0_findBeginnings_14 : decode cX0_findBeginnings 14 = .ok (.iload_n 1, 1) := by decide +kernel
theorem dX0_findBeginnings_15 : decode cX0_findBeginnings 15 = .ok (.aload_n 0, 1) := by decide +kernel
theorem dX0_findBeginnings_16 : decode cX0_findBeginnings 16 = .ok (.iload_n 1, 1) := by decide +kernel
theorem dX0_findBeginnings_17 : decode cX0_findBeginnings 17 = .ok (.invokevirtual 75, 3) := by decide +kernel
theorem dX0_findBeginnings_20 : decode cX0_findBeginnings 20 = .ok (.iastore, 1) := by decide +kernel
theorem dX0_findBeginnings_21 : decode cX0_findBeginnings 21 = .ok (.iinc 1 1, 3) := by decide +kernel
theorem dX0_findBeginnings_24 : decode cX0_findBeginnings 24 = .ok (.goto (-22), 3) := by decide +kernel
theorem dX0_findBeginnings_27 : decode cX0_findBeginnings 27 = .ok (.return_, 1) := by decide +kernel
set_option maxRecDepth 20000 in
theorem ggX0_beginningsByForm_X5_bit : GoodIn wsX0_beginningsByForm wsX5_bit := goodIn_r _ [8] (by decide +kernel) (by decide +kernel)
set_option maxRecDepth 20000 in
theorem gX0_beginningsByForm_X5_bit_n54 : GoodIn wsX0_beginningsByForm (wsX5_bit) := ggX0_beginningsByForm_X5_bit
theorem dX0_beginningsByForm_0 : decode cX0_beginningsByForm 0 = .ok (.aload_n 0, 1) := by decide +kernel
theorem dX0_beginningsByForm_1 : decode cX0_beginningsByForm 1 = .ok (.getfield 15, 3) := by decide +kernel
theorem dX0_beginningsByForm_4 : decode cX0_beginningsByForm 4 = .ok (.iload_n 1, 1) := by decide +kernel
theorem dX0_beginningsByForm_5 : decode cX0_beginningsByForm 5 = .ok (.iaload, 1) := by decide +kernel
theorem dX0_beginningsByForm_6 : decode cX0_beginningsByForm 6 = .ok (.istore_n 2, 1) := by decide +kernel
theorem dX0_beginningsByForm_7 : decode cX0_beginningsByForm 7 = .ok (.aload_n 0, 1) := by decide +kernel
theorem dX0_beginningsByForm_8 : decode cX0_beginningsByForm 8 = .ok (.getfield 18, 3) := by decide +kernel
theorem dX0_beginningsByForm_11 : decode cX0_beginningsByForm 11 = .ok (.iload_n 1, 1) := by decide +kernel
theorem dX0_beginningsByForm_12 : decode cX0_beginningsByForm 12 = .ok (.iaload, 1) := by decide +kernel
theorem dX0_beginningsByForm_13 : decode cX0_beginningsByForm 13 = .ok (.istore_n 3, 1) := by decide +kernel
theorem dX0_beginningsByForm_14 : decode cX0_beginningsByForm 14 = .ok (.aload_n 0, 1) := by decide +kernel
theorem dX0_beginningsByForm_15 : decode cX0_beginningsByForm 15 = .ok (.getfield 9, 3) := by decide +kernel
theorem dX0_beginningsByForm_18 : decode cX0_beginningsByForm 18 = .ok (.iload_n 1, 1) := by decide +kernel
theorem dX0_beginningsByForm_19 : decode cX0_beginningsByForm 19 = .ok (.iaload, 1) := by decide +kernel
theorem dX0_beginningsByForm_20 : decode cX0_beginningsByForm 20 = .ok (.tableswitch 88 0 5 #[40, 40, 40, 42, 47, 74], 40) := by decide +kernel
theorem dX0_beginningsByForm_60 : decode cX0_beginningsByForm 60 = .ok (.iconst 0, 1) := by decide +kernel
theorem dX0_beginningsByForm_61 : decode cX0_beginningsByForm 61 = .ok (.ireturn, 1) := by decide +kernel
theorem dX0_beginningsByForm_62 : decode cX0_beginningsByForm 62 = .ok (.iload_n 2, 1) := by decide +kernel
theorem dX0_beginningsByForm_63 : decode cX0_beginningsByForm 63 = .ok (.invokestatic 54, 3) := by decide +kernel
theorem dX0_beginningsByForm_66 : decode cX0_beginningsByForm 66 = .ok (.ireturn, 1) := by decide +kernel
theorem dX0_beginningsByForm_67 : decode cX0_beginningsByForm 67 = .ok (.aload_n 0, 1) := by decide +kernel
theorem dX0_beginningsByForm_68 : decode cX0_beginningsByForm 68 = .ok (.getfield 35, 3) := by decide +kernel
theorem dX0_beginningsByForm_71 : decode cX0_beginningsByForm 71 = .ok (.iload_n 2, 1) := by decide +kernel
theorem dX0_beginningsByForm_72 : decode cX0_beginningsByForm 72 = .ok (.iaload, 1) := by decide +kernel
theorem dX0_beginningsByForm_73 : decode cX0_beginningsByForm 73 = .ok (.aload_n 0, 1) := by decide +kernel
theorem dX0_beginningsByForm_74 : decode cX0_beginningsByForm 74 = .ok (.getfield 28, 3) := by decide +kernel
theorem dX0_beginningsByForm_77 : decode cX0_beginningsByForm 77 = .ok (.iload_n 2, 1) := by decide +kernel
theorem dX0_beginningsByForm_78 : decode cX0_beginningsByForm 78 = .ok (.baload, 1) := by decide +kernel
theorem dX0_beginningsByForm_79 : decode cX0_beginningsByForm 79 = .ok (.ifCond .eq 12, 3) := by decide +kernel
theorem dX0_beginningsByForm_82 : decode cX0_beginningsByForm 82 = .ok (.aload_n 0, 1) := by decide +kernel
theorem dX0_beginningsByForm_83 : decode cX0_beginningsByForm 83 = .ok (.getfield 35, 3) := by decide +kernel
theorem dX0_beginningsByForm_86 : decode cX0_beginningsByForm 86 = .ok (.iload_n 3, 1) := by decide +kernel
theorem dX0_beginningsByForm_87 : decode cX0_beginningsByForm 87 = .ok (.iaload, 1) := by decide +kernel
theorem dX0_beginningsByForm_88 : decode cX0_beginningsByForm 88 = .ok (.goto 4, 3) := by decide +kernel
theorem dX0_beginningsByForm_91 : decode cX0_beginningsByForm 91 = .ok (.iconst 0, 1) := by decide +kernel
theorem dX0_beginningsByForm_92 : decode cX0_beginningsByForm 92 = .ok (.ior, 1) := by decide +kernel
theorem dX0_beginningsByForm_93 : decode cX0_beginningsByForm 93 = .ok (.ireturn, 1) := by decide +kernel
theorem dX0_beginningsByForm_94 : decode cX0_beginningsByForm 94 = .ok (.aload_n 0, 1) := by decide +kernel
theorem dX0_beginningsByForm_95 : decode cX0_beginningsByForm 95 = .ok (.getfield 35, 3) := by decide +kernel
theorem dX0_beginningsByForm_98 : decode cX0_beginningsByForm 98 = .ok (.iload_n 2, 1) := by decide +kernel
theorem dX0_beginningsByForm_99 : decode cX0_beginningsByForm 99 = .ok (.iaload, 1) := by decide +kernel
theorem dX0_beginningsByForm_100 : decode cX0_beginningsByForm 100 = .ok (.aload_n 0, 1) := by decide +kernel
theorem dX0_beginningsByForm_101 : decode cX0_beginningsByForm 101 = .ok (.getfield 35, 3) := by decide +kernel
theorem dX0_beginningsByForm_104 : decode cX0_beginningsByForm 104 = .ok (.iload_n 3, 1) := by decide +kernel
theorem dX0_beginningsByForm_105 : decode cX0_beginningsByForm 105 = .ok (.iaload, 1) := by decide +kernel
theorem dX0_beginningsByForm_106 : decode cX0_beginningsByForm 106 = .ok (.ior, 1) := by decide +kernel
theorem dX0_beginningsByForm_107 : decode cX0_beginningsByForm 107 = .ok (.ireturn, 1) := by decide +kernel
theorem dX0_beginningsByForm_108 : decode cX0_beginningsByForm 108 = .ok (.aload_n 0, 1) := by decide +kernel
theorem dX0_beginningsByForm_109 : decode cX0_beginningsByForm 109 = .ok (.getfield 35, 3) := by decide +kernel
theorem dX0_beginningsByForm_112 : decode cX0_beginningsByForm 112 = .ok (.iload_n 2, 1) := by decide +kernel
theorem dX0_beginningsByForm_113 : decode cX0_beginningsByForm 113 = .ok (.iaload, 1) := by decide +kernel
theorem dX0_beginningsByForm_114 : decode cX0_beginningsByForm 114 = .ok (.ireturn, 1) := by decide +kernel
set_option maxRecDepth 20000 in
theorem ggX0_beginningsOfRule_X0_has : GoodIn wsX0_beginningsOfRule wsX0_has := goodIn_r _ [7, 8, 9, 10, 11, 12, 13, 14, 15, 16] (by decide +kernel) (by decide +kernel)
set_option maxRecDepth 20000 in
theorem gX0_beginningsOfRule_X0_has : GoodIn wsX0_beginningsOfRule (wsV RX0 72 RX0 yX0_has wsX0_has) := goodIn_app (goodIn_of _ (by decide +kernel)) ggX0_beginningsOfRule_X0_has
theorem dX0_beginningsOfRule_0 : decode cX0_beginningsOfRule 0 = .ok (.aload_n 0, 1) := by decide +kernel
theorem dX0_beginningsOfRule_1 : decode cX0_beginningsOfRule 1 = .ok (.getfield 21, 3) := by decide +kernel
theorem dX0_beginningsOfRule_4 : decode cX0_beginningsOfRule 4 = .ok (.iload_n 1, 1) := by decide +kernel
theorem dX0_beginningsOfRule_5 : decode cX0_beginningsOfRule 5 = .ok (.iaload, 1) := by decide +kernel
theorem dX0_beginningsOfRule_6 : decode cX0_beginningsOfRule 6 = .ok (.istore_n 2, 1) := by decide +kernel
theorem dX0_beginningsOfRule_7 : decode cX0_beginningsOfRule 7 = .ok (.aload_n 0, 1) := by decide +kernel
theorem dX0_beginningsOfRule_8 : decode cX0_beginningsOfRule 8 = .ok (.iload_n 2, 1) := by decide +kernel
theorem dX0_beginningsOfRule_9 : decode cX0_beginningsOfRule 9 = .ok (.invokevirtual 72, 3) := by decide +kernel
theorem dX0_beginningsOfRule_12 : decode cX0_beginningsOfRule 12 = .ok (.ifCond .eq 12, 3) := by decide +kernel
theorem dX0_beginningsOfRule_15 : decode cX0_beginningsOfRule 15 = .ok (.aload_n 0, 1) := by decide +kernel
theorem dX0_beginningsOfRule_16 : decode cX0_beginningsOfRule 16 = .ok (.getfield 35, 3) := by decide +kernel
theorem dX0_beginningsOfRule_19 : decode cX0_beginningsOfRule 19 = .ok (.iload_n 2, 1) := by decide +kernel
theorem dX0_beginningsOfRule_20 : decode cX0_beginningsOfRule 20 = .ok (.iaload, 1) := by decide +kernel
theorem dX0_beginningsOfRule_21 : decode cX0_beginningsOfRule 21 = .ok (.goto 4, 3) := by decide +kernel
theorem dX0_beginningsOfRule_24 : decode cX0_beginningsOfRule 24 = .ok (.iconst 0, 1) := by decide +kernel
theorem dX0_beginningsOfRule_25 : decode cX0_beginningsOfRule 25 = .ok (.ireturn, 1) := by decide +kernel
set_option maxRecDepth 20000 in
theorem ggX1_init_J7_fill_53178 : GoodIn wsX1_init wsJ7_fill_53178 := goodIn_r _ [11] (by decide +kernel) (by decide +kernel)
set_option maxRecDepth 20000 in
theorem gX1_init_J7_fill_53178 : GoodIn wsX1_init (va_wsS RX1 21 yJ7_fill_53178 wsJ7_fill_53178) := goodIn_app (goodIn_of _ (by decide +kernel)) ggX1_init_J7_fill_53178
theorem dX1_init_0 : decode cX1_init 0 = .ok (.aload_n 0, 1) := by decide +kernel
theorem dX1_init_1 : decode cX1_init 1 = .ok (.invokespecial 3, 3) := by decide +kernel
theorem dX1_init_4 : decode cX1_init 4 = .ok (.aload_n 0, 1) := by decide +kernel
theorem dX1_init_5 : decode cX1_init 5 = .ok (.sipush 410, 3) := by decide +kernel
theorem dX1_init_8 : decode cX1_init 8 = .ok (.newarray .int, 2) := by decide +kernel
theorem dX1_init_10 : decode cX1_init 10 = .ok (.putfield 9, 3) := by decide +kernel
theorem dX1_init_13 : decode cX1_init 13 = .ok (.aload_n 0, 1) := by decide +kernel
theorem dX1_init_14 : decode cX1_init 14 = .ok (.sipush 410, 3) := by decide +kernel
theorem dX1_init_17 : decode cX1_init 17 = .ok (.newarray .int, 2) := by decide +kernel
theorem dX1_init_19 : decode cX1_init 19 = .ok (.putfield 15, 3) := by decide +kernel
theorem dX1_init_22 : decode cX1_init 22 = .ok (.aload_n 0, 1) := by decide +kernel
theorem dX1_init_23 : decode cX1_init 23 = .ok (.sipush 410, 3) := by decide +kernel
theorem dX1_init_26 : decode cX1_init 26 = .ok (.newarray .int, 2) := by decide +kernel
theorem dX1_init_28 : decode cX1_init 28 = .ok (.putfield 18, 3) := by decide +kernel
theorem dX1_init_31 : decode cX1_init 31 = .ok (.aload_n 0, 1) := by decide +kernel
theorem dX1_init_32 : decode cX1_init 32 = .ok (.getfield 9, 3) := by decide +kernel
theorem dX1_init_35 : decode cX1_init 35 = .ok (.bipush (-3), 2) := by decide +kernel
theorem dX1_init_37 : decode cX1_init 37 = .ok (.invokestatic 21, 3) := by decide +kernel
theorem dX1_init_40 : decode cX1_init 40 = .ok (.aload_n 0, 1) := by decide +kernel
theorem dX1_init_41 : decode cX1_init 41 = .ok (.getfield 15, 3) := by decide +kernel
theorem dX1_init_44 : decode cX1_init 44 = .ok (.iconst (-1), 1) := by decide +kernel
theorem dX1_init_45 : decode cX1_init 45 = .ok (.invokestatic 21, 3) := by decide +kernel
theorem dX1_init_48 : decode cX1_init 48 = .ok (.return_, 1) := by decide +kernel
theorem dX1_holds_0 : decode cX1_holds 0 = .ok (.aload_n 0, 1) := by decide +kernel
theorem dX1_holds_1 : decode cX1_holds 1 = .ok (.getfield 9, 3) := by decide +kernel
theorem dX1_holds_4 : decode cX1_holds 4 = .ok (.iload_n 1, 1) := by decide +kernel
theorem dX1_holds_5 : decode cX1_holds 5 = .ok (.iaload, 1) := by decide +kernel
theorem dX1_holds_6 : decode cX1_holds 6 = .ok (.bipush (-3), 2) := by decide +kernel
theorem dX1_holds_8 : decode cX1_holds 8 = .ok (.if_icmp .eq 7, 3) := by decide +kernel
theorem dX1_holds_11 : decode cX1_holds 11 = .ok (.iconst 1, 1) := by decide +kernel
theorem dX1_holds_12 : decode cX1_holds 12 = .ok (.goto 4, 3) := by decide +kernel
theorem dX1_holds_15 : decode cX1_holds 15 = .ok (.iconst 0, 1) := by decide +kernel
theorem dX1_holds_16 : decode cX1_holds 16 = .ok (.ireturn, 1) := by decide +kernel
theorem dX1_put_0 : decode cX1_put 0 = .ok (.aload_n 0, 1) := by decide +kernel
theorem dX1_put_1 : decode cX1_put 1 = .ok (.getfield 9, 3) := by decide +kernel
theorem dX1_put_4 : decode cX1_put 4 = .ok (.iload_n 1, 1) := by decide +kernel
theorem dX1_put_5 : decode cX1_put 5 = .ok (.iload_n 2, 1) := by decide +kernel
theorem dX1_put_6 : decode cX1_put 6 = .ok (.iastore, 1) := by decide +kernel
theorem dX1_put_7 : decode cX1_put 7 = .ok (.aload_n 0, 1) := by decide +kernel
theorem dX1_put_8 : decode cX1_put 8 = .ok (.getfield 15, 3) := by decide +kernel
theorem dX1_put_11 : decode cX1_put 11 = .ok (.iload_n 1, 1) := by decide +kernel
theorem dX1_put_12 : decode cX1_put 12 = .ok (.iload_n 3, 1) := by decide +kernel
theorem dX1_put_13 : decode cX1_put 13 = .ok (.iastore, 1) := by decide +kernel
theorem dX1_put_14 : decode cX1_put 14 = .ok (.aload_n 0, 1) := by decide +kernel
theorem dX1_put_15 : decode cX1_put 15 = .ok (.getfield 18, 3) := by decide +kernel
theorem dX1_put_18 : decode cX1_put 18 = .ok (.iload_n 1, 1) := by decide +kernel
theorem dX1_put_19 : decode cX1_put 19 = .ok (.iload 4, 2) := by decide +kernel
theorem dX1_put_21 : decode cX1_put 21 = .ok (.iastore, 1) := by decide +kernel
theorem dX1_put_22 : decode cX1_put 22 = .ok (.return_, 1) := by decide +kernel
set_option maxRecDepth 20000 in
theorem ggX1_clear_X1_drop : GoodIn wsX1_clear wsX1_drop := goodIn_r _ [5, 6, 7, 8, 4, 9, 10, 11, 12, 13, 14, 15] (by decide +kernel) (by decide +kernel)
set_option maxRecDepth 20000 in
theorem gX1_clear_X1_drop : GoodIn wsX1_clear (wsV RX1 27 RX1 yX1_drop wsX1_drop) := goodIn_app (goodIn_of _ (by decide +kernel)) ggX1_clear_X1_drop
theorem dX1_clear_0 : decode cX1_clear 0 = .ok (.iconst 0, 1) := by decide +kernel
theorem dX1_clear_1 : decode cX1_clear 1 = .ok (.istore_n 1, 1) := by decide +kernel
theorem dX1_clear_2 : decode cX1_clear 2 = .ok (.iload_n 1, 1) := by decide +kernel
theorem dX1_clear_3 : decode cX1_clear 3 = .ok (.sipush 410, 3) := by decide +kernel
theorem dX1_clear_6 : decode cX1_clear 6 = .ok (.if_icmp .ge 14, 3) := by decide +kernel
theorem dX1_clear_9 : decode cX1_clear 9 = .ok (.aload_n 0, 1) := by decide +kernel
theorem dX1_clear_10 : decode cX1_clear 10 = .ok (.iload_n 1, 1) := by decide +kernel
theorem dX1_clear_11 : decode cX1_clear 11 = .ok (.invokevirtual 27, 3) := by decide +kernel
theorem dX1_clear_14 : decode cX1_clear 14 = .ok (.iinc 1 1, 3) := by decide +kernel
theorem dX1_clear_17 : decode cX1_clear 17 = .ok (.goto (-15), 3) := by decide +kernel
theorem dX1_clear_20 : decode cX1_clear 20 = .ok (.return_, 1) := by decide +kernel
set_option maxRecDepth 20000 in
theorem ggX1_count_X1_holds : GoodIn wsX1_count wsX1_holds := goodIn_r _ [5, 6, 7, 8, 9] (by decide +kernel) (by decide +kernel)
set_option maxRecDepth 20000 in
theorem gX1_count_X1_holds : GoodIn wsX1_count (wsV RX1 31 RX1 yX1_holds wsX1_holds) := goodIn_app (goodIn_of _ (by decide +kernel)) ggX1_count_X1_holds
theorem dX1_count_0 : decode cX1_count 0 = .ok (.iconst 0, 1) := by decide +kernel
theorem dX1_count_1 : decode cX1_count 1 = .ok (.istore_n 1, 1) := by decide +kernel
theorem dX1_count_2 : decode cX1_count 2 = .ok (.iconst 0, 1) := by decide +kernel
theorem dX1_count_3 : decode cX1_count 3 = .ok (.istore_n 2, 1) := by decide +kernel
theorem dX1_count_4 : decode cX1_count 4 = .ok (.iload_n 2, 1) := by decide +kernel
theorem dX1_count_5 : decode cX1_count 5 = .ok (.sipush 410, 3) := by decide +kernel
theorem dX1_count_8 : decode cX1_count 8 = .ok (.if_icmp .ge 20, 3) := by decide +kernel
theorem dX1_count_11 : decode cX1_count 11 = .ok (.aload_n 0, 1) := by decide +kernel
theorem dX1_count_12 : decode cX1_count 12 = .ok (.iload_n 2, 1) := by decide +kernel
theorem dX1_count_13 : decode cX1_count 13 = .ok (.invokevirtual 31, 3) := by decide +kernel
theorem dX1_count_16 : decode cX1_count 16 = .ok (.ifCond .eq 6, 3) := by decide +kernel
theorem dX1_count_19 : decode cX1_count 19 = .ok (.iinc 1 1, 3) := by decide +kernel
theorem dX1_count_22 : decode cX1_count 22 = .ok (.iinc 2 1, 3) := by decide +kernel
theorem dX1_count_25 : decode cX1_count 25 = .ok (.goto (-21), 3) := by decide +kernel
theorem dX1_count_28 : decode cX1_count 28 = .ok (.iload_n 1, 1) := by decide +kernel
theorem dX1_count_29 : decode cX1_count 29 = .ok (.ireturn, 1) := by decide +kernel
set_option maxRecDepth 20000 in
theorem ggX1_keepUnchanged_X1_holds : GoodIn wsX1_keepUnchanged wsX1_holds := goodIn_r _ [6, 7, 17, 18, 19] (by decide +kernel) (by decide +kernel)
set_option maxRecDepth 20000 in
theorem gX1_keepUnchanged_X1_holds : GoodIn wsX1_keepUnchanged (wsV RX1 31 RX1 yX1_holds wsX1_holds) := goodIn_app (goodIn_of _ (by decide +kernel)) ggX1_keepUnchanged_X1_holds
set_option maxRecDepth 20000 in
theorem ggX1_keepUnchanged_X1_drop : GoodIn wsX1_keepUnchanged wsX1_drop := goodIn_r _ [11, 12, 13, 14, 5, 15, 7, 1, 16, 17, 18, 19] (by decide +kernel) (by decide +kernel)
set_option maxRecDepth 20000 in
theorem gX1_keepUnchanged_X1_drop : GoodIn wsX1_keepUnchanged (wsV RX1 27 RX1 yX1_drop wsX1_drop) := goodIn_app (goodIn_of _ (by decide +kernel)) ggX1_keepUnchanged_X1_drop
theorem dX1_keepUnchanged_0 : decode cX1_keepUnchanged 0 = .ok (.iconst 0, 1) := by decide +kernel
theorem dX1_keepUnchanged_1 : decode cX1_keepUnchanged 1 = .ok (.istore_n 3, 1) := by decide +kernel
theorem dX1_keepUnchanged_2 : decode cX1_keepUnchanged 2 = .ok (.iconst 0, 1) := by decide +kernel
theorem dX1_keepUnchanged_3 : decode cX1_keepUnchanged 3 = .ok (.istore 4, 2) := by decide +kernel
theorem dX1_keepUnchanged_5 : decode cX1_keepUnchanged 5 = .ok (.iload 4, 2) := by decide +kernel
theorem dX1_keepUnchanged_7 : decode cX1_keepUnchanged 7 = .ok (.iload_n 2, 1) := by decide +kernel
theorem dX1_keepUnchanged_8 : decode cX1_keepUnchanged 8 = .ok (.bipush 10, 2) := by decide +kernel
theorem dX1_keepUnchanged_10 : decode cX1_keepUnchanged 10 = .ok (.imul, 1) := by decide +kernel
theorem dX1_keepUnchanged_11 : decode cX1_keepUnchanged 11 = .ok (.if_icmp .ge 38, 3) := by decide +kernel
theorem dX1_keepUnchanged_14 : decode cX1_keepUnchanged 14 = .ok (.aload_n 0, 1) := by decide +kernel
theorem dX1_keepUnchanged_15 : decode cX1_keepUnchanged 15 = .ok (.iload 4, 2) := by decide +kernel
theorem dX1_keepUnchanged_17 : decode cX1_keepUnchanged 17 = .ok (.invokevirtual 31, 3) := by decide +kernel
theorem dX1_keepUnchanged_20 : decode cX1_keepUnchanged 20 = .ok (.ifCond .eq 23, 3) := by decide +kernel
theorem dX1_keepUnchanged_23 : decode cX1_keepUnchanged 23 = .ok (.aload_n 0, 1) := by decide +kernel
theorem dX1_keepUnchanged_24 : decode cX1_keepUnchanged 24 = .ok (.getfield 15, 3) := by decide +kernel
theorem dX1_keepUnchanged_27 : decode cX1_keepUnchanged 27 = .ok (.iload 4, 2) := by decide +kernel
theorem dX1_keepUnchanged_29 : decode cX1_keepUnchanged 29 = .ok (.iaload, 1) := by decide +kernel
theorem dX1_keepUnchanged_30 : decode cX1_keepUnchanged 30 = .ok (.iload_n 1, 1) := by decide +kernel
theorem dX1_keepUnchanged_31 : decode cX1_keepUnchanged 31 = .ok (.if_icmp .le 12, 3) := by decide +kernel
theorem dX1_keepUnchanged_34 : decode cX1_keepUnchanged 34 = .ok (.aload_n 0, 1) := by decide +kernel
theorem dX1_keepUnchanged_35 : decode cX1_keepUnchanged 35 = .ok (.iload 4, 2) := by decide +kernel
theorem dX1_keepUnchanged_37 : decode cX1_keepUnchanged 37 = .ok (.invokevirtual 27, 3) := by decide +kernel
theorem dX1_keepUnchanged_40 : decode cX1_keepUnchanged 40 = .ok (.iinc 3 1, 3) := by decide +kernel
theorem dX1_keepUnchanged_43 : decode cX1_keepUnchanged 43 = .ok (.iinc 4 1, 3) := by decide +kernel
theorem dX1_keepUnchanged_46 : decode cX1_keepUnchanged 46 = .ok (.goto (-41), 3) := by decide +kernel
theorem dX1_keepUnchanged_49 : decode cX1_keepUnchanged 49 = .ok (.iload_n 3, 1) := by decide +kernel
theorem dX1_keepUnchanged_50 : decode cX1_keepUnchanged 50 = .ok (.ireturn, 1) := by decide +kernel
set_option maxRecDepth 20000 in
theorem ggX1_shift_X1_move : GoodIn wsX1_shift wsX1_move := goodIn_r _ [5, 6, 7, 8, 9, 10, 11, 4, 12, 13, 14, 15, 16, 17, 18, 19, 20, 21, 22, 23] (by decide +kernel) (by decide +kernel)
set_option maxRecDepth 20000 in
theorem gX1_shift_X1_move : GoodIn wsX1_shift (wsV RX1 35 RX1 yX1_move wsX1_move) := goodIn_app (goodIn_of _ (by decide +kernel)) ggX1_shift_X1_move
theorem dX1_shift_0 : decode cX1_shift 0 = .ok (.iload_n 1, 1) := by decide +kernel
theorem dX1_shift_1 : decode cX1_shift 1 = .ok (.bipush 10, 2) := by decide +kernel
theorem dX1_shift_3 : decode cX1_shift 3 = .ok (.imul, 1) := by decide +kernel
theorem dX1_shift_4 : decode cX1_shift 4 = .ok (.istore_n 3, 1) := by decide +kernel
theorem dX1_shift_5 : decode cX1_shift 5 = .ok (.iload_n 2, 1) := by decide +kernel
theorem dX1_shift_6 : decode cX1_shift 6 = .ok (.ifCond .ge 30, 3) := by decide +kernel
theorem dX1_shift_9 : decode cX1_shift 9 = .ok (.iload_n 3, 1) := by decide +kernel
theorem dX1_shift_10 : decode cX1_shift 10 = .ok (.istore 4, 2) := by decide +kernel
theorem dX1_shift_12 : decode cX1_shift 12 = .ok (.iload 4, 2) := by decide +kernel
theorem dX1_shift_14 : decode cX1_shift 14 = .ok (.sipush 410, 3) := by decide +kernel
theorem dX1_shift_17 : decode cX1_shift 17 = .ok (.if_icmp .ge 16, 3) := by decide +kernel
theorem dX1_shift_20 : decode cX1_shift 20 = .ok (.aload_n 0, 1) := by decide +kernel
theorem dX1_shift_21 : decode cX1_shift 21 = .ok (.iload 4, 2) := by decide +kernel
theorem dX1_shift_23 : decode cX1_shift 23 = .ok (.iload_n 2, 1) := by decide +kernel
theorem dX1_shift_24 : decode cX1_shift 24 = .ok (.invokevirtual 35, 3) := by decide +kernel
theorem dX1_shift_27 : decode cX1_shift 27 = .ok (.iinc 4 1, 3) := by decide +kernel
theorem dX1_shift_30 : decode cX1_shift 30 = .ok (.goto (-18), 3) := by decide +kernel
theorem dX1_shift_33 : decode cX1_shift 33 = .ok (.goto 31, 3) := by decide +kernel
theorem dX1_shift_36 : decode cX1_shift 36 = .ok (.iload_n 2, 1) := by decide +kernel
theorem dX1_shift_37 : decode cX1_shift 37 = .ok (.ifCond .le 27, 3) := by decide +kernel
theorem dX1_shift_40 : decode cX1_shift 40 = .ok (.sipush 409, 3) := by decide +kernel
theorem dX1_shift_43 : decode cX1_shift 43 = .ok (.istore 4, 2) := by decide +kernel
theorem dX1_shift_45 : decode cX1_shift 45 = .ok (.iload 4, 2) := by decide +kernel
theorem dX1_shift_47 : decode cX1_shift 47 = .ok (.iload_n 3, 1) := by decide +kernel
theorem dX1_shift_48 : decode cX1_shift 48 = .ok (.if_icmp .lt 16, 3) := by decide +kernel
theorem dX1_shift_51 : decode cX1_shift 51 = .ok (.aload_n 0, 1) := by decide +kernel
theorem dX1_shift_52 : decode cX1_shift 52 = .ok (.iload 4, 2) := by decide +kernel
theorem dX1_shift_54 : decode cX1_shift 54 = .ok (.iload_n 2, 1) := by decide +kernel
theorem dX1_shift_55 : decode cX1_shift 55 = .ok (.invokevirtual 35, 3) := by decide +kernel
theorem dX1_shift_58 : decode cX1_shift 58 = .ok (.iinc 4 (-1), 3) := by decide +kernel
theorem dX1_shift_61 : decode cX1_shift 61 = .ok (.goto (-16), 3) := by decide +kernel
theorem dX1_shift_64 : decode cX1_shift 64 = .ok (.return_, 1) := by decide +kernel
set_option maxRecDepth 20000 in
theorem ggX1_addToDigest_X1_holds : GoodIn wsX1_addToDigest wsX1_holds := goodIn_r _ [7, 1, 12, 13, 14] (by decide +kernel) (by decide +kernel)
set_option maxRecDepth 20000 in
theorem gX1_addToDigest_X1_holds : GoodIn wsX1_addToDigest (wsV RX1 31 RX1 yX1_holds wsX1_holds) := goodIn_app (goodIn_of _ (by decide +kernel)) ggX1_addToDigest_X1_holds
set_option maxRecDepth 20000 in
theorem ggX1_addToDigest_X5_mix : GoodIn wsX1_addToDigest wsX5_mix := goodIn_r _ [10, 11] (by decide +kernel) (by decide +kernel)
set_option maxRecDepth 20000 in
theorem gX1_addToDigest_X5_mix_n39 : GoodIn wsX1_addToDigest (wsX5_mix) := ggX1_addToDigest_X5_mix
theorem dX1_addToDigest_0 : decode cX1_addToDigest 0 = .ok (.lload_n 1, 1) := by decide +kernel
theorem dX1_addToDigest_1 : decode cX1_addToDigest 1 = .ok (.lstore_n 3, 1) := by decide +kernel
theorem dX1_addToDigest_2 : decode cX1_addToDigest 2 = .ok (.iconst 0, 1) := by decide +kernel
theorem dX1_addToDigest_3 : decode cX1_addToDigest 3 = .ok (.istore 5, 2) := by decide +kernel
theorem dX1_addToDigest_5 : decode cX1_addToDigest 5 = .ok (.iload 5, 2) := by decide +kernel
theorem dX1_addToDigest_7 : decode cX1_addToDigest 7 = .ok (.sipush 410, 3) := by decide +kernel
theorem dX1_addToDigest_10 : decode cX1_addToDigest 10 = .ok (.if_icmp .ge 62, 3) := by decide +kernel
theorem dX1_addToDigest_13 : decode cX1_addToDigest 13 = .ok (.aload_n 0, 1) := by decide +kernel
theorem dX1_addToDigest_14 : decode cX1_addToDigest 14 = .ok (.iload 5, 2) := by decide +kernel
theorem dX1_addToDigest_16 : decode cX1_addToDigest 16 = .ok (.invokevirtual 31, 3) := by decide +kernel
theorem dX1_addToDigest_19 : decode cX1_addToDigest 19 = .ok (.ifCond .eq 47, 3) := by decide +kernel
theorem dX1_addToDigest_22 : decode cX1_addToDigest 22 = .ok (.lload_n 3, 1) := by decide +kernel
theorem dX1_addToDigest_23 : decode cX1_addToDigest 23 = .ok (.iload 5, 2) := by decide +kernel
theorem dX1_addToDigest_25 : decode cX1_addToDigest 25 = .ok (.bipush 10, 2) := by decide +kernel
theorem dX1_addToDigest_27 : decode cX1_addToDigest 27 = .ok (.idiv, 1) := by decide +kernel
theorem dX1_addToDigest_28 : decode cX1_addToDigest 28 = .ok (.invokestatic 39, 3) := by decide +kernel
theorem dX1_addToDigest_31 : decode cX1_addToDigest 31 = .ok (.lstore_n 3, 1) := by decide +kernel
theorem dX1_addToDigest_32 : decode cX1_addToDigest 32 = .ok (.lload_n 3, 1) := by decide +kernel
theorem dX1_addToDigest_33 : decode cX1_addToDigest 33 = .ok (.iload 5, 2) := by decide +kernel
theorem dX1_addToDigest_35 : decode cX1_addToDigest 35 = .ok (.bipush 10, 2) := by decide +kernel
theorem dX1_addToDigest_37 : decode cX1_addToDigest 37 = .ok (.irem, 1) := by decide +kernel
theorem dX1_addToDigest_38 : decode cX1_addToDigest 38 = .ok (.invokestatic 39, 3) := by decide +kernel
theorem dX1_addToDigest_41 : decode cX1_addToDigest 41 = .ok (.lstore_n 3, 1) := by decide +kernel
theorem dX1_addToDigest_42 : decode cX1_addToDigest 42 = .ok (.lload_n 3, 1) := by decide +kernel
theorem dX1_addToDigest_43 : decode cX1_addToDigest 43 = .ok (.aload_n 0, 1) := by decide +kernel
theorem dX1_addToDigest_44 : decode cX1_addToDigest 44 = .ok (.getfield 9, 3) := by decide +kernel
theorem dX1_addToDigest_47 : decode cX1_addToDigest 47 = .ok (.iload 5, 2) := by decide +kernel
theorem dX1_addToDigest_49 : decode cX1_addToDigest 49 = .ok (.iaload, 1) := by decide +kernel
theorem dX1_addToDigest_50 : decode cX1_addToDigest 50 = .ok (.invokestatic 39, 3) := by decide +kernel
theorem dX1_addToDigest_53 : decode cX1_addToDigest 53 = .ok (.lstore_n 3, 1) := by decide +kernel
theorem dX1_addToDigest_54 : decode cX1_addToDigest 54 = .ok (.lload_n 3, 1) := by decide +kernel
theorem dX1_addToDigest_55 : decode cX1_addToDigest 55 = .ok (.aload_n 0, 1) := by decide +kernel
theorem dX1_addToDigest_56 : decode cX1_addToDigest 56 = .ok (.getfield 15, 3) := by decide +kernel
theorem dX1_addToDigest_59 : decode cX1_addToDigest 59 = .ok (.iload 5, 2) := by decide +kernel
theorem dX1_addToDigest_61 : decode cX1_addToDigest 61 = .ok (.iaload, 1) := by decide +kernel
theorem dX1_addToDigest_62 : decode cX1_addToDigest 62 = .ok (.invokestatic 39, 3) := by decide +kernel
theorem dX1_addToDigest_65 : decode cX1_addToDigest 65 = .ok (.lstore_n 3, 1) := by decide +kernel
theorem dX1_addToDigest_66 : decode cX1_addToDigest 66 = .ok (.iinc 5 1, 3) := by decide +kernel
theorem dX1_addToDigest_69 : decode cX1_addToDigest 69 = .ok (.goto (-64), 3) := by decide +kernel
theorem dX1_addToDigest_72 : decode cX1_addToDigest 72 = .ok (.lload_n 3, 1) := by decide +kernel
theorem dX1_addToDigest_73 : decode cX1_addToDigest 73 = .ok (.lreturn, 1) := by decide +kernel
set_option maxRecDepth 20000 in
theorem ggX1_move_X1_holds : GoodIn wsX1_move wsX1_holds := goodIn_r _ [8, 1, 17, 18, 19] (by decide +kernel) (by decide +kernel)
set_option maxRecDepth 20000 in
theorem gX1_move_X1_holds : GoodIn wsX1_move (wsV RX1 31 RX1 yX1_holds wsX1_holds) := goodIn_app (goodIn_of _ (by decide +kernel)) ggX1_move_X1_holds
set_option maxRecDepth 20000 in
theorem ggX1_move_X1_put : GoodIn wsX1_move wsX1_put := goodIn_r _ [12, 1, 2, 3, 17, 18, 19] (by decide +kernel) (by decide +kernel)
set_option maxRecDepth 20000 in
theorem gX1_move_X1_put : GoodIn wsX1_move (wsV RX1 43 RX1 yX1_put wsX1_put) := goodIn_app (goodIn_of _ (by decide +kernel)) ggX1_move_X1_put
set_option maxRecDepth 20000 in
theorem ggX1_move_X1_drop : GoodIn wsX1_move wsX1_drop := goodIn_r _ [16, 9, 10, 11, 7, 12, 1, 2, 3, 17, 18, 19] (by decide +kernel) (by decide +kernel)
set_option maxRecDepth 20000 in
theorem gX1_move_X1_drop : GoodIn wsX1_move (wsV RX1 27 RX1 yX1_drop wsX1_drop) := goodIn_app (goodIn_of _ (by decide +kernel)) ggX1_move_X1_drop
theorem dX1_move_0 : decode cX1_move 0 = .ok (.iload_n 1, 1) := by decide +kernel
theorem dX1_move_1 : decode cX1_move 1 = .ok (.iload_n 2, 1) := by decide +kernel
theorem dX1_move_2 : decode cX1_move 2 = .ok (.bipush 10, 2) := by decide +kernel
theorem dX1_move_4 : decode cX1_move 4 = .ok (.imul, 1) := by decide +kernel
theorem dX1_move_5 : decode cX1_move 5 = .ok (.iadd, 1) := by decide +kernel
theorem dX1_move_6 : decode cX1_move 6 = .ok (.istore_n 3, 1) := by decide +kernel
theorem dX1_move_7 : decode cX1_move 7 = .ok (.aload_n 0, 1) := by decide +kernel
theorem dX1_move_8 : decode cX1_move 8 = .ok (.iload_n 1, 1) := by decide +kernel
theorem dX1_move_9 : decode cX1_move 9 = .ok (.invokevirtual 31, 3) := by decide +kernel
theorem dX1_move_12 : decode cX1_move 12 = .ok (.ifCond .eq 14, 3) := by decide +kernel
theorem dX1_move_15 : decode cX1_move 15 = .ok (.iload_n 3, 1) := by decide +kernel
theorem dX1_move_16 : decode cX1_move 16 = .ok (.ifCond .lt 10, 3) := by decide +kernel
theorem dX1_move_19 : decode cX1_move 19 = .ok (.iload_n 3, 1) := by decide +kernel
theorem dX1_move_20 : decode cX1_move 20 = .ok (.sipush 410, 3) := by decide +kernel
theorem dX1_move_23 : decode cX1_move 23 = .ok (.if_icmp .lt 4, 3) := by decide +kernel
theorem dX1_move_26 : decode cX1_move 26 = .ok (.return_, 1) := by decide +kernel
theorem dX1_move_27 : decode cX1_move 27 = .ok (.aload_n 0, 1) := by decide +kernel
theorem dX1_move_28 : decode cX1_move 28 = .ok (.getfield 9, 3) := by decide +kernel
theorem dX1_move_31 : decode cX1_move 31 = .ok (.iload_n 1, 1) := by decide +kernel
theorem dX1_move_32 : decode cX1_move 32 = .ok (.iaload, 1) := by decide +kernel
theorem dX1_move_33 : decode cX1_move 33 = .ok (.iconst (-1), 1) := by decide +kernel
theorem dX1_move_34 : decode cX1_move 34 = .ok (.if_icmp .ne 7, 3) := by decide +kernel
theorem dX1_move_37 : decode cX1_move 37 = .ok (.iconst (-1), 1) := by decide +kernel
theorem dX1_move_38 : decode cX1_move 38 = .ok (.goto 11, 3) := by decide +kernel
theorem dX1_move_41 : decode cX1_move 41 = .ok (.aload_n 0, 1) := by decide +kernel
theorem dX1_move_42 : decode cX1_move 42 = .ok (.getfield 9, 3) := by decide +kernel
theorem dX1_move_45 : decode cX1_move 45 = .ok (.iload_n 1, 1) := by decide +kernel
theorem dX1_move_46 : decode cX1_move 46 = .ok (.iaload, 1) := by decide +kernel
theorem dX1_move_47 : decode cX1_move 47 = .ok (.iload_n 2, 1) := by decide +kernel
theorem dX1_move_48 : decode cX1_move 48 = .ok (.iadd, 1) := by decide +kernel
theorem dX1_move_49 : decode cX1_move 49 = .ok (.istore 4, 2) := by decide +kernel
theorem dX1_move_51 : decode cX1_move 51 = .ok (.aload_n 0, 1) := by decide +kernel
theorem dX1_move_52 : decode cX1_move 52 = .ok (.iload_n 3, 1) := by decide +kernel
theorem dX1_move_53 : decode cX1_move 53 = .ok (.iload 4, 2) := by decide +kernel
theorem dX1_move_55 : decode cX1_move 55 = .ok (.aload_n 0, 1) := by decide +kernel
theorem dX1_move_56 : decode cX1_move 56 = .ok (.getfield 15, 3) := by decide +kernel
theorem dX1_move_59 : decode cX1_move 59 = .ok (.iload_n 1, 1) := by decide +kernel
theorem dX1_move_60 : decode cX1_move 60 = .ok (.iaload, 1) := by decide +kernel
theorem dX1_move_61 : decode cX1_move 61 = .ok (.iload_n 2, 1) := by decide +kernel
theorem dX1_move_62 : decode cX1_move 62 = .ok (.iadd, 1) := by decide +kernel
theorem dX1_move_63 : decode cX1_move 63 = .ok (.aload_n 0, 1) := by decide +kernel
theorem dX1_move_64 : decode cX1_move 64 = .ok (.getfield 18, 3) := by decide +kernel
theorem dX1_move_67 : decode cX1_move 67 = .ok (.iload_n 1, 1) := by decide +kernel
theorem dX1_move_68 : decode cX1_move 68 = .ok (.iaload, 1) := by decide +kernel
theorem dX1_move_69 : decode cX1_move 69 = .ok (.invokevirtual 43, 3) := by decide +kernel
theorem dX1_move_72 : decode cX1_move 72 = .ok (.aload_n 0, 1) := by decide +kernel
theorem dX1_move_73 : decode cX1_move 73 = .ok (.iload_n 1, 1) := by decide +kernel
theorem dX1_move_74 : decode cX1_move 74 = .ok (.invokevirtual 27, 3) := by decide +kernel
theorem dX1_move_77 : decode cX1_move 77 = .ok (.return_, 1) := by decide +kernel
set_option maxRecDepth 20000 in
theorem ggX1_drop_X1_put : GoodIn wsX1_drop wsX1_put := goodIn_r _ [5, 6, 7, 8, 9, 10, 11] (by decide +kernel) (by decide +kernel)
set_option maxRecDepth 20000 in
theorem gX1_drop_X1_put : GoodIn wsX1_drop (wsV RX1 43 RX1 yX1_put wsX1_put) := goodIn_app (goodIn_of _ (by decide +kernel)) ggX1_drop_X1_put
theorem dX1_drop_0 : decode cX1_drop 0 = .ok (.aload_n 0, 1) := by decide +kernel
theorem dX1_drop_1 : decode cX1_drop 1 = .ok (.iload_n 1, 1) := by decide +kernel
theorem dX1_drop_2 : decode cX1_drop 2 = .ok (.bipush (-3), 2) := by decide +kernel
theorem dX1_drop_4 : decode cX1_drop 4 = .ok (.iconst (-1), 1) := by decide +kernel
theorem dX1_drop_5 : decode cX1_drop 5 = .ok (.iconst 0, 1) := by decide +kernel
theorem dX1_drop_6 : decode cX1_drop 6 = .ok (.invokevirtual 43, 3) := by decide +kernel
theorem dX1_drop_9 : decode cX1_drop 9 = .ok (.return_, 1) := by decide +kernel
set_option maxRecDepth 20000 in
theorem ggX2_init_J7_fill_53178 : GoodIn wsX2_init wsJ7_fill_53178 := goodIn_r _ [19] (by decide +kernel) (by decide +kernel)
set_option maxRecDepth 20000 in
theorem gX2_init_J7_fill_53178 : GoodIn wsX2_init (va_wsS RX2 44 yJ7_fill_53178 wsJ7_fill_53178) := goodIn_app (goodIn_of _ (by decide +kernel)) ggX2_init_J7_fill_53178
theorem dX2_init_0 : decode cX2_init 0 = .ok (.aload_n 0, 1) := by decide +kernel
theorem dX2_init_1 : decode cX2_init 1 = .ok (.invokespecial 3, 3) := by decide +kernel
theorem dX2_init_4 : decode cX2_init 4 = .ok (.aload_n 0, 1) := by decide +kernel
theorem dX2_init_5 : decode cX2_init 5 = .ok (.bipush 101, 2) := by decide +kernel
theorem dX2_init_7 : decode cX2_init 7 = .ok (.newarray .int, 2) := by decide +kernel
theorem dX2_init_9 : decode cX2_init 9 = .ok (.putfield 9, 3) := by decide +kernel
theorem dX2_init_12 : decode cX2_init 12 = .ok (.aload_n 0, 1) := by decide +kernel
theorem dX2_init_13 : decode cX2_init 13 = .ok (.bipush 101, 2) := by decide +kernel
theorem dX2_init_15 : decode cX2_init 15 = .ok (.newarray .int, 2) := by decide +kernel
theorem dX2_init_17 : decode cX2_init 17 = .ok (.putfield 15, 3) := by decide +kernel
theorem dX2_init_20 : decode cX2_init 20 = .ok (.aload_n 0, 1) := by decide +kernel
theorem dX2_init_21 : decode cX2_init 21 = .ok (.bipush 101, 2) := by decide +kernel
theorem dX2_init_23 : decode cX2_init 23 = .ok (.newarray .int, 2) := by decide +kernel
theorem dX2_init_25 : decode cX2_init 25 = .ok (.putfield 18, 3) := by decide +kernel
theorem dX2_init_28 : decode cX2_init 28 = .ok (.aload_n 0, 1) := by decide +kernel
theorem dX2_init_29 : decode cX2_init 29 = .ok (.bipush 101, 2) := by decide +kernel
theorem dX2_init_31 : decode cX2_init 31 = .ok (.newarray .boolean, 2) := by decide +kernel
theorem dX2_init_33 : decode cX2_init 33 = .ok (.putfield 21, 3) := by decide +kernel
theorem dX2_init_36 : decode cX2_init 36 = .ok (.aload_n 0, 1) := by decide +kernel
theorem dX2_init_37 : decode cX2_init 37 = .ok (.bipush 101, 2) := by decide +kernel
theorem dX2_init_39 : decode cX2_init 39 = .ok (.newarray .int, 2) := by decide +kernel
theorem dX2_init_41 : decode cX2_init 41 = .ok (.putfield 25, 3) := by decide +kernel
theorem dX2_init_44 : decode cX2_init 44 = .ok (.aload_n 0, 1) := by decide +kernel
theorem dX2_init_45 : decode cX2_init 45 = .ok (.bipush 101, 2) := by decide +kernel
theorem dX2_init_47 : decode cX2_init 47 = .ok (.newarray .int, 2) := by decide +kernel
theorem dX2_init_49 : decode cX2_init 49 = .ok (.putfield 28, 3) := by decide +kernel
theorem dX2_init_52 : decode cX2_init 52 = .ok (.aload_n 0, 1) := by decide +kernel
theorem dX2_init_53 : decode cX2_init 53 = .ok (.bipush 101, 2) := by decide +kernel
theorem dX2_init_55 : decode cX2_init 55 = .ok (.newarray .int, 2) := by decide +kernel
theorem dX2_init_57 : decode cX2_init 57 = .ok (.putfield 31, 3) := by decide +kernel
theorem dX2_init_60 : decode cX2_init 60 = .ok (.aload_n 0, 1) := by decide +kernel
theorem dX2_init_61 : decode cX2_init 61 = .ok (.sipush 410, 3) := by decide +kernel
theorem dX2_init_64 : decode cX2_init 64 = .ok (.newarray .int, 2) := by decide +kernel
theorem dX2_init_66 : decode cX2_init 66 = .ok (.putfield 34, 3) := by decide +kernel
theorem dX2_init_69 : decode cX2_init 69 = .ok (.aload_n 0, 1) := by decide +kernel
theorem dX2_init_70 : decode cX2_init 70 = .ok (.bipush 41, 2) := by decide +kernel
theorem dX2_init_72 : decode cX2_init 72 = .ok (.newarray .int, 2) := by decide +kernel
theorem dX2_init_74 : decode cX2_init 74 = .ok (.putfield 37, 3) := by decide +kernel
theorem dX2_init_77 : decode cX2_init 77 = .ok (.aload_n 0, 1) := by decide +kernel
theorem dX2_init_78 : decode cX2_init 78 = .ok (.iconst 0, 1) := by decide +kernel
theorem dX2_init_79 : decode cX2_init 79 = .ok (.putfield 40, 3) := by decide +kernel
theorem dX2_init_82 : decode cX2_init 82 = .ok (.aload_n 0, 1) := by decide +kernel
theorem dX2_init_83 : decode cX2_init 83 = .ok (.getfield 34, 3) := by decide +kernel
theorem dX2_init_86 : decode cX2_init 86 = .ok (.iconst (-1), 1) := by decide +kernel
theorem dX2_init_87 : decode cX2_init 87 = .ok (.invokestatic 44, 3) := by decide +kernel
theorem dX2_init_90 : decode cX2_init 90 = .ok (.return_, 1) := by decide +kernel
theorem dX2_isFull_0 : decode cX2_isFull 0 = .ok (.aload_n 0, 1) := by decide +kernel
theorem dX2_isFull_1 : decode cX2_isFull 1 = .ok (.getfield 40, 3) := by decide +kernel
theorem dX2_isFull_4 : decode cX2_isFull 4 = .ok (.bipush 101, 2) := by decide +kernel
theorem dX2_isFull_6 : decode cX2_isFull 6 = .ok (.if_icmp .lt 7, 3) := by decide +kernel
theorem dX2_isFull_9 : decode cX2_isFull 9 = .ok (.iconst 1, 1) := by decide +kernel
theorem dX2_isFull_10 : decode cX2_isFull 10 = .ok (.goto 4, 3) := by decide +kernel
theorem dX2_isFull_13 : decode cX2_isFull 13 = .ok (.iconst 0, 1) := by decide +kernel
theorem dX2_isFull_14 : decode cX2_isFull 14 = .ok (.ireturn, 1) := by decide +kernel
theorem dX2_hasOneOf_0 : decode cX2_hasOneOf 0 = .ok (.aload_n 0, 1) := by decide +kernel
theorem dX2_hasOneOf_1 : decode cX2_hasOneOf 1 = .ok (.getfield 37, 3) := by decide +kernel
theorem dX2_hasOneOf_4 : decode cX2_hasOneOf 4 = .ok (.iload_n 2, 1) := by decide +kernel
theorem dX2_hasOneOf_5 : decode cX2_hasOneOf 5 = .ok (.iaload, 1) := by decide +kernel
theorem dX2_hasOneOf_6 : decode cX2_hasOneOf 6 = .ok (.iload_n 1, 1) := by decide +kernel
theorem dX2_hasOneOf_7 : decode cX2_hasOneOf 7 = .ok (.iand, 1) := by decide +kernel
theorem dX2_hasOneOf_8 : decode cX2_hasOneOf 8 = .ok (.ifCond .eq 7, 3) := by decide +kernel
theorem dX2_hasOneOf_11 : decode cX2_hasOneOf 11 = .ok (.iconst 1, 1) := by decide +kernel
theorem dX2_hasOneOf_12 : decode cX2_hasOneOf 12 = .ok (.goto 4, 3) := by decide +kernel
theorem dX2_hasOneOf_15 : decode cX2_hasOneOf 15 = .ok (.iconst 0, 1) := by decide +kernel
theorem dX2_hasOneOf_16 : decode cX2_hasOneOf 16 = .ok (.ireturn, 1) := by decide +kernel
set_option maxRecDepth 20000 in
theorem ggX2_begin_X5_bit : GoodIn wsX2_begin wsX5_bit := goodIn_r _ [13] (by decide +kernel) (by decide +kernel)
set_option maxRecDepth 20000 in
theorem gX2_begin_X5_bit_n50 : GoodIn wsX2_begin (wsX5_bit) := ggX2_begin_X5_bit
set_option maxRecDepth 20000 in
theorem ggX2_begin_X5_cell : GoodIn wsX2_begin wsX5_cell := goodIn_r _ [15] (by decide +kernel) (by decide +kernel)
set_option maxRecDepth 20000 in
theorem gX2_begin_X5_cell_n54 : GoodIn wsX2_begin (wsX5_cell) := ggX2_begin_X5_cell
theorem dX2_begin_0 : decode cX2_begin 0 = .ok (.aload_n 0, 1) := by decide +kernel
theorem dX2_begin_1 : decode cX2_begin 1 = .ok (.getfield 40, 3) := by decide +kernel
theorem dX2_begin_4 : decode cX2_begin 4 = .ok (.istore_n 3, 1) := by decide +kernel
theorem dX2_begin_5 : decode cX2_begin 5 = .ok (.aload_n 0, 1) := by decide +kernel
theorem dX2_begin_6 : decode cX2_begin 6 = .ok (.getfield 9, 3) := by decide +kernel
theorem dX2_begin_9 : decode cX2_begin 9 = .ok (.iload_n 3, 1) := by decide +kernel
theorem dX2_begin_10 : decode cX2_begin 10 = .ok (.iload_n 1, 1) := by decide +kernel
theorem dX2_begin_11 : decode cX2_begin 11 = .ok (.iastore, 1) := by decide +kernel
theorem dX2_begin_12 : decode cX2_begin 12 = .ok (.aload_n 0, 1) := by decide +kernel
theorem dX2_begin_13 : decode cX2_begin 13 = .ok (.getfield 15, 3) := by decide +kernel
theorem dX2_begin_16 : decode cX2_begin 16 = .ok (.iload_n 3, 1) := by decide +kernel
theorem dX2_begin_17 : decode cX2_begin 17 = .ok (.iload_n 2, 1) := by decide +kernel
theorem dX2_begin_18 : decode cX2_begin 18 = .ok (.iastore, 1) := by decide +kernel
theorem dX2_begin_19 : decode cX2_begin 19 = .ok (.aload_n 0, 1) := by decide +kernel
theorem dX2_begin_20 : decode cX2_begin 20 = .ok (.getfield 18, 3) := by decide +kernel
theorem dX2_begin_23 : decode cX2_begin 23 = .ok (.iload_n 3, 1) := by decide +kernel
theorem dX2_begin_24 : decode cX2_begin 24 = .ok (.iconst (-1), 1) := by decide +kernel
theorem dX2_begin_25 : decode cX2_begin 25 = .ok (.iastore, 1) := by decide +kernel
theorem dX2_begin_26 : decode cX2_begin 26 = .ok (.aload_n 0, 1) := by decide +kernel
theorem dX2_begin_27 : decode cX2_begin 27 = .ok (.getfield 21, 3) := by decide +kernel
theorem dX2_begin_30 : decode cX2_begin 30 = .ok (.iload_n 3, 1) := by decide +kernel
theorem dX2_begin_31 : decode cX2_begin 31 = .ok (.iconst 0, 1) := by decide +kernel
theorem dX2_begin_32 : decode cX2_begin 32 = .ok (.bastore, 1) := by decide +kernel
theorem dX2_begin_33 : decode cX2_begin 33 = .ok (.aload_n 0, 1) := by decide +kernel
theorem dX2_begin_34 : decode cX2_begin 34 = .ok (.getfield 25, 3) := by decide +kernel
theorem dX2_begin_37 : decode cX2_begin 37 = .ok (.iload_n 3, 1) := by decide +kernel
theorem dX2_begin_38 : decode cX2_begin 38 = .ok (.iload_n 2, 1) := by decide +kernel
theorem dX2_begin_39 : decode cX2_begin 39 = .ok (.iastore, 1) := by decide +kernel
theorem dX2_begin_40 : decode cX2_begin 40 = .ok (.aload_n 0, 1) := by decide +kernel
theorem dX2_begin_41 : decode cX2_begin 41 = .ok (.getfield 28, 3) := by decide +kernel
theorem dX2_begin_44 : decode cX2_begin 44 = .ok (.iload_n 3, 1) := by decide +kernel
theorem dX2_begin_45 : decode cX2_begin 45 = .ok (.iload_n 1, 1) := by decide +kernel
theorem dX2_begin_46 : decode cX2_begin 46 = .ok (.invokestatic 50, 3) := by decide +kernel
theorem dX2_begin_49 : decode cX2_begin 49 = .ok (.iastore, 1) := by decide +kernel
theorem dX2_begin_50 : decode cX2_begin 50 = .ok (.aload_n 0, 1) := by decide +kernel
theorem dX2_begin_51 : decode cX2_begin 51 = .ok (.getfield 31, 3) := by decide +kernel
theorem dX2_begin_54 : decode cX2_begin 54 = .ok (.iload_n 3, 1) := by decide +kernel
theorem dX2_begin_55 : decode cX2_begin 55 = .ok (.iload_n 3, 1) := by decide +kernel
theorem dX2_begin_56 : decode cX2_begin 56 = .ok (.iastore, 1) := by decide +kernel
theorem dX2_begin_57 : decode cX2_begin 57 = .ok (.aload_n 0, 1) := by decide +kernel
theorem dX2_begin_58 : decode cX2_begin 58 = .ok (.getfield 34, 3) := by decide +kernel
theorem dX2_begin_61 : decode cX2_begin 61 = .ok (.iload_n 1, 1) := by decide +kernel
theorem dX2_begin_62 : decode cX2_begin 62 = .ok (.iload_n 2, 1) := by decide +kernel
theorem dX2_begin_63 : decode cX2_begin 63 = .ok (.invokestatic 54, 3) := by decide +kernel
theorem dX2_begin_66 : decode cX2_begin 66 = .ok (.iload_n 3, 1) := by decide +kernel
theorem dX2_begin_67 : decode cX2_begin 67 = .ok (.iastore, 1) := by decide +kernel
theorem dX2_begin_68 : decode cX2_begin 68 = .ok (.aload_n 0, 1) := by decide +kernel
theorem dX2_begin_69 : decode cX2_begin 69 = .ok (.getfield 37, 3) := by decide +kernel
theorem dX2_begin_72 : decode cX2_begin 72 = .ok (.iload_n 2, 1) := by decide +kernel
theorem dX2_begin_73 : decode cX2_begin 73 = .ok (.dup2, 1) := by decide +kernel
theorem dX2_begin_74 : decode cX2_begin 74 = .ok (.iaload, 1) := by decide +kernel
theorem dX2_begin_75 : decode cX2_begin 75 = .ok (.iload_n 1, 1) := by decide +kernel
theorem dX2_begin_76 : decode cX2_begin 76 = .ok (.invokestatic 50, 3) := by decide +kernel
theorem dX2_begin_79 : decode cX2_begin 79 = .ok (.ior, 1) := by decide +kernel
theorem dX2_begin_80 : decode cX2_begin 80 = .ok (.iastore, 1) := by decide +kernel
theorem dX2_begin_81 : decode cX2_begin 81 = .ok (.aload_n 0, 1) := by decide +kernel
theorem dX2_begin_82 : decode cX2_begin 82 = .ok (.dup, 1) := by decide +kernel
theorem dX2_begin_83 : decode cX2_begin 83 = .ok (.getfield 40, 3) := by decide +kernel
theorem dX2_begin_86 : decode cX2_begin 86 = .ok (.iconst 1, 1) := by decide +kernel
theorem dX2_begin_87 : decode cX2_begin 87 = .ok (.iadd, 1) := by decide +kernel
theorem dX2_begin_88 : decode cX2_begin 88 = .ok (.putfield 40, 3) := by decide +kernel
theorem dX2_begin_91 : decode cX2_begin 91 = .ok (.iload_n 3, 1) := by decide +kernel
theorem dX2_begin_92 : decode cX2_begin 92 = .ok (.ireturn, 1) := by decide +kernel
set_option maxRecDepth 20000 in
theorem ggX2_end_X5_cell : GoodIn wsX2_end wsX5_cell := goodIn_r _ [11] (by decide +kernel) (by decide +kernel)
set_option maxRecDepth 20000 in
theorem gX2_end_X5_cell_n54 : GoodIn wsX2_end (wsX5_cell) := ggX2_end_X5_cell
set_option maxRecDepth 20000 in
theorem ggX2_end_X5_bit : GoodIn wsX2_end wsX5_bit := goodIn_r _ [13] (by decide +kernel) (by decide +kernel)
set_option maxRecDepth 20000 in
theorem gX2_end_X5_bit_n50 : GoodIn wsX2_end (wsX5_bit) := ggX2_end_X5_bit
set_option maxRecDepth 20000 in
theorem ggX2_end_X2_countLook : GoodIn wsX2_end wsX2_countLook := goodIn_r _ [18, 1, 6, 19, 20, 21, 22, 34, 35, 36, 37, 38, 39, 40, 41, 42, 43] (by decide +kernel) (by decide +kernel)
set_option maxRecDepth 20000 in
theorem gX2_end_X2_countLook : GoodIn wsX2_end (wsV RX2 58 RX2 yX2_countLook wsX2_countLook) := goodIn_app (goodIn_of _ (by decide +kernel)) ggX2_end_X2_countLook
set_option maxRecDepth 20000 in
theorem ggX2_end_X2_countNames : GoodIn wsX2_end wsX2_countNames := goodIn_r _ [26, 1, 2, 7, 34, 35, 36, 37, 38, 39, 40, 41, 42, 43] (by decide +kernel) (by decide +kernel)
set_option maxRecDepth 20000 in
theorem gX2_end_X2_countNames : GoodIn wsX2_end (wsV RX2 62 RX2 yX2_countNames wsX2_countNames) := goodIn_app (goodIn_of _ (by decide +kernel)) ggX2_end_X2_countNames
set_option maxRecDepth 20000 in
theorem ggX2_end_X2_countAsked : GoodIn wsX2_end wsX2_countAsked := goodIn_r _ [30, 1, 8, 31, 32, 21, 33, 34, 35, 36, 37, 38, 39, 40, 41, 42, 43] (by decide +kernel) (by decide +kernel)
set_option maxRecDepth 20000 in
theorem gX2_end_X2_countAsked : GoodIn wsX2_end (wsV RX2 66 RX2 yX2_countAsked wsX2_countAsked) := goodIn_app (goodIn_of _ (by decide +kernel)) ggX2_end_X2_countAsked
theorem dX2_end_0 : decode cX2_end 0 = .ok (.aload_n 0, 1) := by decide +kernel
theorem dX2_end_1 : decode cX2_end 1 = .ok (.getfield 40, 3) := by decide +kernel
theorem dX2_end_4 : decode cX2_end 4 = .ok (.ifCond .ne 4, 3) := by decide +kernel
theorem dX2_end_7 : decode cX2_end 7 = .ok (.return_, 1) := by decide +kernel
theorem dX2_end_8 : decode cX2_end 8 = .ok (.aload_n 0, 1) := by decide +kernel
theorem dX2_end_9 : decode cX2_end 9 = .ok (.dup, 1) := by decide +kernel
theorem dX2_end_10 : decode cX2_end 10 = .ok (.getfield 40, 3) := by decide +kernel
theorem dX2_end_13 : decode cX2_end 13 = .ok (.iconst 1, 1) := by decide +kernel
theorem dX2_end_14 : decode cX2_end 14 = .ok (.isub, 1) := by decide +kernel
theorem dX2_end_15 : decode cX2_end 15 = .ok (.putfield 40, 3) := by decide +kernel
theorem dX2_end_18 : decode cX2_end 18 = .ok (.aload_n 0, 1) := by decide +kernel
theorem dX2_end_19 : decode cX2_end 19 = .ok (.getfield 40, 3) := by decide +kernel
theorem dX2_end_22 : decode cX2_end 22 = .ok (.istore_n 1, 1) := by decide +kernel
theorem dX2_end_23 : decode cX2_end 23 = .ok (.aload_n 0, 1) := by decide +kernel
theorem dX2_end_24 : decode cX2_end 24 = .ok (.getfield 15, 3) := by decide +kernel
theorem dX2_end_27 : decode cX2_end 27 = .ok (.iload_n 1, 1) := by decide +kernel
theorem dX2_end_28 : decode cX2_end 28 = .ok (.iaload, 1) := by decide +kernel
theorem dX2_end_29 : decode cX2_end 29 = .ok (.istore_n 2, 1) := by decide +kernel
theorem dX2_end_30 : decode cX2_end 30 = .ok (.aload_n 0, 1) := by decide +kernel
theorem dX2_end_31 : decode cX2_end 31 = .ok (.getfield 34, 3) := by decide +kernel
theorem dX2_end_34 : decode cX2_end 34 = .ok (.aload_n 0, 1) := by decide +kernel
theorem dX2_end_35 : decode cX2_end 35 = .ok (.getfield 9, 3) := by decide +kernel
theorem dX2_end_38 : decode cX2_end 38 = .ok (.iload_n 1, 1) := by decide +kernel
theorem dX2_end_39 : decode cX2_end 39 = .ok (.iaload, 1) := by decide +kernel
theorem dX2_end_40 : decode cX2_end 40 = .ok (.iload_n 2, 1) := by decide +kernel
theorem dX2_end_41 : decode cX2_end 41 = .ok (.invokestatic 54, 3) := by decide +kernel
theorem dX2_end_44 : decode cX2_end 44 = .ok (.iconst (-1), 1) := by decide +kernel
theorem dX2_end_45 : decode cX2_end 45 = .ok (.iastore, 1) := by decide +kernel
theorem dX2_end_46 : decode cX2_end 46 = .ok (.aload_n 0, 1) := by decide +kernel
theorem dX2_end_47 : decode cX2_end 47 = .ok (.getfield 37, 3) := by decide +kernel
theorem dX2_end_50 : decode cX2_end 50 = .ok (.iload_n 2, 1) := by decide +kernel
theorem dX2_end_51 : decode cX2_end 51 = .ok (.dup2, 1) := by decide +kernel
theorem dX2_end_52 : decode cX2_end 52 = .ok (.iaload, 1) := by decide +kernel
theorem dX2_end_53 : decode cX2_end 53 = .ok (.aload_n 0, 1) := by decide +kernel
theorem dX2_end_54 : decode cX2_end 54 = .ok (.getfield 9, 3) := by decide +kernel
theorem dX2_end_57 : decode cX2_end 57 = .ok (.iload_n 1, 1) := by decide +kernel
theorem dX2_end_58 : decode cX2_end 58 = .ok (.iaload, 1) := by decide +kernel
theorem dX2_end_59 : decode cX2_end 59 = .ok (.invokestatic 50, 3) := by decide +kernel
theorem dX2_end_62 : decode cX2_end 62 = .ok (.iconst (-1), 1) := by decide +kernel
theorem dX2_end_63 : decode cX2_end 63 = .ok (.ixor, 1) := by decide +kernel
theorem dX2_end_64 : decode cX2_end 64 = .ok (.iand, 1) := by decide +kernel
theorem dX2_end_65 : decode cX2_end 65 = .ok (.iastore, 1) := by decide +kernel
theorem dX2_end_66 : decode cX2_end 66 = .ok (.aload_n 0, 1) := by decide +kernel
theorem dX2_end_67 : decode cX2_end 67 = .ok (.aload_n 0, 1) := by decide +kernel
theorem dX2_end_68 : decode cX2_end 68 = .ok (.getfield 25, 3) := by decide +kernel
theorem dX2_end_71 : decode cX2_end 71 = .ok (.iload_n 1, 1) := by decide +kernel
theorem dX2_end_72 : decode cX2_end 72 = .ok (.iaload, 1) := by decide +kernel
theorem dX2_end_73 : decode cX2_end 73 = .ok (.invokevirtual 58, 3) := by decide +kernel
theorem dX2_end_76 : decode cX2_end 76 = .ok (.aload_n 0, 1) := by decide +kernel
theorem dX2_end_77 : decode cX2_end 77 = .ok (.aload_n 0, 1) := by decide +kernel
theorem dX2_end_78 : decode cX2_end 78 = .ok (.getfield 28, 3) := by decide +kernel
theorem dX2_end_81 : decode cX2_end 81 = .ok (.iload_n 1, 1) := by decide +kernel
theorem dX2_end_82 : decode cX2_end 82 = .ok (.iaload, 1) := by decide +kernel
theorem dX2_end_83 : decode cX2_end 83 = .ok (.iload_n 2, 1) := by decide +kernel
theorem dX2_end_84 : decode cX2_end 84 = .ok (.invokevirtual 62, 3) := by decide +kernel
theorem dX2_end_87 : decode cX2_end 87 = .ok (.aload_n 0, 1) := by decide +kernel
theorem dX2_end_88 : decode cX2_end 88 = .ok (.aload_n 0, 1) := by decide +kernel
theorem dX2_end_89 : decode cX2_end 89 = .ok (.getfield 31, 3) := by decide +kernel
theorem dX2_end_92 : decode cX2_end 92 = .ok (.iload_n 1, 1) := by decide +kernel
theorem dX2_end_93 : decode cX2_end 93 = .ok (.iaload, 1) := by decide +kernel
theorem dX2_end_94 : decode cX2_end 94 = .ok (.invokevirtual 66, 3) := by decide +kernel
theorem dX2_end_97 : decode cX2_end 97 = .ok (.return_, 1) := by decide +kernel
set_option maxRecDepth 20000 in
theorem ggX2_askSeed_X2_countAsked : GoodIn wsX2_askSeed wsX2_countAsked := goodIn_r _ [7, 8, 9, 10, 11, 12, 13, 14, 15, 16, 17, 18, 19, 20, 21, 22, 23] (by decide +kernel) (by decide +kernel)
set_option maxRecDepth 20000 in
theorem gX2_askSeed_X2_countAsked : GoodIn wsX2_askSeed (wsV RX2 66 RX2 yX2_countAsked wsX2_countAsked) := goodIn_app (goodIn_of _ (by decide +kernel)) ggX2_askSeed_X2_countAsked
theorem dX2_askSeed_0 : decode cX2_askSeed 0 = .ok (.aload_n 0, 1) := by decide +kernel
theorem dX2_askSeed_1 : decode cX2_askSeed 1 = .ok (.getfield 21, 3) := by decide +kernel
theorem dX2_askSeed_4 : decode cX2_askSeed 4 = .ok (.iload_n 1, 1) := by decide +kernel
theorem dX2_askSeed_5 : decode cX2_askSeed 5 = .ok (.iconst 1, 1) := by decide +kernel
theorem dX2_askSeed_6 : decode cX2_askSeed 6 = .ok (.bastore, 1) := by decide +kernel
theorem dX2_askSeed_7 : decode cX2_askSeed 7 = .ok (.aload_n 0, 1) := by decide +kernel
theorem dX2_askSeed_8 : decode cX2_askSeed 8 = .ok (.iload_n 1, 1) := by decide +kernel
theorem dX2_askSeed_9 : decode cX2_askSeed 9 = .ok (.invokevirtual 66, 3) := by decide +kernel
theorem dX2_askSeed_12 : decode cX2_askSeed 12 = .ok (.aload_n 0, 1) := by decide +kernel
theorem dX2_askSeed_13 : decode cX2_askSeed 13 = .ok (.getfield 18, 3) := by decide +kernel
theorem dX2_askSeed_16 : decode cX2_askSeed 16 = .ok (.iload_n 1, 1) := by decide +kernel
theorem dX2_askSeed_17 : decode cX2_askSeed 17 = .ok (.iaload, 1) := by decide +kernel
theorem dX2_askSeed_18 : decode cX2_askSeed 18 = .ok (.ireturn, 1) := by decide +kernel
theorem dX2_countLook_0 : decode cX2_countLook 0 = .ok (.aload_n 0, 1) := by decide +kernel
theorem dX2_countLook_1 : decode cX2_countLook 1 = .ok (.getfield 40, 3) := by decide +kernel
theorem dX2_countLook_4 : decode cX2_countLook 4 = .ok (.ifCond .le 29, 3) := by decide +kernel
theorem dX2_countLook_7 : decode cX2_countLook 7 = .ok (.aload_n 0, 1) := by decide +kernel
theorem dX2_countLook_8 : decode cX2_countLook 8 = .ok (.getfield 25, 3) := by decide +kernel
theorem dX2_countLook_11 : decode cX2_countLook 11 = .ok (.aload_n 0, 1) := by decide +kernel
theorem dX2_countLook_12 : decode cX2_countLook 12 = .ok (.getfield 40, 3) := by decide +kernel
theorem dX2_countLook_15 : decode cX2_countLook 15 = .ok (.iconst 1, 1) := by decide +kernel
theorem dX2_countLook_16 : decode cX2_countLook 16 = .ok (.isub, 1) := by decide +kernel
theorem dX2_countLook_17 : decode cX2_countLook 17 = .ok (.aload_n 0, 1) := by decide +kernel
theorem dX2_countLook_18 : decode cX2_countLook 18 = .ok (.getfield 25, 3) := by decide +kernel
theorem dX2_countLook_21 : decode cX2_countLook 21 = .ok (.aload_n 0, 1) := by decide +kernel
theorem dX2_countLook_22 : decode cX2_countLook 22 = .ok (.getfield 40, 3) := by decide +kernel
theorem dX2_countLook_25 : decode cX2_countLook 25 = .ok (.iconst 1, 1) := by decide +kernel
theorem dX2_countLook_26 : decode cX2_countLook 26 = .ok (.isub, 1) := by decide +kernel
theorem dX2_countLook_27 : decode cX2_countLook 27 = .ok (.iaload, 1) := by decide +kernel
theorem dX2_countLook_28 : decode cX2_countLook 28 = .ok (.iload_n 1, 1) := by decide +kernel
theorem dX2_countLook_29 : decode cX2_countLook 29 = .ok (.invokestatic 69, 3) := by decide +kernel
theorem dX2_countLook_32 : decode cX2_countLook 32 = .ok (.iastore, 1) := by decide +kernel
theorem dX2_countLook_33 : decode cX2_countLook 33 = .ok (.return_, 1) := by decide +kernel
theorem dX2_countNames_0 : decode cX2_countNames 0 = .ok (.aload_n 0, 1) := by decide +kernel
theorem dX2_countNames_1 : decode cX2_countNames 1 = .ok (.getfield 40, 3) := by decide +kernel
theorem dX2_countNames_4 : decode cX2_countNames 4 = .ok (.ifCond .le 33, 3) := by decide +kernel
theorem dX2_countNames_7 : decode cX2_countNames 7 = .ok (.aload_n 0, 1) := by decide +kernel
theorem dX2_countNames_8 : decode cX2_countNames 8 = .ok (.getfield 15, 3) := by decide +kernel
theorem dX2_countNames_11 : decode cX2_countNames 11 = .ok (.aload_n 0, 1) := by decide +kernel
theorem dX2_countNames_12 : decode cX2_countNames 12 = .ok (.getfield 40, 3) := by decide +kernel
theorem dX2_countNames_15 : decode cX2_countNames 15 = .ok (.iconst 1, 1) := by decide +kernel
theorem dX2_countNames_16 : decode cX2_countNames 16 = .ok (.isub, 1) := by decide +kernel
theorem dX2_countNames_17 : decode cX2_countNames 17 = .ok (.iaload, 1) := by decide +kernel
theorem dX2_countNames_18 : decode cX2_countNames 18 = .ok (.iload_n 2, 1) := by decide +kernel
theorem dX2_countNames_19 : decode cX2_countNames 19 = .ok (.if_icmp .ne 18, 3) := by decide +kernel
theorem dX2_countNames_22 : decode cX2_countNames 22 = .ok (.aload_n 0, 1) := by decide +kernel
theorem dX2_countNames_23 : decode cX2_countNames 23 = .ok (.getfield 28, 3) := by decide +kernel
theorem dX2_countNames_26 : decode cX2_countNames 26 = .ok (.aload_n 0, 1) := by decide +kernel
theorem dX2_countNames_27 : decode cX2_countNames 27 = .ok (.getfield 40, 3) := by decide +kernel
theorem dX2_countNames_30 : decode cX2_countNames 30 = .ok (.iconst 1, 1) := by decide +kernel
theorem dX2_countNames_31 : decode cX2_countNames 31 = .ok (.isub, 1) := by decide +kernel
theorem dX2_countNames_32 : decode cX2_countNames 32 = .ok (.dup2, 1) := by decide +kernel
theorem dX2_countNames_33 : decode cX2_countNames 33 = .ok (.iaload, 1) := by decide +kernel
theorem dX2_countNames_34 : decode cX2_countNames 34 = .ok (.iload_n 1, 1) := by decide +kernel
theorem dX2_countNames_35 : decode cX2_countNames 35 = .ok (.ior, 1) := by decide +kernel
theorem dX2_countNames_36 : decode cX2_countNames 36 = .ok (.iastore, 1) := by decide +kernel
theorem dX2_countNames_37 : decode cX2_countNames 37 = .ok (.return_, 1) := by decide +kernel
theorem dX2_askedEarlierOne_0 : decode cX2_askedEarlierOne 0 = .ok (.aload_n 0, 1) := by decide +kernel
theorem dX2_askedEarlierOne_1 : decode cX2_askedEarlierOne 1 = .ok (.getfield 31, 3) := by decide +kernel
theorem dX2_askedEarlierOne_4 : decode cX2_askedEarlierOne 4 = .ok (.iload_n 1, 1) := by decide +kernel
theorem dX2_askedEarlierOne_5 : decode cX2_askedEarlierOne 5 = .ok (.iaload, 1) := by decide +kernel
theorem dX2_askedEarlierOne_6 : decode cX2_askedEarlierOne 6 = .ok (.iload_n 1, 1) := by decide +kernel
theorem dX2_askedEarlierOne_7 : decode cX2_askedEarlierOne 7 = .ok (.if_icmp .ge 7, 3) := by decide +kernel
theorem dX2_askedEarlierOne_10 : decode cX2_askedEarlierOne 10 = .ok (.iconst 1, 1) := by decide +kernel
theorem dX2_askedEarlierOne_11 : decode cX2_askedEarlierOne 11 = .ok (.goto 4, 3) := by decide +kernel
theorem dX2_askedEarlierOne_14 : decode cX2_askedEarlierOne 14 = .ok (.iconst 0, 1) := by decide +kernel
theorem dX2_askedEarlierOne_15 : decode cX2_askedEarlierOne 15 = .ok (.ireturn, 1) := by decide +kernel
theorem dX2_countAsked_0 : decode cX2_countAsked 0 = .ok (.aload_n 0, 1) := by decide +kernel
theorem dX2_countAsked_1 : decode cX2_countAsked 1 = .ok (.getfield 40, 3) := by decide +kernel
theorem dX2_countAsked_4 : decode cX2_countAsked 4 = .ok (.ifCond .le 29, 3) := by decide +kernel
theorem dX2_countAsked_7 : decode cX2_countAsked 7 = .ok (.aload_n 0, 1) := by decide +kernel
theorem dX2_countAsked_8 : decode cX2_countAsked 8 = .ok (.getfield 31, 3) := by decide +kernel
theorem dX2_countAsked_11 : decode cX2_countAsked 11 = .ok (.aload_n 0, 1) := by decide +kernel
theorem dX2_countAsked_12 : decode cX2_countAsked 12 = .ok (.getfield 40, 3) := by decide +kernel
theorem dX2_countAsked_15 : decode cX2_countAsked 15 = .ok (.iconst 1, 1) := by decide +kernel
theorem dX2_countAsked_16 : decode cX2_countAsked 16 = .ok (.isub, 1) := by decide +kernel
theorem dX2_countAsked_17 : decode cX2_countAsked 17 = .ok (.aload_n 0, 1) := by decide +kernel
theorem dX2_countAsked_18 : decode cX2_countAsked 18 = .ok (.getfield 31, 3) := by decide +kernel
theorem dX2_countAsked_21 : decode cX2_countAsked 21 = .ok (.aload_n 0, 1) := by decide +kernel
theorem dX2_countAsked_22 : decode cX2_countAsked 22 = .ok (.getfield 40, 3) := by decide +kernel
theorem dX2_countAsked_25 : decode cX2_countAsked 25 = .ok (.iconst 1, 1) := by decide +kernel
theorem dX2_countAsked_26 : decode cX2_countAsked 26 = .ok (.isub, 1) := by decide +kernel
theorem dX2_countAsked_27 : decode cX2_countAsked 27 = .ok (.iaload, 1) := by decide +kernel
theorem dX2_countAsked_28 : decode cX2_countAsked 28 = .ok (.iload_n 1, 1) := by decide +kernel
theorem dX2_countAsked_29 : decode cX2_countAsked 29 = .ok (.invokestatic 74, 3) := by decide +kernel
theorem dX2_countAsked_32 : decode cX2_countAsked 32 = .ok (.iastore, 1) := by decide +kernel
theorem dX2_countAsked_33 : decode cX2_countAsked 33 = .ok (.return_, 1) := by decide +kernel
set_option maxRecDepth 20000 in
theorem ggX3_init_X2_init : GoodIn wsX3_init wsX2_init := goodIn_r _ [18, 19, 2, 3, 20, 21, 22, 23, 24, 25, 26, 27, 28, 29, 30, 31, 32, 33, 34, 35, 36, 37, 38, 39, 40, 41, 42, 43, 44, 45] (by decide +kernel) (by decide +kernel)
set_option maxRecDepth 20000 in
theorem gX3_init_X2_init : GoodIn wsX3_init (wsX2_init) := ggX3_init_X2_init
theorem dX3_init_0 : decode cX3_init 0 = .ok (.aload_n 0, 1) := by decide +kernel
theorem dX3_init_1 : decode cX3_init 1 = .ok (.invokespecial 3, 3) := by decide +kernel
theorem dX3_init_4 : decode cX3_init 4 = .ok (.aload_n 0, 1) := by decide +kernel
theorem dX3_init_5 : decode cX3_init 5 = .ok (.new 9, 3) := by decide +kernel
theorem dX3_init_8 : decode cX3_init 8 = .ok (.dup, 1) := by decide +kernel
theorem dX3_init_9 : decode cX3_init 9 = .ok (.invokespecial 11, 3) := by decide +kernel
theorem dX3_init_12 : decode cX3_init 12 = .ok (.putfield 12, 3) := by decide +kernel
theorem dX3_init_15 : decode cX3_init 15 = .ok (.aload_n 0, 1) := by decide +kernel
theorem dX3_init_16 : decode cX3_init 16 = .ok (.iconst 0, 1) := by decide +kernel
theorem dX3_init_17 : decode cX3_init 17 = .ok (.putfield 18, 3) := by decide +kernel
theorem dX3_init_20 : decode cX3_init 20 = .ok (.aload_n 0, 1) := by decide +kernel
theorem dX3_init_21 : decode cX3_init 21 = .ok (.iconst 0, 1) := by decide +kernel
theorem dX3_init_22 : decode cX3_init 22 = .ok (.putfield 22, 3) := by decide +kernel
theorem dX3_init_25 : decode cX3_init 25 = .ok (.aload_n 0, 1) := by decide +kernel
theorem dX3_init_26 : decode cX3_init 26 = .ok (.iconst 0, 1) := by decide +kernel
theorem dX3_init_27 : decode cX3_init 27 = .ok (.putfield 25, 3) := by decide +kernel
theorem dX3_init_30 : decode cX3_init 30 = .ok (.aload_n 0, 1) := by decide +kernel
theorem dX3_init_31 : decode cX3_init 31 = .ok (.iconst (-1), 1) := by decide +kernel
theorem dX3_init_32 : decode cX3_init 32 = .ok (.putfield 28, 3) := by decide +kernel
theorem dX3_init_35 : decode cX3_init 35 = .ok (.aload_n 0, 1) := by decide +kernel
theorem dX3_init_36 : decode cX3_init 36 = .ok (.iconst 0, 1) := by decide +kernel
theorem dX3_init_37 : decode cX3_init 37 = .ok (.putfield 31, 3) := by decide +kernel
theorem dX3_init_40 : decode cX3_init 40 = .ok (.aload_n 0, 1) := by decide +kernel
theorem dX3_init_41 : decode cX3_init 41 = .ok (.aload_n 1, 1) := by decide +kernel
theorem dX3_init_42 : decode cX3_init 42 = .ok (.putfield 35, 3) := by decide +kernel
theorem dX3_init_45 : decode cX3_init 45 = .ok (.aload_n 0, 1) := by decide +kernel
theorem dX3_init_46 : decode cX3_init 46 = .ok (.aload_n 2, 1) := by decide +kernel
theorem dX3_init_47 : decode cX3_init 47 = .ok (.putfield 39, 3) := by decide +kernel
theorem dX3_init_50 : decode cX3_init 50 = .ok (.aload_n 0, 1) := by decide +kernel
theorem dX3_init_51 : decode cX3_init 51 = .ok (.aload_n 3, 1) := by decide +kernel
theorem dX3_init_52 : decode cX3_init 52 = .ok (.putfield 43, 3) := by decide +kernel
theorem dX3_init_55 : decode cX3_init 55 = .ok (.return_, 1) := by decide +kernel
set_option maxRecDepth 20000 in
theorem ggX3_run_X3_lookForRule : GoodIn wsX3_run wsX3_lookForRule := goodIn_r _ [10, 11, 12, 3, 13, 14, 15, 16, 9, 17, 5, 2, 18, 19, 20, 21, 22, 23, 24, 25, 26, 27, 28, 29, 30, 31, 32, 33, 34, 35, 36, 37, 38, 39, 40, 41, 42, 43, 44, 45, 46, 47, 48, 49, 50, 51, 52, 53, 54, 55, 56, 57, 58, 59, 60, 61, 62, 63, 64, 65, 66, 67, 68, 69, 70, 71, 72, 73, 74, 75, 76, 77, 78, 79, 80, 81, 82, 83, 84, 85, 86, 87, 88, 89, 90, 91, 92, 93, 94, 95, 96, 97, 98, 99, 100, 101, 102, 103, 104, 1, 105, 106, 107, 108, 109, 4, 110, 111, 112, 113, 114, 115, 116, 117, 118, 119, 120, 121, 6, 7, 8, 122, 123, 124, 125, 126, 127, 128, 129, 130, 131, 132, 133, 134, 135, 136, 137, 138, 139, 140, 141, 142, 143, 144, 145, 155, 156, 157, 158, 159, 160, 161, 162, 163, 164, 165, 166, 167, 168, 169, 170, 171, 172, 173, 174, 175, 176, 177, 178, 179, 180, 181, 182, 183, 184, 185, 186] (by decide +kernel) (by decide +kernel)
set_option maxRecDepth 20000 in
theorem gX3_run_X3_lookForRule : GoodIn wsX3_run (wsV RX3 47 RX3 yX3_lookForRule wsX3_lookForRule) := goodIn_app (goodIn_of _ (by decide +kernel)) ggX3_run_X3_lookForRule
set_option maxRecDepth 20000 in
theorem ggX3_run_X1_clear : GoodIn wsX3_run wsX1_clear := goodIn_r _ [149, 150, 151, 152, 30, 153, 154, 93, 94, 95, 32, 96, 97, 184, 185, 186] (by decide +kernel) (by decide +kernel)
set_option maxRecDepth 20000 in
theorem gX3_run_X1_clear : GoodIn wsX3_run (wsV RX3 51 RX1 yX1_clear wsX1_clear) := goodIn_app (goodIn_of _ (by decide +kernel)) ggX3_run_X1_clear
theorem dX3_run_0 : decode cX3_run 0 = .ok (.aload_n 0, 1) := by decide +kernel
theorem dX3_run_1 : decode cX3_run 1 = .ok (.iconst 0, 1) := by decide +kernel
theorem dX3_run_2 : decode cX3_run 2 = .ok (.putfield 18, 3) := by decide +kernel
theorem dX3_run_5 : decode cX3_run 5 = .ok (.aload_n 0, 1) := by decide +kernel
theorem dX3_run_6 : decode cX3_run 6 = .ok (.iconst 0, 1) := by decide +kernel
theorem dX3_run_7 : decode cX3_run 7 = .ok (.putfield 22, 3) := by decide +kernel
theorem dX3_run_10 : decode cX3_run 10 = .ok (.aload_n 0, 1) := by decide +kernel
theorem dX3_run_11 : decode cX3_run 11 = .ok (.iconst 0, 1) := by decide +kernel
theorem dX3_run_12 : decode cX3_run 12 = .ok (.putfield 25, 3) := by decide +kernel
theorem dX3_run_15 : decode cX3_run 15 = .ok (.aload_n 0, 1) := by decide +kernel
theorem dX3_run_16 : decode cX3_run 16 = .ok (.iconst (-1), 1) := by decide +kernel
theorem dX3_run_17 : decode cX3_run 17 = .ok (.putfield 28, 3) := by decide +kernel
theorem dX3_run_20 : decode cX3_run 20 = .ok (.aload_n 0, 1) := by decide +kernel
theorem dX3_run_21 : decode cX3_run 21 = .ok (.iload_n 1, 1) := by decide +kernel
theorem dX3_run_22 : decode cX3_run 22 = .ok (.iload_n 2, 1) := by decide +kernel
theorem dX3_run_23 : decode cX3_run 23 = .ok (.iconst 0, 1) := by decide +kernel
theorem dX3_run_24 : decode cX3_run 24 = .ok (.invokevirtual 47, 3) := by decide +kernel
theorem dX3_run_27 : decode cX3_run 27 = .ok (.istore_n 3, 1) := by decide +kernel
theorem dX3_run_28 : decode cX3_run 28 = .ok (.iload_n 3, 1) := by decide +kernel
theorem dX3_run_29 : decode cX3_run 29 = .ok (.bipush (-2), 2) := by decide +kernel
theorem dX3_run_31 : decode cX3_run 31 = .ok (.if_icmp .ne 10, 3) := by decide +kernel
theorem dX3_run_34 : decode cX3_run 34 = .ok (.aload_n 0, 1) := by decide +kernel
theorem dX3_run_35 : decode cX3_run 35 = .ok (.getfield 43, 3) := by decide +kernel
theorem dX3_run_38 : decode cX3_run 38 = .ok (.invokevirtual 51, 3) := by decide +kernel
theorem dX3_run_41 : decode cX3_run 41 = .ok (.iload_n 3, 1) := by decide +kernel
theorem dX3_run_42 : decode cX3_run 42 = .ok (.ireturn, 1) := by decide +kernel
set_option maxRecDepth 20000 in
theorem ggX3_look_X3_lookForRange : GoodIn wsX3_look wsX3_lookForRange := goodIn_r _ [8, 9, 10, 11, 12, 13, 14, 15, 16, 17, 18, 19, 20, 21, 22, 23, 24, 25, 26, 27, 28, 29, 30, 31, 32, 33, 34, 145, 146, 147, 148, 149, 150, 151, 152, 153, 162, 163, 164, 165, 166, 167, 168, 169, 170, 171, 172, 173] (by decide +kernel) (by decide +kernel)
set_option maxRecDepth 20000 in
theorem gX3_look_X3_lookForRange : GoodIn wsX3_look (wsV RX3 68 RX3 yX3_lookForRange wsX3_lookForRange) := goodIn_app (goodIn_of _ (by decide +kernel)) ggX3_look_X3_lookForRange
set_option maxRecDepth 20000 in
theorem ggX3_look_X3_lookForRule : GoodIn wsX3_look wsX3_lookForRule := goodIn_r _ [63, 9, 3, 64, 2, 65, 66, 67, 7, 68, 69, 70, 71, 72, 73, 74, 75, 76, 77, 78, 79, 80, 81, 82, 83, 84, 85, 86, 87, 88, 19, 89, 90, 16, 17, 18, 20, 21, 22, 23, 13, 14, 15, 91, 92, 93, 94, 95, 96, 97, 98, 99, 100, 101, 102, 103, 104, 105, 106, 107, 108, 109, 110, 111, 112, 113, 114, 115, 116, 117, 118, 119, 120, 121, 122, 57, 58, 59, 123, 124, 125, 126, 127, 128, 129, 130, 131, 132, 133, 134, 135, 136, 137, 138, 139, 140, 141, 142, 0, 1, 4, 5, 6, 8, 10, 11, 12, 24, 25, 26, 27, 28, 29, 30, 31, 32, 33, 34, 35, 36, 37, 38, 39, 40, 41, 42, 43, 44, 45, 46, 47, 48, 49, 50, 51, 52, 53, 54, 55, 56, 60, 61, 62, 143, 144, 145, 146, 147, 148, 149, 150, 151, 152, 153, 154, 155, 156, 157, 158, 159, 160, 161, 162, 163, 164, 165, 166, 167, 168, 169, 170, 171, 172, 173, 174, 175, 176] (by decide +kernel) (by decide +kernel)
set_option maxRecDepth 20000 in
theorem gX3_look_X3_lookForRule : GoodIn wsX3_look (wsV RX3 47 RX3 yX3_lookForRule wsX3_lookForRule) := goodIn_app (goodIn_of _ (by decide +kernel)) ggX3_look_X3_lookForRule
set_option maxRecDepth 20000 in
theorem ggX3_look_X3_lookForSequence : GoodIn wsX3_look wsX3_lookForSequence := goodIn_r _ [143, 2, 57, 58, 59, 7, 0, 1, 3, 4, 5, 6, 8, 9, 10, 11, 12, 13, 14, 15, 16, 17, 18, 19, 20, 21, 22, 23, 24, 25, 26, 27, 28, 29, 30, 31, 32, 33, 34, 35, 36, 37, 38, 39, 40, 41, 42, 43, 44, 45, 46, 47, 48, 49, 50, 51, 52, 53, 54, 55, 56, 60, 61, 62, 63, 64, 65, 66, 67, 68, 69, 70, 71, 72, 73, 74, 75, 76, 77, 78, 79, 80, 81, 82, 83, 84, 85, 86, 87, 88, 89, 90, 91, 92, 93, 94, 95, 96, 97, 98, 99, 100, 101, 102, 103, 104, 105, 106, 107, 108, 109, 110, 111, 112, 113, 114, 115, 116, 117, 118, 119, 120, 121, 122, 123, 124, 125, 126, 127, 128, 129, 130, 131, 132, 133, 134, 135, 136, 137, 138, 139, 140, 141, 142, 144, 145, 146, 147, 148, 149, 150, 151, 152, 153, 154, 155, 156, 157, 158, 159, 160, 161, 162, 163, 164, 165, 166, 167, 168, 169, 170, 171, 172, 173, 174, 175, 176] (by decide +kernel) (by decide +kernel)
set_option maxRecDepth 20000 in
theorem gX3_look_X3_lookForSequence : GoodIn wsX3_look (wsV RX3 71 RX3 yX3_lookForSequence wsX3_lookForSequence) := goodIn_app (goodIn_of _ (by decide +kernel)) ggX3_look_X3_lookForSequence
set_option maxRecDepth 20000 in
theorem ggX3_look_X3_lookForChoice : GoodIn wsX3_look wsX3_lookForChoice := goodIn_r _ [60, 2, 57, 58, 59, 7, 0, 1, 3, 4, 5, 6, 8, 9, 10, 11, 12, 13, 14, 15, 16, 17, 18, 19, 20, 21, 22, 23, 24, 25, 26, 27, 28, 29, 30, 31, 32, 33, 34, 35, 36, 37, 38, 39, 40, 41, 42, 43, 44, 45, 46, 47, 48, 49, 50, 51, 52, 53, 54, 55, 56, 61, 62, 63, 64, 65, 66, 67, 68, 69, 70, 71, 72, 73, 74, 75, 76, 77, 78, 79, 80, 81, 82, 83, 84, 85, 86, 87, 88, 89, 90, 91, 92, 93, 94, 95, 96, 97, 98, 99, 100, 101, 102, 103, 104, 105, 106, 107, 108, 109, 110, 111, 112, 113, 114, 115, 116, 117, 118, 119, 120, 121, 122, 123, 124, 125, 126, 127, 128, 129, 130, 131, 132, 133, 134, 135, 136, 137, 138, 139, 140, 141, 142, 143, 144, 145, 146, 147, 148, 149, 150, 151, 152, 153, 154, 155, 156, 157, 158, 159, 160, 161, 162, 163, 164, 165, 166, 167, 168, 169, 170, 171, 172, 173, 174, 175, 176] (by decide +kernel) (by decide +kernel)
set_option maxRecDepth 20000 in
theorem gX3_look_X3_lookForChoice : GoodIn wsX3_look (wsV RX3 75 RX3 yX3_lookForChoice wsX3_lookForChoice) := goodIn_app (goodIn_of _ (by decide +kernel)) ggX3_look_X3_lookForChoice
set_option maxRecDepth 20000 in
theorem ggX3_look_X3_lookForStar : GoodIn wsX3_look wsX3_lookForStar := goodIn_r _ [144, 2, 57, 58, 59, 7, 0, 1, 3, 4, 5, 6, 8, 9, 10, 11, 12, 13, 14, 15, 16, 17, 18, 19, 20, 21, 22, 23, 24, 25, 26, 27, 28, 29, 30, 31, 32, 33, 34, 35, 36, 37, 38, 39, 40, 41, 42, 43, 44, 45, 46, 47, 48, 49, 50, 51, 52, 53, 54, 55, 56, 60, 61, 62, 63, 64, 65, 66, 67, 68, 69, 70, 71, 72, 73, 74, 75, 76, 77, 78, 79, 80, 81, 82, 83, 84, 85, 86, 87, 88, 89, 90, 91, 92, 93, 94, 95, 96, 97, 98, 99, 100, 101, 102, 103, 104, 105, 106, 107, 108, 109, 110, 111, 112, 113, 114, 115, 116, 117, 118, 119, 120, 121, 122, 123, 124, 125, 126, 127, 128, 129, 130, 131, 132, 133, 134, 135, 136, 137, 138, 139, 140, 141, 142, 143, 145, 146, 147, 148, 149, 150, 151, 152, 153, 154, 155, 156, 157, 158, 159, 160, 161, 162, 163, 164, 165, 166, 167, 168, 169, 170, 171, 172, 173, 174, 175, 176] (by decide +kernel) (by decide +kernel)
set_option maxRecDepth 20000 in
theorem gX3_look_X3_lookForStar : GoodIn wsX3_look (wsV RX3 78 RX3 yX3_lookForStar wsX3_lookForStar) := goodIn_app (goodIn_of _ (by decide +kernel)) ggX3_look_X3_lookForStar
set_option maxRecDepth 20000 in
theorem ggX3_look_X3_lookForOptional : GoodIn wsX3_look wsX3_lookForOptional := goodIn_r _ [62, 2, 57, 58, 59, 7, 0, 1, 3, 4, 5, 6, 8, 9, 10, 11, 12, 13, 14, 15, 16, 17, 18, 19, 20, 21, 22, 23, 24, 25, 26, 27, 28, 29, 30, 31, 32, 33, 34, 35, 36, 37, 38, 39, 40, 41, 42, 43, 44, 45, 46, 47, 48, 49, 50, 51, 52, 53, 54, 55, 56, 60, 61, 63, 64, 65, 66, 67, 68, 69, 70, 71, 72, 73, 74, 75, 76, 77, 78, 79, 80, 81, 82, 83, 84, 85, 86, 87, 88, 89, 90, 91, 92, 93, 94, 95, 96, 97, 98, 99, 100, 101, 102, 103, 104, 105, 106, 107, 108, 109, 110, 111, 112, 113, 114, 115, 116, 117, 118, 119, 120, 121, 122, 123, 124, 125, 126, 127, 128, 129, 130, 131, 132, 133, 134, 135, 136, 137, 138, 139, 140, 141, 142, 143, 144, 145, 146, 147, 148, 149, 150, 151, 152, 153, 154, 155, 156, 157, 158, 159, 160, 161, 162, 163, 164, 165, 166, 167, 168, 169, 170, 171, 172, 173, 174, 175, 176] (by decide +kernel) (by decide +kernel)
set_option maxRecDepth 20000 in
theorem gX3_look_X3_lookForOptional : GoodIn wsX3_look (wsV RX3 81 RX3 yX3_lookForOptional wsX3_lookForOptional) := goodIn_app (goodIn_of _ (by decide +kernel)) ggX3_look_X3_lookForOptional
set_option maxRecDepth 20000 in
theorem ggX3_look_X3_lookForAnd : GoodIn wsX3_look wsX3_lookForAnd := goodIn_r _ [56, 2, 57, 58, 59, 7, 0, 1, 3, 4, 5, 6, 8, 9, 10, 11, 12, 13, 14, 15, 16, 17, 18, 19, 20, 21, 22, 23, 24, 25, 26, 27, 28, 29, 30, 31, 32, 33, 34, 35, 36, 37, 38, 39, 40, 41, 42, 43, 44, 45, 46, 47, 48, 49, 50, 51, 52, 53, 54, 55, 60, 61, 62, 63, 64, 65, 66, 67, 68, 69, 70, 71, 72, 73, 74, 75, 76, 77, 78, 79, 80, 81, 82, 83, 84, 85, 86, 87, 88, 89, 90, 91, 92, 93, 94, 95, 96, 97, 98, 99, 100, 101, 102, 103, 104, 105, 106, 107, 108, 109, 110, 111, 112, 113, 114, 115, 116, 117, 118, 119, 120, 121, 122, 123, 124, 125, 126, 127, 128, 129, 130, 131, 132, 133, 134, 135, 136, 137, 138, 139, 140, 141, 142, 143, 144, 145, 146, 147, 148, 149, 150, 151, 152, 153, 154, 155, 156, 157, 158, 159, 160, 161, 162, 163, 164, 165, 166, 167, 168, 169, 170, 171, 172, 173, 174, 175, 176] (by decide +kernel) (by decide +kernel)
set_option maxRecDepth 20000 in
theorem gX3_look_X3_lookForAnd : GoodIn wsX3_look (wsV RX3 84 RX3 yX3_lookForAnd wsX3_lookForAnd) := goodIn_app (goodIn_of _ (by decide +kernel)) ggX3_look_X3_lookForAnd
set_option maxRecDepth 20000 in
theorem ggX3_look_X3_lookForNot : GoodIn wsX3_look wsX3_lookForNot := goodIn_r _ [61, 2, 57, 58, 59, 7, 0, 1, 3, 4, 5, 6, 8, 9, 10, 11, 12, 13, 14, 15, 16, 17, 18, 19, 20, 21, 22, 23, 24, 25, 26, 27, 28, 29, 30, 31, 32, 33, 34, 35, 36, 37, 38, 39, 40, 41, 42, 43, 44, 45, 46, 47, 48, 49, 50, 51, 52, 53, 54, 55, 56, 60, 62, 63, 64, 65, 66, 67, 68, 69, 70, 71, 72, 73, 74, 75, 76, 77, 78, 79, 80, 81, 82, 83, 84, 85, 86, 87, 88, 89, 90, 91, 92, 93, 94, 95, 96, 97, 98, 99, 100, 101, 102, 103, 104, 105, 106, 107, 108, 109, 110, 111, 112, 113, 114, 115, 116, 117, 118, 119, 120, 121, 122, 123, 124, 125, 126, 127, 128, 129, 130, 131, 132, 133, 134, 135, 136, 137, 138, 139, 140, 141, 142, 143, 144, 145, 146, 147, 148, 149, 150, 151, 152, 153, 154, 155, 156, 157, 158, 159, 160, 161, 162, 163, 164, 165, 166, 167, 168, 169, 170, 171, 172, 173, 174, 175, 176] (by decide +kernel) (by decide +kernel)
set_option maxRecDepth 20000 in
theorem gX3_look_X3_lookForNot : GoodIn wsX3_look (wsV RX3 87 RX3 yX3_lookForNot wsX3_lookForNot) := goodIn_app (goodIn_of _ (by decide +kernel)) ggX3_look_X3_lookForNot
theorem dX3_look_0 : decode cX3_look 0 = .ok (.aload_n 0, 1) := by decide +kernel
theorem dX3_look_1 : decode cX3_look 1 = .ok (.getfield 18, 3) := by decide +kernel
theorem dX3_look_4 : decode cX3_look 4 = .ok (.sipush 5000, 3) := by decide +kernel
theorem dX3_look_7 : decode cX3_look 7 = .ok (.if_icmp .ge 9, 3) := by decide +kernel
theorem dX3_look_10 : decode cX3_look 10 = .ok (.iload_n 3, 1) := by decide +kernel
theorem dX3_look_11 : decode cX3_look 11 = .ok (.bipush 100, 2) := by decide +kernel
theorem dX3_look_13 : decode cX3_look 13 = .ok (.if_icmp .le 6, 3) := by decide +kernel
theorem dX3_look_16 : decode cX3_look 16 = .ok (.bipush (-2), 2) := by decide +kernel
theorem dX3_look_18 : decode cX3_look 18 = .ok (.ireturn, 1) := by decide +kernel
theorem dX3_look_19 : decode cX3_look 19 = .ok (.aload_n 0, 1) := by decide +kernel
theorem dX3_look_20 : decode cX3_look 20 = .ok (.dup, 1) := by decide +kernel
theorem dX3_look_21 : decode cX3_look 21 = .ok (.getfield 18, 3) := by decide +kernel
theorem dX3_look_24 : decode cX3_look 24 = .ok (.iconst 1, 1) := by decide +kernel
theorem dX3_look_25 : decode cX3_look 25 = .ok (.iadd, 1) := by decide +kernel
theorem dX3_look_26 : decode cX3_look 26 = .ok (.putfield 18, 3) := by decide +kernel
theorem dX3_look_29 : decode cX3_look 29 = .ok (.aload_n 0, 1) := by decide +kernel
theorem dX3_look_30 : decode cX3_look 30 = .ok (.iconst 0, 1) := by decide +kernel
theorem dX3_look_31 : decode cX3_look 31 = .ok (.putfield 31, 3) := by decide +kernel
theorem dX3_look_34 : decode cX3_look 34 = .ok (.aload_n 0, 1) := by decide +kernel
theorem dX3_look_35 : decode cX3_look 35 = .ok (.getfield 35, 3) := by decide +kernel
theorem dX3_look_38 : decode cX3_look 38 = .ok (.getfield 56, 3) := by decide +kernel
theorem dX3_look_41 : decode cX3_look 41 = .ok (.iload_n 1, 1) := by decide +kernel
theorem dX3_look_42 : decode cX3_look 42 = .ok (.iaload, 1) := by decide +kernel
theorem dX3_look_43 : decode cX3_look 43 = .ok (.istore 4, 2) := by decide +kernel
theorem dX3_look_45 : decode cX3_look 45 = .ok (.aload_n 0, 1) := by decide +kernel
theorem dX3_look_46 : decode cX3_look 46 = .ok (.getfield 35, 3) := by decide +kernel
theorem dX3_look_49 : decode cX3_look 49 = .ok (.getfield 62, 3) := by decide +kernel
theorem dX3_look_52 : decode cX3_look 52 = .ok (.iload_n 1, 1) := by decide +kernel
theorem dX3_look_53 : decode cX3_look 53 = .ok (.iaload, 1) := by decide +kernel
theorem dX3_look_54 : decode cX3_look 54 = .ok (.istore 5, 2) := by decide +kernel
theorem dX3_look_56 : decode cX3_look 56 = .ok (.aload_n 0, 1) := by decide +kernel
theorem dX3_look_57 : decode cX3_look 57 = .ok (.getfield 35, 3) := by decide +kernel
theorem dX3_look_60 : decode cX3_look 60 = .ok (.getfield 65, 3) := by decide +kernel
theorem dX3_look_63 : decode cX3_look 63 = .ok (.iload_n 1, 1) := by decide +kernel
theorem dX3_look_64 : decode cX3_look 64 = .ok (.iaload, 1) := by decide +kernel
theorem dX3_look_65 : decode cX3_look 65 = .ok (.tableswitch 128 0 8 #[51, 53, 60, 70, 79, 90, 101, 110, 119], 51) := by decide +kernel
theorem dX3_look_116 : decode cX3_look 116 = .ok (.iload_n 2, 1) := by decide +kernel
theorem dX3_look_117 : decode cX3_look 117 = .ok (.ireturn, 1) := by decide +kernel
theorem dX3_look_118 : decode cX3_look 118 = .ok (.aload_n 0, 1) := by decide +kernel
theorem dX3_look_119 : decode cX3_look 119 = .ok (.iconst 1, 1) := by decide +kernel
theorem dX3_look_120 : decode cX3_look 120 = .ok (.putfield 31, 3) := by decide +kernel
theorem dX3_look_123 : decode cX3_look 123 = .ok (.iload_n 2, 1) := by decide +kernel
theorem dX3_look_124 : decode cX3_look 124 = .ok (.ireturn, 1) := by decide +kernel
theorem dX3_look_125 : decode cX3_look 125 = .ok (.aload_n 0, 1) := by decide +kernel
theorem dX3_look_126 : decode cX3_look 126 = .ok (.iload 4, 2) := by decide +kernel
theorem dX3_look_128 : decode cX3_look 128 = .ok (.iload 5, 2) := by decide +kernel
theorem dX3_look_130 : decode cX3_look 130 = .ok (.iload_n 2, 1) := by decide +kernel
theorem dX3_look_131 : decode cX3_look 131 = .ok (.invokevirtual 68, 3) := by decide +kernel
theorem dX3_look_134 : decode cX3_look 134 = .ok (.ireturn, 1) := by decide +kernel
theorem dX3_look_135 : decode cX3_look 135 = .ok (.aload_n 0, 1) := by decide +kernel
theorem dX3_look_136 : decode cX3_look 136 = .ok (.iload 4, 2) := by decide +kernel
theorem dX3_look_138 : decode cX3_look 138 = .ok (.iload_n 2, 1) := by decide +kernel
theorem dX3_look_139 : decode cX3_look 139 = .ok (.iload_n 3, 1) := by decide +kernel
theorem dX3_look_140 : decode cX3_look 140 = .ok (.invokevirtual 47, 3) := by decide +kernel
theorem dX3_look_143 : decode cX3_look 143 = .ok (.ireturn, 1) := by decide +kernel
theorem dX3_look_144 : decode cX3_look 144 = .ok (.aload_n 0, 1) := by decide +kernel
theorem dX3_look_145 : decode cX3_look 145 = .ok (.iload 4, 2) := by decide +kernel
theorem dX3_look_147 : decode cX3_look 147 = .ok (.iload 5, 2) := by decide +kernel
theorem dX3_look_149 : decode cX3_look 149 = .ok (.iload_n 2, 1) := by decide +kernel
theorem dX3_look_150 : decode cX3_look 150 = .ok (.iload_n 3, 1) := by decide +kernel
theorem dX3_look_151 : decode cX3_look 151 = .ok (.invokevirtual 71, 3) := by decide +kernel
theorem dX3_look_154 : decode cX3_look 154 = .ok (.ireturn, 1) := by decide +kernel
theorem dX3_look_155 : decode cX3_look 155 = .ok (.aload_n 0, 1) := by decide +kernel
theorem dX3_look_156 : decode cX3_look 156 = .ok (.iload 4, 2) := by decide +kernel
theorem dX3_look_158 : decode cX3_look 158 = .ok (.iload 5, 2) := by decide +kernel
theorem dX3_look_160 : decode cX3_look 160 = .ok (.iload_n 2, 1) := by decide +kernel
theorem dX3_look_161 : decode cX3_look 161 = .ok (.iload_n 3, 1) := by decide +kernel
theorem dX3_look_162 : decode cX3_look 162 = .ok (.invokevirtual 75, 3) := by decide +kernel
theorem dX3_look_165 : decode cX3_look 165 = .ok (.ireturn, 1) := by decide +kernel
theorem dX3_look_166 : decode cX3_look 166 = .ok (.aload_n 0, 1) := by decide +kernel
theorem dX3_look_167 : decode cX3_look 167 = .ok (.iload 4, 2) := by decide +kernel
theorem dX3_look_169 : decode cX3_look 169 = .ok (.iload_n 2, 1) := by decide +kernel
theorem dX3_look_170 : decode cX3_look 170 = .ok (.iload_n 3, 1) := by decide +kernel
theorem dX3_look_171 : decode cX3_look 171 = .ok (.invokevirtual 78, 3) := by decide +kernel
theorem dX3_look_174 : decode cX3_look 174 = .ok (.ireturn, 1) := by decide +kernel
theorem dX3_look_175 : decode cX3_look 175 = .ok (.aload_n 0, 1) := by decide +kernel
theorem dX3_look_176 : decode cX3_look 176 = .ok (.iload 4, 2) := by decide +kernel
theorem dX3_look_178 : decode cX3_look 178 = .ok (.iload_n 2, 1) := by decide +kernel
theorem dX3_look_179 : decode cX3_look 179 = .ok (.iload_n 3, 1) := by decide +kernel
theorem dX3_look_180 : decode cX3_look 180 = .ok (.invokevirtual 81, 3) := by decide +kernel
theorem dX3_look_183 : decode cX3_look 183 = .ok (.ireturn, 1) := by decide +kernel
theorem dX3_look_184 : decode cX3_look 184 = .ok (.aload_n 0, 1) := by decide +kernel
theorem dX3_look_185 : decode cX3_look 185 = .ok (.iload 4, 2) := by decide +kernel
theorem dX3_look_187 : decode cX3_look 187 = .ok (.iload_n 2, 1) := by decide +kernel
theorem dX3_look_188 : decode cX3_look 188 = .ok (.iload_n 3, 1) := by decide +kernel
theorem dX3_look_189 : decode cX3_look 189 = .ok (.invokevirtual 84, 3) := by decide +kernel
theorem dX3_look_192 : decode cX3_look 192 = .ok (.ireturn, 1) := by decide +kernel
theorem dX3_look_193 : decode cX3_look 193 = .ok (.aload_n 0, 1) := by decide +kernel
theorem dX3_look_194 : decode cX3_look 194 = .ok (.iload 4, 2) := by decide +kernel
theorem dX3_look_196 : decode cX3_look 196 = .ok (.iload_n 2, 1) := by decide +kernel
theorem dX3_look_197 : decode cX3_look 197 = .ok (.iload_n 3, 1) := by decide +kernel
theorem dX3_look_198 : decode cX3_look 198 = .ok (.invokevirtual 87, 3) := by decide +kernel
theorem dX3_look_201 : decode cX3_look 201 = .ok (.ireturn, 1) := by decide +kernel
set_option maxRecDepth 20000 in
theorem ggX3_lookForRange_X2_countLook : GoodIn wsX3_lookForRange wsX2_countLook := goodIn_r _ [12, 13, 14, 15, 5, 6, 7, 36, 37, 38, 39, 40, 41, 42, 43, 44, 45] (by decide +kernel) (by decide +kernel)
set_option maxRecDepth 20000 in
theorem gX3_lookForRange_X2_countLook : GoodIn wsX3_lookForRange (wsV RX3 90 RX2 yX2_countLook wsX2_countLook) := goodIn_app (goodIn_of _ (by decide +kernel)) ggX3_lookForRange_X2_countLook
set_option maxRecDepth 20000 in
theorem ggX3_lookForRange_X4_byteOrNone : GoodIn wsX3_lookForRange wsX4_byteOrNone := goodIn_r _ [20, 21, 22, 23, 24, 19, 25, 26, 46, 47] (by decide +kernel) (by decide +kernel)
set_option maxRecDepth 20000 in
theorem gX3_lookForRange_X4_byteOrNone : GoodIn wsX3_lookForRange (wsV RX3 94 RX4 yX4_byteOrNone wsX4_byteOrNone) := goodIn_app (goodIn_of _ (by decide +kernel)) ggX3_lookForRange_X4_byteOrNone
theorem dX3_lookForRange_0 : decode cX3_lookForRange 0 = .ok (.aload_n 0, 1) := by decide +kernel
theorem dX3_lookForRange_1 : decode cX3_lookForRange 1 = .ok (.getfield 12, 3) := by decide +kernel
theorem dX3_lookForRange_4 : decode cX3_lookForRange 4 = .ok (.iload_n 3, 1) := by decide +kernel
theorem dX3_lookForRange_5 : decode cX3_lookForRange 5 = .ok (.iconst 1, 1) := by decide +kernel
theorem dX3_lookForRange_6 : decode cX3_lookForRange 6 = .ok (.iadd, 1) := by decide +kernel
theorem dX3_lookForRange_7 : decode cX3_lookForRange 7 = .ok (.invokevirtual 90, 3) := by decide +kernel
theorem dX3_lookForRange_10 : decode cX3_lookForRange 10 = .ok (.aload_n 0, 1) := by decide +kernel
theorem dX3_lookForRange_11 : decode cX3_lookForRange 11 = .ok (.getfield 39, 3) := by decide +kernel
theorem dX3_lookForRange_14 : decode cX3_lookForRange 14 = .ok (.iload_n 3, 1) := by decide +kernel
theorem dX3_lookForRange_15 : decode cX3_lookForRange 15 = .ok (.invokevirtual 94, 3) := by decide +kernel
theorem dX3_lookForRange_18 : decode cX3_lookForRange 18 = .ok (.istore 4, 2) := by decide +kernel
theorem dX3_lookForRange_20 : decode cX3_lookForRange 20 = .ok (.iload 4, 2) := by decide +kernel
theorem dX3_lookForRange_22 : decode cX3_lookForRange 22 = .ok (.iload_n 1, 1) := by decide +kernel
theorem dX3_lookForRange_23 : decode cX3_lookForRange 23 = .ok (.if_icmp .lt 13, 3) := by decide +kernel
theorem dX3_lookForRange_26 : decode cX3_lookForRange 26 = .ok (.iload 4, 2) := by decide +kernel
theorem dX3_lookForRange_28 : decode cX3_lookForRange 28 = .ok (.iload_n 2, 1) := by decide +kernel
theorem dX3_lookForRange_29 : decode cX3_lookForRange 29 = .ok (.if_icmp .gt 7, 3) := by decide +kernel
theorem dX3_lookForRange_32 : decode cX3_lookForRange 32 = .ok (.iload_n 3, 1) := by decide +kernel
theorem dX3_lookForRange_33 : decode cX3_lookForRange 33 = .ok (.iconst 1, 1) := by decide +kernel
theorem dX3_lookForRange_34 : decode cX3_lookForRange 34 = .ok (.iadd, 1) := by decide +kernel
theorem dX3_lookForRange_35 : decode cX3_lookForRange 35 = .ok (.ireturn, 1) := by decide +kernel
theorem dX3_lookForRange_36 : decode cX3_lookForRange 36 = .ok (.aload_n 0, 1) := by decide +kernel
theorem dX3_lookForRange_37 : decode cX3_lookForRange 37 = .ok (.aload_n 0, 1) := by decide +kernel
theorem dX3_lookForRange_38 : decode cX3_lookForRange 38 = .ok (.getfield 28, 3) := by decide +kernel
theorem dX3_lookForRange_41 : decode cX3_lookForRange 41 = .ok (.iload_n 3, 1) := by decide +kernel
theorem dX3_lookForRange_42 : decode cX3_lookForRange 42 = .ok (.invokestatic 100, 3) := by decide +kernel
theorem dX3_lookForRange_45 : decode cX3_lookForRange 45 = .ok (.putfield 28, 3) := by decide +kernel
end
section
theorem dX3_lookForRange_48 : decode cX3_lookForRange 48 = .ok (.iconst (-1), 1) := by decide +kernel
theorem dX3_lookForRange_49 : decode cX3_lookForRange 49 = .ok (.ireturn, 1) := by decide +kernel
set_option maxRecDepth 20000 in
theorem ggX3_lookForSequence_X3_look : GoodIn wsX3_lookForSequence wsX3_look := goodIn_r _ [6, 7, 1, 8, 9, 10, 11, 5, 12, 13, 14, 15, 16, 17, 18, 19, 20, 21, 22, 23, 24, 25, 26, 27, 28, 29, 30, 31, 32, 33, 34, 35, 36, 37, 38, 39, 40, 41, 42, 43, 44, 45, 46, 47, 48, 49, 50, 51, 52, 53, 54, 55, 56, 57, 58, 59, 60, 2, 3, 4, 61, 62, 63, 64, 65, 66, 67, 68, 69, 70, 71, 72, 73, 74, 75, 76, 77, 78, 79, 80, 81, 82, 83, 84, 85, 86, 87, 88, 89, 90, 91, 92, 93, 94, 95, 96, 97, 98, 99, 100, 101, 102, 103, 104, 105, 106, 107, 108, 109, 110, 111, 112, 113, 114, 115, 116, 117, 118, 119, 120, 121, 122, 123, 124, 125, 126, 127, 128, 129, 130, 131, 132, 133, 134, 135, 136, 137, 138, 139, 140, 141, 142, 143, 0, 144, 145, 146, 147, 148, 149, 150, 151, 152, 153, 154, 155, 156, 157, 158, 159, 160, 161, 162, 163, 164, 165, 166, 167, 168, 169, 170, 171, 172, 173, 174, 175, 176] (by decide +kernel) (by decide +kernel)
set_option maxRecDepth 20000 in
theorem gX3_lookForSequence_X3_look : GoodIn wsX3_lookForSequence (wsV RX3 106 RX3 yX3_look wsX3_look) := goodIn_app (goodIn_of _ (by decide +kernel)) ggX3_lookForSequence_X3_look
theorem dX3_lookForSequence_0 : decode cX3_lookForSequence 0 = .ok (.aload_n 0, 1) := by decide +kernel
theorem dX3_lookForSequence_1 : decode cX3_lookForSequence 1 = .ok (.iload_n 1, 1) := by decide +kernel
theorem dX3_lookForSequence_2 : decode cX3_lookForSequence 2 = .ok (.iload_n 3, 1) := by decide +kernel
theorem dX3_lookForSequence_3 : decode cX3_lookForSequence 3 = .ok (.iload 4, 2) := by decide +kernel
theorem dX3_lookForSequence_5 : decode cX3_lookForSequence 5 = .ok (.iconst 1, 1) := by decide +kernel
theorem dX3_lookForSequence_6 : decode cX3_lookForSequence 6 = .ok (.iadd, 1) := by decide +kernel
theorem dX3_lookForSequence_7 : decode cX3_lookForSequence 7 = .ok (.invokevirtual 106, 3) := by decide +kernel
theorem dX3_lookForSequence_10 : decode cX3_lookForSequence 10 = .ok (.istore 5, 2) := by decide +kernel
theorem dX3_lookForSequence_12 : decode cX3_lookForSequence 12 = .ok (.iload 5, 2) := by decide +kernel
theorem dX3_lookForSequence_14 : decode cX3_lookForSequence 14 = .ok (.ifCond .ge 6, 3) := by decide +kernel
theorem dX3_lookForSequence_17 : decode cX3_lookForSequence 17 = .ok (.iload 5, 2) := by decide +kernel
theorem dX3_lookForSequence_19 : decode cX3_lookForSequence 19 = .ok (.ireturn, 1) := by decide +kernel
theorem dX3_lookForSequence_20 : decode cX3_lookForSequence 20 = .ok (.aload_n 0, 1) := by decide +kernel
theorem dX3_lookForSequence_21 : decode cX3_lookForSequence 21 = .ok (.getfield 31, 3) := by decide +kernel
theorem dX3_lookForSequence_24 : decode cX3_lookForSequence 24 = .ok (.istore 6, 2) := by decide +kernel
theorem dX3_lookForSequence_26 : decode cX3_lookForSequence 26 = .ok (.aload_n 0, 1) := by decide +kernel
theorem dX3_lookForSequence_27 : decode cX3_lookForSequence 27 = .ok (.iload_n 2, 1) := by decide +kernel
theorem dX3_lookForSequence_28 : decode cX3_lookForSequence 28 = .ok (.iload 5, 2) := by decide +kernel
theorem dX3_lookForSequence_30 : decode cX3_lookForSequence 30 = .ok (.iload 4, 2) := by decide +kernel
theorem dX3_lookForSequence_32 : decode cX3_lookForSequence 32 = .ok (.iconst 1, 1) := by decide +kernel
theorem dX3_lookForSequence_33 : decode cX3_lookForSequence 33 = .ok (.iadd, 1) := by decide +kernel
theorem dX3_lookForSequence_34 : decode cX3_lookForSequence 34 = .ok (.invokevirtual 106, 3) := by decide +kernel
theorem dX3_lookForSequence_37 : decode cX3_lookForSequence 37 = .ok (.istore 7, 2) := by decide +kernel
theorem dX3_lookForSequence_39 : decode cX3_lookForSequence 39 = .ok (.aload_n 0, 1) := by decide +kernel
theorem dX3_lookForSequence_40 : decode cX3_lookForSequence 40 = .ok (.aload_n 0, 1) := by decide +kernel
theorem dX3_lookForSequence_41 : decode cX3_lookForSequence 41 = .ok (.getfield 31, 3) := by decide +kernel
theorem dX3_lookForSequence_44 : decode cX3_lookForSequence 44 = .ok (.ifCond .ne 8, 3) := by decide +kernel
theorem dX3_lookForSequence_47 : decode cX3_lookForSequence 47 = .ok (.iload 6, 2) := by decide +kernel
theorem dX3_lookForSequence_49 : decode cX3_lookForSequence 49 = .ok (.ifCond .eq 7, 3) := by decide +kernel
theorem dX3_lookForSequence_52 : decode cX3_lookForSequence 52 = .ok (.iconst 1, 1) := by decide +kernel
theorem dX3_lookForSequence_53 : decode cX3_lookForSequence 53 = .ok (.goto 4, 3) := by decide +kernel
theorem dX3_lookForSequence_56 : decode cX3_lookForSequence 56 = .ok (.iconst 0, 1) := by decide +kernel
theorem dX3_lookForSequence_57 : decode cX3_lookForSequence 57 = .ok (.putfield 31, 3) := by decide +kernel
theorem dX3_lookForSequence_60 : decode cX3_lookForSequence 60 = .ok (.iload 7, 2) := by decide +kernel
theorem dX3_lookForSequence_62 : decode cX3_lookForSequence 62 = .ok (.ireturn, 1) := by decide +kernel
set_option maxRecDepth 20000 in
theorem ggX3_lookForChoice_X3_look : GoodIn wsX3_lookForChoice wsX3_look := goodIn_r _ [6, 7, 1, 8, 9, 10, 11, 5, 12, 13, 14, 15, 16, 17, 18, 19, 20, 21, 22, 23, 24, 25, 26, 27, 28, 29, 30, 31, 32, 33, 34, 35, 36, 37, 38, 39, 40, 41, 42, 43, 44, 45, 46, 47, 48, 49, 50, 51, 52, 53, 54, 55, 56, 57, 58, 59, 60, 2, 3, 4, 0, 61, 62, 63, 64, 65, 66, 67, 68, 69, 70, 71, 72, 73, 74, 75, 76, 77, 78, 79, 80, 81, 82, 83, 84, 85, 86, 87, 88, 89, 90, 91, 92, 93, 94, 95, 96, 97, 98, 99, 100, 101, 102, 103, 104, 105, 106, 107, 108, 109, 110, 111, 112, 113, 114, 115, 116, 117, 118, 119, 120, 121, 122, 123, 124, 125, 126, 127, 128, 129, 130, 131, 132, 133, 134, 135, 136, 137, 138, 139, 140, 141, 142, 143, 144, 145, 146, 147, 148, 149, 150, 151, 152, 153, 154, 155, 156, 157, 158, 159, 160, 161, 162, 163, 164, 165, 166, 167, 168, 169, 170, 171, 172, 173, 174, 175, 176] (by decide +kernel) (by decide +kernel)
set_option maxRecDepth 20000 in
theorem gX3_lookForChoice_X3_look : GoodIn wsX3_lookForChoice (wsV RX3 106 RX3 yX3_look wsX3_look) := goodIn_app (goodIn_of _ (by decide +kernel)) ggX3_lookForChoice_X3_look
theorem dX3_lookForChoice_0 : decode cX3_lookForChoice 0 = .ok (.aload_n 0, 1) := by decide +kernel
theorem dX3_lookForChoice_1 : decode cX3_lookForChoice 1 = .ok (.iload_n 1, 1) := by decide +kernel
theorem dX3_lookForChoice_2 : decode cX3_lookForChoice 2 = .ok (.iload_n 3, 1) := by decide +kernel
theorem dX3_lookForChoice_3 : decode cX3_lookForChoice 3 = .ok (.iload 4, 2) := by decide +kernel
theorem dX3_lookForChoice_5 : decode cX3_lookForChoice 5 = .ok (.iconst 1, 1) := by decide +kernel
theorem dX3_lookForChoice_6 : decode cX3_lookForChoice 6 = .ok (.iadd, 1) := by decide +kernel
theorem dX3_lookForChoice_7 : decode cX3_lookForChoice 7 = .ok (.invokevirtual 106, 3) := by decide +kernel
theorem dX3_lookForChoice_10 : decode cX3_lookForChoice 10 = .ok (.istore 5, 2) := by decide +kernel
theorem dX3_lookForChoice_12 : decode cX3_lookForChoice 12 = .ok (.iload 5, 2) := by decide +kernel
theorem dX3_lookForChoice_14 : decode cX3_lookForChoice 14 = .ok (.iconst (-1), 1) := by decide +kernel
theorem dX3_lookForChoice_15 : decode cX3_lookForChoice 15 = .ok (.if_icmp .ne 22, 3) := by decide +kernel
theorem dX3_lookForChoice_18 : decode cX3_lookForChoice 18 = .ok (.aload_n 0, 1) := by decide +kernel
theorem dX3_lookForChoice_19 : decode cX3_lookForChoice 19 = .ok (.getfield 31, 3) := by decide +kernel
theorem dX3_lookForChoice_22 : decode cX3_lookForChoice 22 = .ok (.ifCond .ne 15, 3) := by decide +kernel
theorem dX3_lookForChoice_25 : decode cX3_lookForChoice 25 = .ok (.aload_n 0, 1) := by decide +kernel
theorem dX3_lookForChoice_26 : decode cX3_lookForChoice 26 = .ok (.iload_n 2, 1) := by decide +kernel
theorem dX3_lookForChoice_27 : decode cX3_lookForChoice 27 = .ok (.iload_n 3, 1) := by decide +kernel
theorem dX3_lookForChoice_28 : decode cX3_lookForChoice 28 = .ok (.iload 4, 2) := by decide +kernel
theorem dX3_lookForChoice_30 : decode cX3_lookForChoice 30 = .ok (.iconst 1, 1) := by decide +kernel
theorem dX3_lookForChoice_31 : decode cX3_lookForChoice 31 = .ok (.iadd, 1) := by decide +kernel
theorem dX3_lookForChoice_32 : decode cX3_lookForChoice 32 = .ok (.invokevirtual 106, 3) := by decide +kernel
theorem dX3_lookForChoice_35 : decode cX3_lookForChoice 35 = .ok (.istore 5, 2) := by decide +kernel
theorem dX3_lookForChoice_37 : decode cX3_lookForChoice 37 = .ok (.aload_n 0, 1) := by decide +kernel
theorem dX3_lookForChoice_38 : decode cX3_lookForChoice 38 = .ok (.iconst 0, 1) := by decide +kernel
theorem dX3_lookForChoice_39 : decode cX3_lookForChoice 39 = .ok (.putfield 31, 3) := by decide +kernel
theorem dX3_lookForChoice_42 : decode cX3_lookForChoice 42 = .ok (.iload 5, 2) := by decide +kernel
theorem dX3_lookForChoice_44 : decode cX3_lookForChoice 44 = .ok (.ireturn, 1) := by decide +kernel
set_option maxRecDepth 20000 in
theorem ggX3_lookForStar_X3_look : GoodIn wsX3_lookForStar wsX3_look := goodIn_r _ [6, 7, 1, 8, 9, 10, 11, 5, 12, 13, 14, 15, 16, 17, 18, 19, 20, 21, 22, 23, 24, 25, 26, 27, 28, 29, 30, 31, 32, 33, 34, 35, 36, 37, 38, 39, 40, 41, 42, 43, 44, 45, 46, 47, 48, 49, 50, 51, 52, 53, 54, 55, 56, 57, 58, 59, 60, 2, 3, 4, 61, 62, 63, 64, 65, 66, 67, 68, 69, 70, 71, 72, 73, 74, 75, 76, 77, 78, 79, 80, 81, 82, 83, 84, 85, 86, 87, 88, 89, 90, 91, 92, 93, 94, 95, 96, 97, 98, 99, 100, 101, 102, 103, 104, 105, 106, 107, 108, 109, 110, 111, 112, 113, 114, 115, 116, 117, 118, 119, 120, 121, 122, 123, 124, 125, 126, 127, 128, 129, 130, 131, 132, 133, 134, 135, 136, 137, 138, 139, 140, 141, 142, 143, 144, 0, 145, 146, 147, 148, 149, 150, 151, 152, 153, 154, 155, 156, 157, 158, 159, 160, 161, 162, 163, 164, 165, 166, 167, 168, 169, 170, 171, 172, 173, 174, 175, 176] (by decide +kernel) (by decide +kernel)
set_option maxRecDepth 20000 in
theorem gX3_lookForStar_X3_look : GoodIn wsX3_lookForStar (wsV RX3 106 RX3 yX3_look wsX3_look) := goodIn_app (goodIn_of _ (by decide +kernel)) ggX3_lookForStar_X3_look
theorem dX3_lookForStar_0 : decode cX3_lookForStar 0 = .ok (.iload_n 2, 1) := by decide +kernel
theorem dX3_lookForStar_1 : decode cX3_lookForStar 1 = .ok (.istore 4, 2) := by decide +kernel
theorem dX3_lookForStar_3 : decode cX3_lookForStar 3 = .ok (.iload_n 2, 1) := by decide +kernel
theorem dX3_lookForStar_4 : decode cX3_lookForStar 4 = .ok (.istore 5, 2) := by decide +kernel
theorem dX3_lookForStar_6 : decode cX3_lookForStar 6 = .ok (.iconst 0, 1) := by decide +kernel
theorem dX3_lookForStar_7 : decode cX3_lookForStar 7 = .ok (.istore 6, 2) := by decide +kernel
theorem dX3_lookForStar_9 : decode cX3_lookForStar 9 = .ok (.iload 6, 2) := by decide +kernel
theorem dX3_lookForStar_11 : decode cX3_lookForStar 11 = .ok (.bipush 40, 2) := by decide +kernel
theorem dX3_lookForStar_13 : decode cX3_lookForStar 13 = .ok (.if_icmp .gt 35, 3) := by decide +kernel
theorem dX3_lookForStar_16 : decode cX3_lookForStar 16 = .ok (.aload_n 0, 1) := by decide +kernel
theorem dX3_lookForStar_17 : decode cX3_lookForStar 17 = .ok (.iload_n 1, 1) := by decide +kernel
theorem dX3_lookForStar_18 : decode cX3_lookForStar 18 = .ok (.iload 4, 2) := by decide +kernel
theorem dX3_lookForStar_20 : decode cX3_lookForStar 20 = .ok (.iload_n 3, 1) := by decide +kernel
theorem dX3_lookForStar_21 : decode cX3_lookForStar 21 = .ok (.iconst 1, 1) := by decide +kernel
theorem dX3_lookForStar_22 : decode cX3_lookForStar 22 = .ok (.iadd, 1) := by decide +kernel
theorem dX3_lookForStar_23 : decode cX3_lookForStar 23 = .ok (.invokevirtual 106, 3) := by decide +kernel
theorem dX3_lookForStar_26 : decode cX3_lookForStar 26 = .ok (.istore 5, 2) := by decide +kernel
theorem dX3_lookForStar_28 : decode cX3_lookForStar 28 = .ok (.iload 5, 2) := by decide +kernel
theorem dX3_lookForStar_30 : decode cX3_lookForStar 30 = .ok (.iload 4, 2) := by decide +kernel
theorem dX3_lookForStar_32 : decode cX3_lookForStar 32 = .ok (.if_icmp .gt 6, 3) := by decide +kernel
theorem dX3_lookForStar_35 : decode cX3_lookForStar 35 = .ok (.goto 13, 3) := by decide +kernel
theorem dX3_lookForStar_38 : decode cX3_lookForStar 38 = .ok (.iload 5, 2) := by decide +kernel
theorem dX3_lookForStar_40 : decode cX3_lookForStar 40 = .ok (.istore 4, 2) := by decide +kernel
theorem dX3_lookForStar_42 : decode cX3_lookForStar 42 = .ok (.iinc 6 1, 3) := by decide +kernel
theorem dX3_lookForStar_45 : decode cX3_lookForStar 45 = .ok (.goto (-36), 3) := by decide +kernel
theorem dX3_lookForStar_48 : decode cX3_lookForStar 48 = .ok (.iload 5, 2) := by decide +kernel
theorem dX3_lookForStar_50 : decode cX3_lookForStar 50 = .ok (.iconst (-1), 1) := by decide +kernel
theorem dX3_lookForStar_51 : decode cX3_lookForStar 51 = .ok (.if_icmp .ne 14, 3) := by decide +kernel
theorem dX3_lookForStar_54 : decode cX3_lookForStar 54 = .ok (.aload_n 0, 1) := by decide +kernel
theorem dX3_lookForStar_55 : decode cX3_lookForStar 55 = .ok (.getfield 31, 3) := by decide +kernel
theorem dX3_lookForStar_58 : decode cX3_lookForStar 58 = .ok (.ifCond .ne 7, 3) := by decide +kernel
theorem dX3_lookForStar_61 : decode cX3_lookForStar 61 = .ok (.iload 4, 2) := by decide +kernel
theorem dX3_lookForStar_63 : decode cX3_lookForStar 63 = .ok (.istore 5, 2) := by decide +kernel
theorem dX3_lookForStar_65 : decode cX3_lookForStar 65 = .ok (.aload_n 0, 1) := by decide +kernel
theorem dX3_lookForStar_66 : decode cX3_lookForStar 66 = .ok (.iconst 0, 1) := by decide +kernel
theorem dX3_lookForStar_67 : decode cX3_lookForStar 67 = .ok (.putfield 31, 3) := by decide +kernel
theorem dX3_lookForStar_70 : decode cX3_lookForStar 70 = .ok (.iload 5, 2) := by decide +kernel
theorem dX3_lookForStar_72 : decode cX3_lookForStar 72 = .ok (.ireturn, 1) := by decide +kernel
set_option maxRecDepth 20000 in
theorem ggX3_lookForOptional_X3_look : GoodIn wsX3_lookForOptional wsX3_look := goodIn_r _ [6, 7, 1, 8, 9, 10, 11, 5, 12, 13, 14, 15, 16, 17, 18, 19, 20, 21, 22, 23, 24, 25, 26, 27, 28, 29, 30, 31, 32, 33, 34, 35, 36, 37, 38, 39, 40, 41, 42, 43, 44, 45, 46, 47, 48, 49, 50, 51, 52, 53, 54, 55, 56, 57, 58, 59, 60, 2, 3, 4, 61, 62, 0, 63, 64, 65, 66, 67, 68, 69, 70, 71, 72, 73, 74, 75, 76, 77, 78, 79, 80, 81, 82, 83, 84, 85, 86, 87, 88, 89, 90, 91, 92, 93, 94, 95, 96, 97, 98, 99, 100, 101, 102, 103, 104, 105, 106, 107, 108, 109, 110, 111, 112, 113, 114, 115, 116, 117, 118, 119, 120, 121, 122, 123, 124, 125, 126, 127, 128, 129, 130, 131, 132, 133, 134, 135, 136, 137, 138, 139, 140, 141, 142, 143, 144, 145, 146, 147, 148, 149, 150, 151, 152, 153, 154, 155, 156, 157, 158, 159, 160, 161, 162, 163, 164, 165, 166, 167, 168, 169, 170, 171, 172, 173, 174, 175, 176] (by decide +kernel) (by decide +kernel)
set_option maxRecDepth 20000 in
theorem gX3_lookForOptional_X3_look : GoodIn wsX3_lookForOptional (wsV RX3 106 RX3 yX3_look wsX3_look) := goodIn_app (goodIn_of _ (by decide +kernel)) ggX3_lookForOptional_X3_look
theorem dX3_lookForOptional_0 : decode cX3_lookForOptional 0 = .ok (.aload_n 0, 1) := by decide +kernel
theorem dX3_lookForOptional_1 : decode cX3_lookForOptional 1 = .ok (.iload_n 1, 1) := by decide +kernel
theorem dX3_lookForOptional_2 : decode cX3_lookForOptional 2 = .ok (.iload_n 2, 1) := by decide +kernel
theorem dX3_lookForOptional_3 : decode cX3_lookForOptional 3 = .ok (.iload_n 3, 1) := by decide +kernel
theorem dX3_lookForOptional_4 : decode cX3_lookForOptional 4 = .ok (.iconst 1, 1) := by decide +kernel
theorem dX3_lookForOptional_5 : decode cX3_lookForOptional 5 = .ok (.iadd, 1) := by decide +kernel
theorem dX3_lookForOptional_6 : decode cX3_lookForOptional 6 = .ok (.invokevirtual 106, 3) := by decide +kernel
theorem dX3_lookForOptional_9 : decode cX3_lookForOptional 9 = .ok (.istore 4, 2) := by decide +kernel
theorem dX3_lookForOptional_11 : decode cX3_lookForOptional 11 = .ok (.iload 4, 2) := by decide +kernel
theorem dX3_lookForOptional_13 : decode cX3_lookForOptional 13 = .ok (.iconst (-1), 1) := by decide +kernel
theorem dX3_lookForOptional_14 : decode cX3_lookForOptional 14 = .ok (.if_icmp .ne 13, 3) := by decide +kernel
theorem dX3_lookForOptional_17 : decode cX3_lookForOptional 17 = .ok (.aload_n 0, 1) := by decide +kernel
theorem dX3_lookForOptional_18 : decode cX3_lookForOptional 18 = .ok (.getfield 31, 3) := by decide +kernel
theorem dX3_lookForOptional_21 : decode cX3_lookForOptional 21 = .ok (.ifCond .ne 6, 3) := by decide +kernel
theorem dX3_lookForOptional_24 : decode cX3_lookForOptional 24 = .ok (.iload_n 2, 1) := by decide +kernel
theorem dX3_lookForOptional_25 : decode cX3_lookForOptional 25 = .ok (.istore 4, 2) := by decide +kernel
theorem dX3_lookForOptional_27 : decode cX3_lookForOptional 27 = .ok (.aload_n 0, 1) := by decide +kernel
theorem dX3_lookForOptional_28 : decode cX3_lookForOptional 28 = .ok (.iconst 0, 1) := by decide +kernel
theorem dX3_lookForOptional_29 : decode cX3_lookForOptional 29 = .ok (.putfield 31, 3) := by decide +kernel
theorem dX3_lookForOptional_32 : decode cX3_lookForOptional 32 = .ok (.iload 4, 2) := by decide +kernel
theorem dX3_lookForOptional_34 : decode cX3_lookForOptional 34 = .ok (.ireturn, 1) := by decide +kernel
set_option maxRecDepth 20000 in
theorem ggX3_lookForAnd_X3_look : GoodIn wsX3_lookForAnd wsX3_look := goodIn_r _ [6, 7, 1, 8, 9, 10, 11, 5, 12, 13, 14, 15, 16, 17, 18, 19, 20, 21, 22, 23, 24, 25, 26, 27, 28, 29, 30, 31, 32, 33, 34, 35, 36, 37, 38, 39, 40, 41, 42, 43, 44, 45, 46, 47, 48, 49, 50, 51, 52, 53, 54, 55, 56, 57, 58, 59, 0, 2, 3, 4, 60, 61, 62, 63, 64, 65, 66, 67, 68, 69, 70, 71, 72, 73, 74, 75, 76, 77, 78, 79, 80, 81, 82, 83, 84, 85, 86, 87, 88, 89, 90, 91, 92, 93, 94, 95, 96, 97, 98, 99, 100, 101, 102, 103, 104, 105, 106, 107, 108, 109, 110, 111, 112, 113, 114, 115, 116, 117, 118, 119, 120, 121, 122, 123, 124, 125, 126, 127, 128, 129, 130, 131, 132, 133, 134, 135, 136, 137, 138, 139, 140, 141, 142, 143, 144, 145, 146, 147, 148, 149, 150, 151, 152, 153, 154, 155, 156, 157, 158, 159, 160, 161, 162, 163, 164, 165, 166, 167, 168, 169, 170, 171, 172, 173, 174, 175, 176] (by decide +kernel) (by decide +kernel)
set_option maxRecDepth 20000 in
theorem gX3_lookForAnd_X3_look : GoodIn wsX3_lookForAnd (wsV RX3 106 RX3 yX3_look wsX3_look) := goodIn_app (goodIn_of _ (by decide +kernel)) ggX3_lookForAnd_X3_look
theorem dX3_lookForAnd_0 : decode cX3_lookForAnd 0 = .ok (.aload_n 0, 1) := by decide +kernel
theorem dX3_lookForAnd_1 : decode cX3_lookForAnd 1 = .ok (.iload_n 1, 1) := by decide +kernel
theorem dX3_lookForAnd_2 : decode cX3_lookForAnd 2 = .ok (.iload_n 2, 1) := by decide +kernel
theorem dX3_lookForAnd_3 : decode cX3_lookForAnd 3 = .ok (.iload_n 3, 1) := by decide +kernel
theorem dX3_lookForAnd_4 : decode cX3_lookForAnd 4 = .ok (.iconst 1, 1) := by decide +kernel
theorem dX3_lookForAnd_5 : decode cX3_lookForAnd 5 = .ok (.iadd, 1) := by decide +kernel
theorem dX3_lookForAnd_6 : decode cX3_lookForAnd 6 = .ok (.invokevirtual 106, 3) := by decide +kernel
theorem dX3_lookForAnd_9 : decode cX3_lookForAnd 9 = .ok (.istore 4, 2) := by decide +kernel
theorem dX3_lookForAnd_11 : decode cX3_lookForAnd 11 = .ok (.aload_n 0, 1) := by decide +kernel
theorem dX3_lookForAnd_12 : decode cX3_lookForAnd 12 = .ok (.iconst 0, 1) := by decide +kernel
theorem dX3_lookForAnd_13 : decode cX3_lookForAnd 13 = .ok (.putfield 31, 3) := by decide +kernel
theorem dX3_lookForAnd_16 : decode cX3_lookForAnd 16 = .ok (.iload 4, 2) := by decide +kernel
theorem dX3_lookForAnd_18 : decode cX3_lookForAnd 18 = .ok (.ifCond .ge 8, 3) := by decide +kernel
theorem dX3_lookForAnd_21 : decode cX3_lookForAnd 21 = .ok (.iload 4, 2) := by decide +kernel
theorem dX3_lookForAnd_23 : decode cX3_lookForAnd 23 = .ok (.goto 4, 3) := by decide +kernel
theorem dX3_lookForAnd_26 : decode cX3_lookForAnd 26 = .ok (.iload_n 2, 1) := by decide +kernel
theorem dX3_lookForAnd_27 : decode cX3_lookForAnd 27 = .ok (.ireturn, 1) := by decide +kernel
set_option maxRecDepth 20000 in
theorem ggX3_lookForNot_X3_look : GoodIn wsX3_lookForNot wsX3_look := goodIn_r _ [6, 7, 1, 8, 9, 10, 11, 5, 12, 13, 14, 15, 16, 17, 18, 19, 20, 21, 22, 23, 24, 25, 26, 27, 28, 29, 30, 31, 32, 33, 34, 35, 36, 37, 38, 39, 40, 41, 42, 43, 44, 45, 46, 47, 48, 49, 50, 51, 52, 53, 54, 55, 56, 57, 58, 59, 60, 2, 3, 4, 61, 0, 62, 63, 64, 65, 66, 67, 68, 69, 70, 71, 72, 73, 74, 75, 76, 77, 78, 79, 80, 81, 82, 83, 84, 85, 86, 87, 88, 89, 90, 91, 92, 93, 94, 95, 96, 97, 98, 99, 100, 101, 102, 103, 104, 105, 106, 107, 108, 109, 110, 111, 112, 113, 114, 115, 116, 117, 118, 119, 120, 121, 122, 123, 124, 125, 126, 127, 128, 129, 130, 131, 132, 133, 134, 135, 136, 137, 138, 139, 140, 141, 142, 143, 144, 145, 146, 147, 148, 149, 150, 151, 152, 153, 154, 155, 156, 157, 158, 159, 160, 161, 162, 163, 164, 165, 166, 167, 168, 169, 170, 171, 172, 173, 174, 175, 176] (by decide +kernel) (by decide +kernel)
set_option maxRecDepth 20000 in
theorem gX3_lookForNot_X3_look : GoodIn wsX3_lookForNot (wsV RX3 106 RX3 yX3_look wsX3_look) := goodIn_app (goodIn_of _ (by decide +kernel)) ggX3_lookForNot_X3_look
theorem dX3_lookForNot_0 : decode cX3_lookForNot 0 = .ok (.aload_n 0, 1) := by decide +kernel
theorem dX3_lookForNot_1 : decode cX3_lookForNot 1 = .ok (.iload_n 1, 1) := by decide +kernel
theorem dX3_lookForNot_2 : decode cX3_lookForNot 2 = .ok (.iload_n 2, 1) := by decide +kernel
theorem dX3_lookForNot_3 : decode cX3_lookForNot 3 = .ok (.iload_n 3, 1) := by decide +kernel
theorem dX3_lookForNot_4 : decode cX3_lookForNot 4 = .ok (.iconst 1, 1) := by decide +kernel
theorem dX3_lookForNot_5 : decode cX3_lookForNot 5 = .ok (.iadd, 1) := by decide +kernel
theorem dX3_lookForNot_6 : decode cX3_lookForNot 6 = .ok (.invokevirtual 106, 3) := by decide +kernel
theorem dX3_lookForNot_9 : decode cX3_lookForNot 9 = .ok (.istore 4, 2) := by decide +kernel
theorem dX3_lookForNot_11 : decode cX3_lookForNot 11 = .ok (.aload_n 0, 1) := by decide +kernel
theorem dX3_lookForNot_12 : decode cX3_lookForNot 12 = .ok (.iconst 0, 1) := by decide +kernel
theorem dX3_lookForNot_13 : decode cX3_lookForNot 13 = .ok (.putfield 31, 3) := by decide +kernel
theorem dX3_lookForNot_16 : decode cX3_lookForNot 16 = .ok (.iload 4, 2) := by decide +kernel
theorem dX3_lookForNot_18 : decode cX3_lookForNot 18 = .ok (.bipush (-2), 2) := by decide +kernel
theorem dX3_lookForNot_20 : decode cX3_lookForNot 20 = .ok (.if_icmp .ne 6, 3) := by decide +kernel
theorem dX3_lookForNot_23 : decode cX3_lookForNot 23 = .ok (.bipush (-2), 2) := by decide +kernel
theorem dX3_lookForNot_25 : decode cX3_lookForNot 25 = .ok (.ireturn, 1) := by decide +kernel
theorem dX3_lookForNot_26 : decode cX3_lookForNot 26 = .ok (.iload 4, 2) := by decide +kernel
theorem dX3_lookForNot_28 : decode cX3_lookForNot 28 = .ok (.iconst (-1), 1) := by decide +kernel
theorem dX3_lookForNot_29 : decode cX3_lookForNot 29 = .ok (.if_icmp .ne 7, 3) := by decide +kernel
theorem dX3_lookForNot_32 : decode cX3_lookForNot 32 = .ok (.iload_n 2, 1) := by decide +kernel
theorem dX3_lookForNot_33 : decode cX3_lookForNot 33 = .ok (.goto 4, 3) := by decide +kernel
theorem dX3_lookForNot_36 : decode cX3_lookForNot 36 = .ok (.iconst (-1), 1) := by decide +kernel
theorem dX3_lookForNot_37 : decode cX3_lookForNot 37 = .ok (.ireturn, 1) := by decide +kernel
set_option maxRecDepth 20000 in
theorem ggX3_lookForRule_X3_knownResult : GoodIn wsX3_lookForRule wsX3_knownResult := goodIn_r _ [9, 2, 10, 1, 11, 12, 13, 14, 15, 16, 17, 18, 19, 20, 21, 22, 23, 24, 25, 26, 27, 28, 29, 30, 31, 32, 33, 34, 35, 36, 37, 38, 39, 40, 41, 42, 43, 44, 45, 46, 47, 48, 49, 50, 51, 52, 53, 54, 55, 56, 57, 58, 59, 60, 61, 62, 145, 146, 147, 148, 149, 150, 151, 152, 153, 154, 155, 156, 157, 158, 159, 160, 161, 174, 175, 176, 162, 163, 164, 165, 166, 167, 168, 169, 170, 171] (by decide +kernel) (by decide +kernel)
set_option maxRecDepth 20000 in
theorem gX3_lookForRule_X3_knownResult : GoodIn wsX3_lookForRule (wsV RX3 109 RX3 yX3_knownResult wsX3_knownResult) := goodIn_app (goodIn_of _ (by decide +kernel)) ggX3_lookForRule_X3_knownResult
set_option maxRecDepth 20000 in
theorem ggX3_lookForRule_X2_isFull : GoodIn wsX3_lookForRule wsX2_isFull := goodIn_r _ [66, 37, 162, 163, 164, 165, 166, 167, 168, 169, 170, 171] (by decide +kernel) (by decide +kernel)
set_option maxRecDepth 20000 in
theorem gX3_lookForRule_X2_isFull : GoodIn wsX3_lookForRule (wsV RX3 112 RX2 yX2_isFull wsX2_isFull) := goodIn_app (goodIn_of _ (by decide +kernel)) ggX3_lookForRule_X2_isFull
set_option maxRecDepth 20000 in
theorem ggX3_lookForRule_X2_begin : GoodIn wsX3_lookForRule wsX2_begin := goodIn_r _ [70, 37, 71, 47, 54, 53, 38, 48, 59, 72, 32, 73, 19, 74, 18, 20, 162, 163, 164, 165, 166, 167, 168, 169, 170, 171] (by decide +kernel) (by decide +kernel)
set_option maxRecDepth 20000 in
theorem gX3_lookForRule_X2_begin : GoodIn wsX3_lookForRule (wsV RX3 119 RX2 yX2_begin wsX2_begin) := goodIn_app (goodIn_of _ (by decide +kernel)) ggX3_lookForRule_X2_begin
set_option maxRecDepth 20000 in
theorem ggX3_lookForRule_X3_look : GoodIn wsX3_lookForRule wsX3_look := goodIn_r _ [98, 99, 4, 2, 100, 101, 102, 8, 103, 1, 104, 105, 106, 40, 41, 42, 33, 34, 35, 30, 36, 37, 38, 39, 107, 108, 109, 110, 111, 112, 113, 114, 115, 116, 117, 118, 119, 120, 121, 122, 123, 124, 125, 126, 127, 128, 129, 130, 131, 132, 133, 134, 135, 136, 137, 138, 139, 75, 76, 77, 140, 141, 142, 0, 3, 5, 6, 7, 9, 10, 11, 12, 13, 14, 15, 16, 17, 18, 19, 20, 21, 22, 23, 24, 25, 26, 27, 28, 29, 31, 32, 43, 44, 45, 46, 47, 48, 49, 50, 51, 52, 53, 54, 55, 56, 57, 58, 59, 60, 61, 62, 63, 64, 65, 66, 67, 68, 69, 70, 71, 72, 73, 74, 78, 79, 80, 81, 82, 83, 84, 85, 86, 87, 88, 89, 90, 91, 92, 93, 94, 95, 96, 97, 143, 144, 145, 146, 147, 148, 149, 150, 151, 152, 153, 154, 155, 156, 157, 158, 159, 160, 161, 162, 163, 164, 165, 166, 167, 168, 169, 170, 171, 172, 173, 174, 175, 176] (by decide +kernel) (by decide +kernel)
set_option maxRecDepth 20000 in
theorem gX3_lookForRule_X3_look : GoodIn wsX3_lookForRule (wsV RX3 106 RX3 yX3_look wsX3_look) := goodIn_app (goodIn_of _ (by decide +kernel)) ggX3_lookForRule_X3_look
set_option maxRecDepth 20000 in
theorem ggX3_lookForRule_X3_finish : GoodIn wsX3_lookForRule wsX3_finish := goodIn_r _ [81, 1, 10, 82, 83, 84, 30, 85, 59, 18, 19, 20, 86, 87, 88, 24, 89, 26, 90, 91, 92, 93, 94, 95, 37, 47, 72, 71, 32, 38, 48, 73, 74, 96, 34, 35, 36, 39, 40, 41, 42, 97, 44, 45, 46, 55, 56, 57, 58, 60, 61, 62, 145, 146, 147, 148, 149, 150, 151, 152, 153, 162, 163, 164, 165, 166, 167, 168, 169, 170, 171, 174, 175, 176] (by decide +kernel) (by decide +kernel)
set_option maxRecDepth 20000 in
theorem gX3_lookForRule_X3_finish : GoodIn wsX3_lookForRule (wsV RX3 129 RX3 yX3_finish wsX3_finish) := goodIn_app (goodIn_of _ (by decide +kernel)) ggX3_lookForRule_X3_finish
theorem dX3_lookForRule_0 : decode cX3_lookForRule 0 = .ok (.aload_n 0, 1) := by decide +kernel
theorem dX3_lookForRule_1 : decode cX3_lookForRule 1 = .ok (.iload_n 1, 1) := by decide +kernel
theorem dX3_lookForRule_2 : decode cX3_lookForRule 2 = .ok (.iload_n 2, 1) := by decide +kernel
theorem dX3_lookForRule_3 : decode cX3_lookForRule 3 = .ok (.invokevirtual 109, 3) := by decide +kernel
theorem dX3_lookForRule_6 : decode cX3_lookForRule 6 = .ok (.istore 4, 2) := by decide +kernel
theorem dX3_lookForRule_8 : decode cX3_lookForRule 8 = .ok (.iload 4, 2) := by decide +kernel
theorem dX3_lookForRule_10 : decode cX3_lookForRule 10 = .ok (.bipush (-4), 2) := by decide +kernel
theorem dX3_lookForRule_12 : decode cX3_lookForRule 12 = .ok (.if_icmp .eq 6, 3) := by decide +kernel
theorem dX3_lookForRule_15 : decode cX3_lookForRule 15 = .ok (.iload 4, 2) := by decide +kernel
theorem dX3_lookForRule_17 : decode cX3_lookForRule 17 = .ok (.ireturn, 1) := by decide +kernel
theorem dX3_lookForRule_18 : decode cX3_lookForRule 18 = .ok (.aload_n 0, 1) := by decide +kernel
theorem dX3_lookForRule_19 : decode cX3_lookForRule 19 = .ok (.getfield 12, 3) := by decide +kernel
theorem dX3_lookForRule_22 : decode cX3_lookForRule 22 = .ok (.invokevirtual 112, 3) := by decide +kernel
theorem dX3_lookForRule_25 : decode cX3_lookForRule 25 = .ok (.ifCond .eq 6, 3) := by decide +kernel
theorem dX3_lookForRule_28 : decode cX3_lookForRule 28 = .ok (.bipush (-2), 2) := by decide +kernel
theorem dX3_lookForRule_30 : decode cX3_lookForRule 30 = .ok (.ireturn, 1) := by decide +kernel
theorem dX3_lookForRule_31 : decode cX3_lookForRule 31 = .ok (.aload_n 0, 1) := by decide +kernel
theorem dX3_lookForRule_32 : decode cX3_lookForRule 32 = .ok (.getfield 35, 3) := by decide +kernel
theorem dX3_lookForRule_35 : decode cX3_lookForRule 35 = .ok (.getfield 116, 3) := by decide +kernel
theorem dX3_lookForRule_38 : decode cX3_lookForRule 38 = .ok (.iload_n 1, 1) := by decide +kernel
theorem dX3_lookForRule_39 : decode cX3_lookForRule 39 = .ok (.iaload, 1) := by decide +kernel
theorem dX3_lookForRule_40 : decode cX3_lookForRule 40 = .ok (.istore 5, 2) := by decide +kernel
theorem dX3_lookForRule_42 : decode cX3_lookForRule 42 = .ok (.aload_n 0, 1) := by decide +kernel
theorem dX3_lookForRule_43 : decode cX3_lookForRule 43 = .ok (.getfield 12, 3) := by decide +kernel
theorem dX3_lookForRule_46 : decode cX3_lookForRule 46 = .ok (.iload_n 1, 1) := by decide +kernel
theorem dX3_lookForRule_47 : decode cX3_lookForRule 47 = .ok (.iload_n 2, 1) := by decide +kernel
theorem dX3_lookForRule_48 : decode cX3_lookForRule 48 = .ok (.invokevirtual 119, 3) := by decide +kernel
theorem dX3_lookForRule_51 : decode cX3_lookForRule 51 = .ok (.istore 6, 2) := by decide +kernel
theorem dX3_lookForRule_53 : decode cX3_lookForRule 53 = .ok (.aload_n 0, 1) := by decide +kernel
theorem dX3_lookForRule_54 : decode cX3_lookForRule 54 = .ok (.iload 5, 2) := by decide +kernel
theorem dX3_lookForRule_56 : decode cX3_lookForRule 56 = .ok (.iload_n 2, 1) := by decide +kernel
theorem dX3_lookForRule_57 : decode cX3_lookForRule 57 = .ok (.iload_n 3, 1) := by decide +kernel
theorem dX3_lookForRule_58 : decode cX3_lookForRule 58 = .ok (.iconst 1, 1) := by decide +kernel
theorem dX3_lookForRule_59 : decode cX3_lookForRule 59 = .ok (.iadd, 1) := by decide +kernel
theorem dX3_lookForRule_60 : decode cX3_lookForRule 60 = .ok (.invokevirtual 106, 3) := by decide +kernel
theorem dX3_lookForRule_63 : decode cX3_lookForRule 63 = .ok (.istore 7, 2) := by decide +kernel
theorem dX3_lookForRule_65 : decode cX3_lookForRule 65 = .ok (.aload_n 0, 1) := by decide +kernel
theorem dX3_lookForRule_66 : decode cX3_lookForRule 66 = .ok (.getfield 12, 3) := by decide +kernel
theorem dX3_lookForRule_69 : decode cX3_lookForRule 69 = .ok (.getfield 122, 3) := by decide +kernel
theorem dX3_lookForRule_72 : decode cX3_lookForRule 72 = .ok (.iload 6, 2) := by decide +kernel
theorem dX3_lookForRule_74 : decode cX3_lookForRule 74 = .ok (.baload, 1) := by decide +kernel
theorem dX3_lookForRule_75 : decode cX3_lookForRule 75 = .ok (.ifCond .eq 92, 3) := by decide +kernel
theorem dX3_lookForRule_78 : decode cX3_lookForRule 78 = .ok (.iconst 0, 1) := by decide +kernel
theorem dX3_lookForRule_79 : decode cX3_lookForRule 79 = .ok (.istore 8, 2) := by decide +kernel
theorem dX3_lookForRule_81 : decode cX3_lookForRule 81 = .ok (.iload 8, 2) := by decide +kernel
theorem dX3_lookForRule_83 : decode cX3_lookForRule 83 = .ok (.bipush 40, 2) := by decide +kernel
theorem dX3_lookForRule_85 : decode cX3_lookForRule 85 = .ok (.if_icmp .gt 58, 3) := by decide +kernel
theorem dX3_lookForRule_88 : decode cX3_lookForRule 88 = .ok (.iload 7, 2) := by decide +kernel
theorem dX3_lookForRule_90 : decode cX3_lookForRule 90 = .ok (.aload_n 0, 1) := by decide +kernel
theorem dX3_lookForRule_91 : decode cX3_lookForRule 91 = .ok (.getfield 12, 3) := by decide +kernel
theorem dX3_lookForRule_94 : decode cX3_lookForRule 94 = .ok (.getfield 126, 3) := by decide +kernel
theorem dX3_lookForRule_97 : decode cX3_lookForRule 97 = .ok (.iload 6, 2) := by decide +kernel
theorem dX3_lookForRule_99 : decode cX3_lookForRule 99 = .ok (.iaload, 1) := by decide +kernel
theorem dX3_lookForRule_100 : decode cX3_lookForRule 100 = .ok (.if_icmp .le 43, 3) := by decide +kernel
theorem dX3_lookForRule_103 : decode cX3_lookForRule 103 = .ok (.aload_n 0, 1) := by decide +kernel
theorem dX3_lookForRule_104 : decode cX3_lookForRule 104 = .ok (.getfield 12, 3) := by decide +kernel
theorem dX3_lookForRule_107 : decode cX3_lookForRule 107 = .ok (.getfield 126, 3) := by decide +kernel
theorem dX3_lookForRule_110 : decode cX3_lookForRule 110 = .ok (.iload 6, 2) := by decide +kernel
theorem dX3_lookForRule_112 : decode cX3_lookForRule 112 = .ok (.iload 7, 2) := by decide +kernel
theorem dX3_lookForRule_114 : decode cX3_lookForRule 114 = .ok (.iastore, 1) := by decide +kernel
theorem dX3_lookForRule_115 : decode cX3_lookForRule 115 = .ok (.aload_n 0, 1) := by decide +kernel
theorem dX3_lookForRule_116 : decode cX3_lookForRule 116 = .ok (.dup, 1) := by decide +kernel
theorem dX3_lookForRule_117 : decode cX3_lookForRule 117 = .ok (.getfield 25, 3) := by decide +kernel
theorem dX3_lookForRule_120 : decode cX3_lookForRule 120 = .ok (.iconst 1, 1) := by decide +kernel
theorem dX3_lookForRule_121 : decode cX3_lookForRule 121 = .ok (.iadd, 1) := by decide +kernel
theorem dX3_lookForRule_122 : decode cX3_lookForRule 122 = .ok (.putfield 25, 3) := by decide +kernel
theorem dX3_lookForRule_125 : decode cX3_lookForRule 125 = .ok (.aload_n 0, 1) := by decide +kernel
theorem dX3_lookForRule_126 : decode cX3_lookForRule 126 = .ok (.iload 5, 2) := by decide +kernel
theorem dX3_lookForRule_128 : decode cX3_lookForRule 128 = .ok (.iload_n 2, 1) := by decide +kernel
theorem dX3_lookForRule_129 : decode cX3_lookForRule 129 = .ok (.iload_n 3, 1) := by decide +kernel
theorem dX3_lookForRule_130 : decode cX3_lookForRule 130 = .ok (.iconst 1, 1) := by decide +kernel
theorem dX3_lookForRule_131 : decode cX3_lookForRule 131 = .ok (.iadd, 1) := by decide +kernel
theorem dX3_lookForRule_132 : decode cX3_lookForRule 132 = .ok (.invokevirtual 106, 3) := by decide +kernel
theorem dX3_lookForRule_135 : decode cX3_lookForRule 135 = .ok (.istore 7, 2) := by decide +kernel
theorem dX3_lookForRule_137 : decode cX3_lookForRule 137 = .ok (.iinc 8 1, 3) := by decide +kernel
theorem dX3_lookForRule_140 : decode cX3_lookForRule 140 = .ok (.goto (-59), 3) := by decide +kernel
theorem dX3_lookForRule_143 : decode cX3_lookForRule 143 = .ok (.iload 7, 2) := by decide +kernel
theorem dX3_lookForRule_145 : decode cX3_lookForRule 145 = .ok (.bipush (-2), 2) := by decide +kernel
theorem dX3_lookForRule_147 : decode cX3_lookForRule 147 = .ok (.if_icmp .ne 8, 3) := by decide +kernel
theorem dX3_lookForRule_150 : decode cX3_lookForRule 150 = .ok (.bipush (-2), 2) := by decide +kernel
theorem dX3_lookForRule_152 : decode cX3_lookForRule 152 = .ok (.goto 13, 3) := by decide +kernel
theorem dX3_lookForRule_155 : decode cX3_lookForRule 155 = .ok (.aload_n 0, 1) := by decide +kernel
theorem dX3_lookForRule_156 : decode cX3_lookForRule 156 = .ok (.getfield 12, 3) := by decide +kernel
theorem dX3_lookForRule_159 : decode cX3_lookForRule 159 = .ok (.getfield 126, 3) := by decide +kernel
theorem dX3_lookForRule_162 : decode cX3_lookForRule 162 = .ok (.iload 6, 2) := by decide +kernel
theorem dX3_lookForRule_164 : decode cX3_lookForRule 164 = .ok (.iaload, 1) := by decide +kernel
theorem dX3_lookForRule_165 : decode cX3_lookForRule 165 = .ok (.istore 7, 2) := by decide +kernel
theorem dX3_lookForRule_167 : decode cX3_lookForRule 167 = .ok (.aload_n 0, 1) := by decide +kernel
theorem dX3_lookForRule_168 : decode cX3_lookForRule 168 = .ok (.iload 6, 2) := by decide +kernel
theorem dX3_lookForRule_170 : decode cX3_lookForRule 170 = .ok (.iload 7, 2) := by decide +kernel
theorem dX3_lookForRule_172 : decode cX3_lookForRule 172 = .ok (.invokevirtual 129, 3) := by decide +kernel
theorem dX3_lookForRule_175 : decode cX3_lookForRule 175 = .ok (.aload_n 0, 1) := by decide +kernel
theorem dX3_lookForRule_176 : decode cX3_lookForRule 176 = .ok (.iconst 0, 1) := by decide +kernel
theorem dX3_lookForRule_177 : decode cX3_lookForRule 177 = .ok (.putfield 31, 3) := by decide +kernel
theorem dX3_lookForRule_180 : decode cX3_lookForRule 180 = .ok (.iload 7, 2) := by decide +kernel
theorem dX3_lookForRule_182 : decode cX3_lookForRule 182 = .ok (.ireturn, 1) := by decide +kernel
set_option maxRecDepth 20000 in
theorem ggX3_knownResult_X0_has : GoodIn wsX3_knownResult wsX0_has := goodIn_r _ [9, 10, 65, 66, 67, 68, 69, 70, 71, 72] (by decide +kernel) (by decide +kernel)
set_option maxRecDepth 20000 in
theorem gX3_knownResult_X0_has : GoodIn wsX3_knownResult (wsV RX3 133 RX0 yX0_has wsX0_has) := goodIn_app (goodIn_of _ (by decide +kernel)) ggX3_knownResult_X0_has
set_option maxRecDepth 20000 in
theorem ggX3_knownResult_X5_cell : GoodIn wsX3_knownResult wsX5_cell := goodIn_r _ [13] (by decide +kernel) (by decide +kernel)
set_option maxRecDepth 20000 in
theorem gX3_knownResult_X5_cell_n137 : GoodIn wsX3_knownResult (wsX5_cell) := ggX3_knownResult_X5_cell
set_option maxRecDepth 20000 in
theorem ggX3_knownResult_X1_holds : GoodIn wsX3_knownResult wsX1_holds := goodIn_r _ [18, 19, 73, 74, 75] (by decide +kernel) (by decide +kernel)
set_option maxRecDepth 20000 in
theorem gX3_knownResult_X1_holds : GoodIn wsX3_knownResult (wsV RX3 140 RX1 yX1_holds wsX1_holds) := goodIn_app (goodIn_of _ (by decide +kernel)) ggX3_knownResult_X1_holds
set_option maxRecDepth 20000 in
theorem ggX3_knownResult_X2_hasOneOf : GoodIn wsX3_knownResult wsX2_hasOneOf := goodIn_r _ [24, 25, 76, 77, 78, 79, 80, 81, 82, 83, 84, 85] (by decide +kernel) (by decide +kernel)
set_option maxRecDepth 20000 in
theorem gX3_knownResult_X2_hasOneOf : GoodIn wsX3_knownResult (wsV RX3 146 RX2 yX2_hasOneOf wsX2_hasOneOf) := goodIn_app (goodIn_of _ (by decide +kernel)) ggX3_knownResult_X2_hasOneOf
set_option maxRecDepth 20000 in
theorem ggX3_knownResult_X2_countLook : GoodIn wsX3_knownResult wsX2_countLook := goodIn_r _ [29, 30, 31, 32, 33, 34, 35, 76, 77, 78, 79, 80, 81, 82, 83, 84, 85] (by decide +kernel) (by decide +kernel)
set_option maxRecDepth 20000 in
theorem gX3_knownResult_X2_countLook : GoodIn wsX3_knownResult (wsV RX3 90 RX2 yX2_countLook wsX2_countLook) := goodIn_app (goodIn_of _ (by decide +kernel)) ggX3_knownResult_X2_countLook
set_option maxRecDepth 20000 in
theorem ggX3_knownResult_X2_countNames : GoodIn wsX3_knownResult wsX2_countNames := goodIn_r _ [39, 30, 40, 41, 76, 77, 78, 79, 80, 81, 82, 83, 84, 85] (by decide +kernel) (by decide +kernel)
set_option maxRecDepth 20000 in
theorem gX3_knownResult_X2_countNames : GoodIn wsX3_knownResult (wsV RX3 153 RX2 yX2_countNames wsX2_countNames) := goodIn_app (goodIn_of _ (by decide +kernel)) ggX3_knownResult_X2_countNames
set_option maxRecDepth 20000 in
theorem ggX3_knownResult_X2_askSeed : GoodIn wsX3_knownResult wsX2_askSeed := goodIn_r _ [45, 46, 47, 48, 49, 50, 23, 51, 30, 52, 53, 54, 34, 55, 76, 77, 78, 79, 80, 81, 82, 83, 84, 85] (by decide +kernel) (by decide +kernel)
set_option maxRecDepth 20000 in
theorem gX3_knownResult_X2_askSeed : GoodIn wsX3_knownResult (wsV RX3 162 RX2 yX2_askSeed wsX2_askSeed) := goodIn_app (goodIn_of _ (by decide +kernel)) ggX3_knownResult_X2_askSeed
theorem dX3_knownResult_0 : decode cX3_knownResult 0 = .ok (.aload_n 0, 1) := by decide +kernel
theorem dX3_knownResult_1 : decode cX3_knownResult 1 = .ok (.getfield 35, 3) := by decide +kernel
theorem dX3_knownResult_4 : decode cX3_knownResult 4 = .ok (.aload_n 0, 1) := by decide +kernel
theorem dX3_knownResult_5 : decode cX3_knownResult 5 = .ok (.getfield 35, 3) := by decide +kernel
theorem dX3_knownResult_8 : decode cX3_knownResult 8 = .ok (.getfield 116, 3) := by decide +kernel
theorem dX3_knownResult_11 : decode cX3_knownResult 11 = .ok (.iload_n 1, 1) := by decide +kernel
theorem dX3_knownResult_12 : decode cX3_knownResult 12 = .ok (.iaload, 1) := by decide +kernel
theorem dX3_knownResult_13 : decode cX3_knownResult 13 = .ok (.invokevirtual 133, 3) := by decide +kernel
theorem dX3_knownResult_16 : decode cX3_knownResult 16 = .ok (.ifCond .ne 5, 3) := by decide +kernel
theorem dX3_knownResult_19 : decode cX3_knownResult 19 = .ok (.iconst (-1), 1) := by decide +kernel
theorem dX3_knownResult_20 : decode cX3_knownResult 20 = .ok (.ireturn, 1) := by decide +kernel
theorem dX3_knownResult_21 : decode cX3_knownResult 21 = .ok (.iload_n 1, 1) := by decide +kernel
theorem dX3_knownResult_22 : decode cX3_knownResult 22 = .ok (.iload_n 2, 1) := by decide +kernel
theorem dX3_knownResult_23 : decode cX3_knownResult 23 = .ok (.invokestatic 137, 3) := by decide +kernel
theorem dX3_knownResult_26 : decode cX3_knownResult 26 = .ok (.istore_n 3, 1) := by decide +kernel
theorem dX3_knownResult_27 : decode cX3_knownResult 27 = .ok (.aload_n 0, 1) := by decide +kernel
theorem dX3_knownResult_28 : decode cX3_knownResult 28 = .ok (.getfield 43, 3) := by decide +kernel
theorem dX3_knownResult_31 : decode cX3_knownResult 31 = .ok (.iload_n 3, 1) := by decide +kernel
theorem dX3_knownResult_32 : decode cX3_knownResult 32 = .ok (.invokevirtual 140, 3) := by decide +kernel
theorem dX3_knownResult_35 : decode cX3_knownResult 35 = .ok (.ifCond .eq 76, 3) := by decide +kernel
theorem dX3_knownResult_38 : decode cX3_knownResult 38 = .ok (.aload_n 0, 1) := by decide +kernel
theorem dX3_knownResult_39 : decode cX3_knownResult 39 = .ok (.getfield 12, 3) := by decide +kernel
theorem dX3_knownResult_42 : decode cX3_knownResult 42 = .ok (.aload_n 0, 1) := by decide +kernel
theorem dX3_knownResult_43 : decode cX3_knownResult 43 = .ok (.getfield 43, 3) := by decide +kernel
theorem dX3_knownResult_46 : decode cX3_knownResult 46 = .ok (.getfield 143, 3) := by decide +kernel
theorem dX3_knownResult_49 : decode cX3_knownResult 49 = .ok (.iload_n 3, 1) := by decide +kernel
theorem dX3_knownResult_50 : decode cX3_knownResult 50 = .ok (.iaload, 1) := by decide +kernel
theorem dX3_knownResult_51 : decode cX3_knownResult 51 = .ok (.iload_n 2, 1) := by decide +kernel
theorem dX3_knownResult_52 : decode cX3_knownResult 52 = .ok (.invokevirtual 146, 3) := by decide +kernel
theorem dX3_knownResult_55 : decode cX3_knownResult 55 = .ok (.ifCond .ne 56, 3) := by decide +kernel
theorem dX3_knownResult_58 : decode cX3_knownResult 58 = .ok (.aload_n 0, 1) := by decide +kernel
theorem dX3_knownResult_59 : decode cX3_knownResult 59 = .ok (.dup, 1) := by decide +kernel
theorem dX3_knownResult_60 : decode cX3_knownResult 60 = .ok (.getfield 22, 3) := by decide +kernel
theorem dX3_knownResult_63 : decode cX3_knownResult 63 = .ok (.iconst 1, 1) := by decide +kernel
theorem dX3_knownResult_64 : decode cX3_knownResult 64 = .ok (.iadd, 1) := by decide +kernel
theorem dX3_knownResult_65 : decode cX3_knownResult 65 = .ok (.putfield 22, 3) := by decide +kernel
theorem dX3_knownResult_68 : decode cX3_knownResult 68 = .ok (.aload_n 0, 1) := by decide +kernel
theorem dX3_knownResult_69 : decode cX3_knownResult 69 = .ok (.getfield 12, 3) := by decide +kernel
theorem dX3_knownResult_72 : decode cX3_knownResult 72 = .ok (.aload_n 0, 1) := by decide +kernel
theorem dX3_knownResult_73 : decode cX3_knownResult 73 = .ok (.getfield 43, 3) := by decide +kernel
theorem dX3_knownResult_76 : decode cX3_knownResult 76 = .ok (.getfield 150, 3) := by decide +kernel
theorem dX3_knownResult_79 : decode cX3_knownResult 79 = .ok (.iload_n 3, 1) := by decide +kernel
theorem dX3_knownResult_80 : decode cX3_knownResult 80 = .ok (.iaload, 1) := by decide +kernel
theorem dX3_knownResult_81 : decode cX3_knownResult 81 = .ok (.invokevirtual 90, 3) := by decide +kernel
theorem dX3_knownResult_84 : decode cX3_knownResult 84 = .ok (.aload_n 0, 1) := by decide +kernel
theorem dX3_knownResult_85 : decode cX3_knownResult 85 = .ok (.getfield 12, 3) := by decide +kernel
theorem dX3_knownResult_88 : decode cX3_knownResult 88 = .ok (.aload_n 0, 1) := by decide +kernel
theorem dX3_knownResult_89 : decode cX3_knownResult 89 = .ok (.getfield 43, 3) := by decide +kernel
theorem dX3_knownResult_92 : decode cX3_knownResult 92 = .ok (.getfield 143, 3) := by decide +kernel
theorem dX3_knownResult_95 : decode cX3_knownResult 95 = .ok (.iload_n 3, 1) := by decide +kernel
theorem dX3_knownResult_96 : decode cX3_knownResult 96 = .ok (.iaload, 1) := by decide +kernel
theorem dX3_knownResult_97 : decode cX3_knownResult 97 = .ok (.iload_n 2, 1) := by decide +kernel
theorem dX3_knownResult_98 : decode cX3_knownResult 98 = .ok (.invokevirtual 153, 3) := by decide +kernel
theorem dX3_knownResult_101 : decode cX3_knownResult 101 = .ok (.aload_n 0, 1) := by decide +kernel
theorem dX3_knownResult_102 : decode cX3_knownResult 102 = .ok (.getfield 43, 3) := by decide +kernel
theorem dX3_knownResult_105 : decode cX3_knownResult 105 = .ok (.getfield 156, 3) := by decide +kernel
theorem dX3_knownResult_108 : decode cX3_knownResult 108 = .ok (.iload_n 3, 1) := by decide +kernel
theorem dX3_knownResult_109 : decode cX3_knownResult 109 = .ok (.iaload, 1) := by decide +kernel
theorem dX3_knownResult_110 : decode cX3_knownResult 110 = .ok (.ireturn, 1) := by decide +kernel
theorem dX3_knownResult_111 : decode cX3_knownResult 111 = .ok (.aload_n 0, 1) := by decide +kernel
theorem dX3_knownResult_112 : decode cX3_knownResult 112 = .ok (.getfield 12, 3) := by decide +kernel
theorem dX3_knownResult_115 : decode cX3_knownResult 115 = .ok (.getfield 159, 3) := by decide +kernel
theorem dX3_knownResult_118 : decode cX3_knownResult 118 = .ok (.iload_n 3, 1) := by decide +kernel
theorem dX3_knownResult_119 : decode cX3_knownResult 119 = .ok (.iaload, 1) := by decide +kernel
theorem dX3_knownResult_120 : decode cX3_knownResult 120 = .ok (.istore 4, 2) := by decide +kernel
theorem dX3_knownResult_122 : decode cX3_knownResult 122 = .ok (.iload 4, 2) := by decide +kernel
theorem dX3_knownResult_124 : decode cX3_knownResult 124 = .ok (.iconst (-1), 1) := by decide +kernel
theorem dX3_knownResult_125 : decode cX3_knownResult 125 = .ok (.if_icmp .ne 8, 3) := by decide +kernel
theorem dX3_knownResult_128 : decode cX3_knownResult 128 = .ok (.bipush (-4), 2) := by decide +kernel
theorem dX3_knownResult_130 : decode cX3_knownResult 130 = .ok (.goto 12, 3) := by decide +kernel
theorem dX3_knownResult_133 : decode cX3_knownResult 133 = .ok (.aload_n 0, 1) := by decide +kernel
theorem dX3_knownResult_134 : decode cX3_knownResult 134 = .ok (.getfield 12, 3) := by decide +kernel
theorem dX3_knownResult_137 : decode cX3_knownResult 137 = .ok (.iload 4, 2) := by decide +kernel
theorem dX3_knownResult_139 : decode cX3_knownResult 139 = .ok (.invokevirtual 162, 3) := by decide +kernel
theorem dX3_knownResult_142 : decode cX3_knownResult 142 = .ok (.ireturn, 1) := by decide +kernel
set_option maxRecDepth 20000 in
theorem ggX3_finish_X2_askedEarlierOne : GoodIn wsX3_finish wsX2_askedEarlierOne := goodIn_r _ [7, 8, 61, 62, 63, 64, 65, 66, 67, 68, 69, 70] (by decide +kernel) (by decide +kernel)
set_option maxRecDepth 20000 in
theorem gX3_finish_X2_askedEarlierOne : GoodIn wsX3_finish (wsV RX3 165 RX2 yX2_askedEarlierOne wsX2_askedEarlierOne) := goodIn_app (goodIn_of _ (by decide +kernel)) ggX3_finish_X2_askedEarlierOne
set_option maxRecDepth 20000 in
theorem ggX3_finish_X5_cell : GoodIn wsX3_finish wsX5_cell := goodIn_r _ [11] (by decide +kernel) (by decide +kernel)
set_option maxRecDepth 20000 in
theorem gX3_finish_X5_cell_n137 : GoodIn wsX3_finish (wsX5_cell) := ggX3_finish_X5_cell
set_option maxRecDepth 20000 in
theorem ggX3_finish_X1_put : GoodIn wsX3_finish wsX1_put := goodIn_r _ [16, 17, 18, 19, 71, 72, 73] (by decide +kernel) (by decide +kernel)
set_option maxRecDepth 20000 in
theorem gX3_finish_X1_put : GoodIn wsX3_finish (wsV RX3 176 RX1 yX1_put wsX1_put) := goodIn_app (goodIn_of _ (by decide +kernel)) ggX3_finish_X1_put
set_option maxRecDepth 20000 in
theorem ggX3_finish_X2_end : GoodIn wsX3_finish wsX2_end := goodIn_r _ [23, 24, 25, 26, 27, 28, 29, 30, 8, 9, 10, 11, 31, 32, 33, 34, 35, 6, 36, 37, 38, 39, 40, 41, 42, 43, 44, 45, 46, 47, 48, 49, 50, 51, 61, 62, 63, 64, 65, 66, 67, 68, 69, 70] (by decide +kernel) (by decide +kernel)
set_option maxRecDepth 20000 in
theorem gX3_finish_X2_end : GoodIn wsX3_finish (wsV RX3 180 RX2 yX2_end wsX2_end) := goodIn_app (goodIn_of _ (by decide +kernel)) ggX3_finish_X2_end
theorem dX3_finish_0 : decode cX3_finish 0 = .ok (.iload_n 2, 1) := by decide +kernel
theorem dX3_finish_1 : decode cX3_finish 1 = .ok (.bipush (-2), 2) := by decide +kernel
theorem dX3_finish_3 : decode cX3_finish 3 = .ok (.if_icmp .eq 63, 3) := by decide +kernel
theorem dX3_finish_6 : decode cX3_finish 6 = .ok (.aload_n 0, 1) := by decide +kernel
theorem dX3_finish_7 : decode cX3_finish 7 = .ok (.getfield 12, 3) := by decide +kernel
theorem dX3_finish_10 : decode cX3_finish 10 = .ok (.iload_n 1, 1) := by decide +kernel
theorem dX3_finish_11 : decode cX3_finish 11 = .ok (.invokevirtual 165, 3) := by decide +kernel
theorem dX3_finish_14 : decode cX3_finish 14 = .ok (.ifCond .ne 52, 3) := by decide +kernel
theorem dX3_finish_17 : decode cX3_finish 17 = .ok (.aload_n 0, 1) := by decide +kernel
theorem dX3_finish_18 : decode cX3_finish 18 = .ok (.getfield 12, 3) := by decide +kernel
theorem dX3_finish_21 : decode cX3_finish 21 = .ok (.getfield 168, 3) := by decide +kernel
theorem dX3_finish_24 : decode cX3_finish 24 = .ok (.iload_n 1, 1) := by decide +kernel
theorem dX3_finish_25 : decode cX3_finish 25 = .ok (.iaload, 1) := by decide +kernel
theorem dX3_finish_26 : decode cX3_finish 26 = .ok (.aload_n 0, 1) := by decide +kernel
theorem dX3_finish_27 : decode cX3_finish 27 = .ok (.getfield 12, 3) := by decide +kernel
theorem dX3_finish_30 : decode cX3_finish 30 = .ok (.getfield 171, 3) := by decide +kernel
theorem dX3_finish_33 : decode cX3_finish 33 = .ok (.iload_n 1, 1) := by decide +kernel
theorem dX3_finish_34 : decode cX3_finish 34 = .ok (.iaload, 1) := by decide +kernel
theorem dX3_finish_35 : decode cX3_finish 35 = .ok (.invokestatic 137, 3) := by decide +kernel
theorem dX3_finish_38 : decode cX3_finish 38 = .ok (.istore_n 3, 1) := by decide +kernel
theorem dX3_finish_39 : decode cX3_finish 39 = .ok (.aload_n 0, 1) := by decide +kernel
theorem dX3_finish_40 : decode cX3_finish 40 = .ok (.getfield 43, 3) := by decide +kernel
theorem dX3_finish_43 : decode cX3_finish 43 = .ok (.iload_n 3, 1) := by decide +kernel
theorem dX3_finish_44 : decode cX3_finish 44 = .ok (.iload_n 2, 1) := by decide +kernel
theorem dX3_finish_45 : decode cX3_finish 45 = .ok (.aload_n 0, 1) := by decide +kernel
theorem dX3_finish_46 : decode cX3_finish 46 = .ok (.getfield 12, 3) := by decide +kernel
theorem dX3_finish_49 : decode cX3_finish 49 = .ok (.getfield 174, 3) := by decide +kernel
theorem dX3_finish_52 : decode cX3_finish 52 = .ok (.iload_n 1, 1) := by decide +kernel
theorem dX3_finish_53 : decode cX3_finish 53 = .ok (.iaload, 1) := by decide +kernel
theorem dX3_finish_54 : decode cX3_finish 54 = .ok (.aload_n 0, 1) := by decide +kernel
theorem dX3_finish_55 : decode cX3_finish 55 = .ok (.getfield 12, 3) := by decide +kernel
theorem dX3_finish_58 : decode cX3_finish 58 = .ok (.getfield 175, 3) := by decide +kernel
theorem dX3_finish_61 : decode cX3_finish 61 = .ok (.iload_n 1, 1) := by decide +kernel
theorem dX3_finish_62 : decode cX3_finish 62 = .ok (.iaload, 1) := by decide +kernel
theorem dX3_finish_63 : decode cX3_finish 63 = .ok (.invokevirtual 176, 3) := by decide +kernel
theorem dX3_finish_66 : decode cX3_finish 66 = .ok (.aload_n 0, 1) := by decide +kernel
theorem dX3_finish_67 : decode cX3_finish 67 = .ok (.getfield 12, 3) := by decide +kernel
theorem dX3_finish_70 : decode cX3_finish 70 = .ok (.invokevirtual 180, 3) := by decide +kernel
theorem dX3_finish_73 : decode cX3_finish 73 = .ok (.return_, 1) := by decide +kernel
theorem dX4_init_0 : decode cX4_init 0 = .ok (.aload_n 0, 1) := by decide +kernel
theorem dX4_init_1 : decode cX4_init 1 = .ok (.invokespecial 3, 3) := by decide +kernel
theorem dX4_init_4 : decode cX4_init 4 = .ok (.aload_n 0, 1) := by decide +kernel
theorem dX4_init_5 : decode cX4_init 5 = .ok (.bipush 40, 2) := by decide +kernel
theorem dX4_init_7 : decode cX4_init 7 = .ok (.newarray .int, 2) := by decide +kernel
theorem dX4_init_9 : decode cX4_init 9 = .ok (.putfield 9, 3) := by decide +kernel
theorem dX4_init_12 : decode cX4_init 12 = .ok (.aload_n 0, 1) := by decide +kernel
theorem dX4_init_13 : decode cX4_init 13 = .ok (.iconst 0, 1) := by decide +kernel
theorem dX4_init_14 : decode cX4_init 14 = .ok (.putfield 15, 3) := by decide +kernel
theorem dX4_init_17 : decode cX4_init 17 = .ok (.return_, 1) := by decide +kernel
theorem dX4_hasByte_0 : decode cX4_hasByte 0 = .ok (.iload_n 1, 1) := by decide +kernel
theorem dX4_hasByte_1 : decode cX4_hasByte 1 = .ok (.ifCond .lt 15, 3) := by decide +kernel
theorem dX4_hasByte_4 : decode cX4_hasByte 4 = .ok (.iload_n 1, 1) := by decide +kernel
theorem dX4_hasByte_5 : decode cX4_hasByte 5 = .ok (.aload_n 0, 1) := by decide +kernel
theorem dX4_hasByte_6 : decode cX4_hasByte 6 = .ok (.getfield 15, 3) := by decide +kernel
theorem dX4_hasByte_9 : decode cX4_hasByte 9 = .ok (.if_icmp .ge 7, 3) := by decide +kernel
theorem dX4_hasByte_12 : decode cX4_hasByte 12 = .ok (.iconst 1, 1) := by decide +kernel
theorem dX4_hasByte_13 : decode cX4_hasByte 13 = .ok (.goto 4, 3) := by decide +kernel
theorem dX4_hasByte_16 : decode cX4_hasByte 16 = .ok (.iconst 0, 1) := by decide +kernel
theorem dX4_hasByte_17 : decode cX4_hasByte 17 = .ok (.ireturn, 1) := by decide +kernel
set_option maxRecDepth 20000 in
theorem ggX4_byteOrNone_X4_hasByte : GoodIn wsX4_byteOrNone wsX4_hasByte := goodIn_r _ [6, 7, 8, 9] (by decide +kernel) (by decide +kernel)
set_option maxRecDepth 20000 in
theorem gX4_byteOrNone_X4_hasByte : GoodIn wsX4_byteOrNone (wsV RX4 19 RX4 yX4_hasByte wsX4_hasByte) := goodIn_app (goodIn_of _ (by decide +kernel)) ggX4_byteOrNone_X4_hasByte
theorem dX4_byteOrNone_0 : decode cX4_byteOrNone 0 = .ok (.aload_n 0, 1) := by decide +kernel
theorem dX4_byteOrNone_1 : decode cX4_byteOrNone 1 = .ok (.iload_n 1, 1) := by decide +kernel
theorem dX4_byteOrNone_2 : decode cX4_byteOrNone 2 = .ok (.invokevirtual 19, 3) := by decide +kernel
theorem dX4_byteOrNone_5 : decode cX4_byteOrNone 5 = .ok (.ifCond .eq 12, 3) := by decide +kernel
theorem dX4_byteOrNone_8 : decode cX4_byteOrNone 8 = .ok (.aload_n 0, 1) := by decide +kernel
theorem dX4_byteOrNone_9 : decode cX4_byteOrNone 9 = .ok (.getfield 9, 3) := by decide +kernel
theorem dX4_byteOrNone_12 : decode cX4_byteOrNone 12 = .ok (.iload_n 1, 1) := by decide +kernel
theorem dX4_byteOrNone_13 : decode cX4_byteOrNone 13 = .ok (.iaload, 1) := by decide +kernel
theorem dX4_byteOrNone_14 : decode cX4_byteOrNone 14 = .ok (.goto 4, 3) := by decide +kernel
theorem dX4_byteOrNone_17 : decode cX4_byteOrNone 17 = .ok (.iconst (-1), 1) := by decide +kernel
theorem dX4_byteOrNone_18 : decode cX4_byteOrNone 18 = .ok (.ireturn, 1) := by decide +kernel
set_option maxRecDepth 20000 in
theorem ggX4_splice_X5_countBytes : GoodIn wsX4_splice wsX5_countBytes := goodIn_r _ [9, 10, 11, 8, 12] (by decide +kernel) (by decide +kernel)
set_option maxRecDepth 20000 in
theorem gX4_splice_X5_countBytes_n23 : GoodIn wsX4_splice (wsX5_countBytes) := ggX4_splice_X5_countBytes
set_option maxRecDepth 20000 in
theorem ggX4_splice_X5_packedByte : GoodIn wsX4_splice wsX5_packedByte := goodIn_r _ [12] (by decide +kernel) (by decide +kernel)
set_option maxRecDepth 20000 in
theorem gX4_splice_X5_packedByte_n33 : GoodIn wsX4_splice (wsX5_packedByte) := ggX4_splice_X5_packedByte
theorem dX4_splice_0 : decode cX4_splice 0 = .ok (.lload_n 3, 1) := by decide +kernel
theorem dX4_splice_1 : decode cX4_splice 1 = .ok (.invokestatic 23, 3) := by decide +kernel
theorem dX4_splice_4 : decode cX4_splice 4 = .ok (.istore 5, 2) := by decide +kernel
theorem dX4_splice_6 : decode cX4_splice 6 = .ok (.iload_n 1, 1) := by decide +kernel
theorem dX4_splice_7 : decode cX4_splice 7 = .ok (.iload_n 2, 1) := by decide +kernel
theorem dX4_splice_8 : decode cX4_splice 8 = .ok (.iadd, 1) := by decide +kernel
theorem dX4_splice_9 : decode cX4_splice 9 = .ok (.istore 6, 2) := by decide +kernel
theorem dX4_splice_11 : decode cX4_splice 11 = .ok (.aload_n 0, 1) := by decide +kernel
theorem dX4_splice_12 : decode cX4_splice 12 = .ok (.getfield 9, 3) := by decide +kernel
theorem dX4_splice_15 : decode cX4_splice 15 = .ok (.iload 6, 2) := by decide +kernel
theorem dX4_splice_17 : decode cX4_splice 17 = .ok (.aload_n 0, 1) := by decide +kernel
theorem dX4_splice_18 : decode cX4_splice 18 = .ok (.getfield 9, 3) := by decide +kernel
theorem dX4_splice_21 : decode cX4_splice 21 = .ok (.iload_n 1, 1) := by decide +kernel
theorem dX4_splice_22 : decode cX4_splice 22 = .ok (.iload 5, 2) := by decide +kernel
theorem dX4_splice_24 : decode cX4_splice 24 = .ok (.iadd, 1) := by decide +kernel
theorem dX4_splice_25 : decode cX4_splice 25 = .ok (.aload_n 0, 1) := by decide +kernel
theorem dX4_splice_26 : decode cX4_splice 26 = .ok (.getfield 15, 3) := by decide +kernel
theorem dX4_splice_29 : decode cX4_splice 29 = .ok (.iload 6, 2) := by decide +kernel
theorem dX4_splice_31 : decode cX4_splice 31 = .ok (.isub, 1) := by decide +kernel
theorem dX4_splice_32 : decode cX4_splice 32 = .ok (.invokestatic 27, 3) := by decide +kernel
theorem dX4_splice_35 : decode cX4_splice 35 = .ok (.iload_n 1, 1) := by decide +kernel
theorem dX4_splice_36 : decode cX4_splice 36 = .ok (.istore 7, 2) := by decide +kernel
theorem dX4_splice_38 : decode cX4_splice 38 = .ok (.iconst 0, 1) := by decide +kernel
theorem dX4_splice_39 : decode cX4_splice 39 = .ok (.istore 8, 2) := by decide +kernel
theorem dX4_splice_41 : decode cX4_splice 41 = .ok (.iload 8, 2) := by decide +kernel
theorem dX4_splice_43 : decode cX4_splice 43 = .ok (.bipush 8, 2) := by decide +kernel
theorem dX4_splice_45 : decode cX4_splice 45 = .ok (.if_icmp .ge 34, 3) := by decide +kernel
theorem dX4_splice_48 : decode cX4_splice 48 = .ok (.lload_n 3, 1) := by decide +kernel
theorem dX4_splice_49 : decode cX4_splice 49 = .ok (.iload 8, 2) := by decide +kernel
theorem dX4_splice_51 : decode cX4_splice 51 = .ok (.invokestatic 33, 3) := by decide +kernel
theorem dX4_splice_54 : decode cX4_splice 54 = .ok (.istore 9, 2) := by decide +kernel
theorem dX4_splice_56 : decode cX4_splice 56 = .ok (.iload 9, 2) := by decide +kernel
theorem dX4_splice_58 : decode cX4_splice 58 = .ok (.ifCond .eq 15, 3) := by decide +kernel
theorem dX4_splice_61 : decode cX4_splice 61 = .ok (.aload_n 0, 1) := by decide +kernel
theorem dX4_splice_62 : decode cX4_splice 62 = .ok (.getfield 9, 3) := by decide +kernel
theorem dX4_splice_65 : decode cX4_splice 65 = .ok (.iload 7, 2) := by decide +kernel
theorem dX4_splice_67 : decode cX4_splice 67 = .ok (.iload 9, 2) := by decide +kernel
theorem dX4_splice_69 : decode cX4_splice 69 = .ok (.iastore, 1) := by decide +kernel
theorem dX4_splice_70 : decode cX4_splice 70 = .ok (.iinc 7 1, 3) := by decide +kernel
theorem dX4_splice_73 : decode cX4_splice 73 = .ok (.iinc 8 1, 3) := by decide +kernel
theorem dX4_splice_76 : decode cX4_splice 76 = .ok (.goto (-35), 3) := by decide +kernel
theorem dX4_splice_79 : decode cX4_splice 79 = .ok (.aload_n 0, 1) := by decide +kernel
theorem dX4_splice_80 : decode cX4_splice 80 = .ok (.dup, 1) := by decide +kernel
theorem dX4_splice_81 : decode cX4_splice 81 = .ok (.getfield 15, 3) := by decide +kernel
theorem dX4_splice_84 : decode cX4_splice 84 = .ok (.iload 5, 2) := by decide +kernel
theorem dX4_splice_86 : decode cX4_splice 86 = .ok (.iload_n 2, 1) := by decide +kernel
theorem dX4_splice_87 : decode cX4_splice 87 = .ok (.isub, 1) := by decide +kernel
theorem dX4_splice_88 : decode cX4_splice 88 = .ok (.iadd, 1) := by decide +kernel
theorem dX4_splice_89 : decode cX4_splice 89 = .ok (.putfield 15, 3) := by decide +kernel
theorem dX4_splice_92 : decode cX4_splice 92 = .ok (.return_, 1) := by decide +kernel
set_option maxRecDepth 20000 in
theorem ggX4_addToDigest_X5_mix : GoodIn wsX4_addToDigest wsX5_mix := goodIn_r _ [5, 6] (by decide +kernel) (by decide +kernel)
set_option maxRecDepth 20000 in
theorem gX4_addToDigest_X5_mix_n37 : GoodIn wsX4_addToDigest (wsX5_mix) := ggX4_addToDigest_X5_mix
theorem dX4_addToDigest_0 : decode cX4_addToDigest 0 = .ok (.lload_n 1, 1) := by decide +kernel
theorem dX4_addToDigest_1 : decode cX4_addToDigest 1 = .ok (.aload_n 0, 1) := by decide +kernel
theorem dX4_addToDigest_2 : decode cX4_addToDigest 2 = .ok (.getfield 15, 3) := by decide +kernel
theorem dX4_addToDigest_5 : decode cX4_addToDigest 5 = .ok (.invokestatic 37, 3) := by decide +kernel
theorem dX4_addToDigest_8 : decode cX4_addToDigest 8 = .ok (.lstore_n 3, 1) := by decide +kernel
theorem dX4_addToDigest_9 : decode cX4_addToDigest 9 = .ok (.iconst 0, 1) := by decide +kernel
theorem dX4_addToDigest_10 : decode cX4_addToDigest 10 = .ok (.istore 5, 2) := by decide +kernel
theorem dX4_addToDigest_12 : decode cX4_addToDigest 12 = .ok (.iload 5, 2) := by decide +kernel
theorem dX4_addToDigest_14 : decode cX4_addToDigest 14 = .ok (.aload_n 0, 1) := by decide +kernel
theorem dX4_addToDigest_15 : decode cX4_addToDigest 15 = .ok (.getfield 15, 3) := by decide +kernel
theorem dX4_addToDigest_18 : decode cX4_addToDigest 18 = .ok (.if_icmp .ge 21, 3) := by decide +kernel
theorem dX4_addToDigest_21 : decode cX4_addToDigest 21 = .ok (.lload_n 3, 1) := by decide +kernel
theorem dX4_addToDigest_22 : decode cX4_addToDigest 22 = .ok (.aload_n 0, 1) := by decide +kernel
theorem dX4_addToDigest_23 : decode cX4_addToDigest 23 = .ok (.getfield 9, 3) := by decide +kernel
theorem dX4_addToDigest_26 : decode cX4_addToDigest 26 = .ok (.iload 5, 2) := by decide +kernel
theorem dX4_addToDigest_28 : decode cX4_addToDigest 28 = .ok (.iaload, 1) := by decide +kernel
theorem dX4_addToDigest_29 : decode cX4_addToDigest 29 = .ok (.invokestatic 37, 3) := by decide +kernel
theorem dX4_addToDigest_32 : decode cX4_addToDigest 32 = .ok (.lstore_n 3, 1) := by decide +kernel
theorem dX4_addToDigest_33 : decode cX4_addToDigest 33 = .ok (.iinc 5 1, 3) := by decide +kernel
theorem dX4_addToDigest_36 : decode cX4_addToDigest 36 = .ok (.goto (-24), 3) := by decide +kernel
theorem dX4_addToDigest_39 : decode cX4_addToDigest 39 = .ok (.lload_n 3, 1) := by decide +kernel
theorem dX4_addToDigest_40 : decode cX4_addToDigest 40 = .ok (.lreturn, 1) := by decide +kernel
set_option maxRecDepth 20000 in
theorem ggX5_init_X0_init : GoodIn wsX5_init wsX0_init := goodIn_r _ [22, 23, 2, 3, 24, 25, 26, 27, 28, 29, 30, 31, 32, 33, 34, 35, 36, 37, 82, 83, 84, 85, 86, 87, 88, 89] (by decide +kernel) (by decide +kernel)
set_option maxRecDepth 20000 in
theorem gX5_init_X0_init : GoodIn wsX5_init (wsX0_init) := ggX5_init_X0_init
set_option maxRecDepth 20000 in
theorem ggX5_init_X4_init : GoodIn wsX5_init wsX4_init := goodIn_r _ [39, 40, 2, 3, 24, 41, 42, 94, 95] (by decide +kernel) (by decide +kernel)
set_option maxRecDepth 20000 in
theorem gX5_init_X4_init_n18 : GoodIn wsX5_init (wsX4_init) := ggX5_init_X4_init
set_option maxRecDepth 20000 in
theorem ggX5_init_X1_init : GoodIn wsX5_init wsX1_init := goodIn_r _ [45, 46, 2, 3, 24, 47, 48, 49, 50, 35, 36, 37, 96, 97, 98] (by decide +kernel) (by decide +kernel)
set_option maxRecDepth 20000 in
theorem gX5_init_X1_init : GoodIn wsX5_init (wsX1_init) := ggX5_init_X1_init
set_option maxRecDepth 20000 in
theorem ggX5_init_X3_init : GoodIn wsX5_init wsX3_init := goodIn_r _ [53, 54, 2, 3, 55, 56, 57, 58, 59, 60, 61, 62, 63, 64, 65, 66, 67, 68, 69, 70, 24, 71, 72, 73, 30, 74, 75, 76, 77, 78, 79, 80, 81, 35, 36, 37, 108, 109, 110, 111, 112, 113, 114, 115, 116, 117, 99, 100, 101, 102, 103, 104, 105, 106, 107] (by decide +kernel) (by decide +kernel)
set_option maxRecDepth 20000 in
theorem gX5_init_X3_init : GoodIn wsX5_init (wsX3_init) := ggX5_init_X3_init
theorem dX5_init_0 : decode cX5_init 0 = .ok (.aload_n 0, 1) := by decide +kernel
theorem dX5_init_1 : decode cX5_init 1 = .ok (.invokespecial 3, 3) := by decide +kernel
theorem dX5_init_4 : decode cX5_init 4 = .ok (.aload_n 0, 1) := by decide +kernel
theorem dX5_init_5 : decode cX5_init 5 = .ok (.new 9, 3) := by decide +kernel
theorem dX5_init_8 : decode cX5_init 8 = .ok (.dup, 1) := by decide +kernel
theorem dX5_init_9 : decode cX5_init 9 = .ok (.invokespecial 11, 3) := by decide +kernel
theorem dX5_init_12 : decode cX5_init 12 = .ok (.putfield 12, 3) := by decide +kernel
theorem dX5_init_15 : decode cX5_init 15 = .ok (.aload_n 0, 1) := by decide +kernel
theorem dX5_init_16 : decode cX5_init 16 = .ok (.new 16, 3) := by decide +kernel
theorem dX5_init_19 : decode cX5_init 19 = .ok (.dup, 1) := by decide +kernel
theorem dX5_init_20 : decode cX5_init 20 = .ok (.invokespecial 18, 3) := by decide +kernel
theorem dX5_init_23 : decode cX5_init 23 = .ok (.putfield 19, 3) := by decide +kernel
theorem dX5_init_26 : decode cX5_init 26 = .ok (.aload_n 0, 1) := by decide +kernel
theorem dX5_init_27 : decode cX5_init 27 = .ok (.new 23, 3) := by decide +kernel
theorem dX5_init_30 : decode cX5_init 30 = .ok (.dup, 1) := by decide +kernel
theorem dX5_init_31 : decode cX5_init 31 = .ok (.invokespecial 25, 3) := by decide +kernel
theorem dX5_init_34 : decode cX5_init 34 = .ok (.putfield 26, 3) := by decide +kernel
theorem dX5_init_37 : decode cX5_init 37 = .ok (.aload_n 0, 1) := by decide +kernel
theorem dX5_init_38 : decode cX5_init 38 = .ok (.new 30, 3) := by decide +kernel
theorem dX5_init_41 : decode cX5_init 41 = .ok (.dup, 1) := by decide +kernel
theorem dX5_init_42 : decode cX5_init 42 = .ok (.aload_n 0, 1) := by decide +kernel
theorem dX5_init_43 : decode cX5_init 43 = .ok (.getfield 12, 3) := by decide +kernel
theorem dX5_init_46 : decode cX5_init 46 = .ok (.aload_n 0, 1) := by decide +kernel
theorem dX5_init_47 : decode cX5_init 47 = .ok (.getfield 19, 3) := by decide +kernel
theorem dX5_init_50 : decode cX5_init 50 = .ok (.aload_n 0, 1) := by decide +kernel
theorem dX5_init_51 : decode cX5_init 51 = .ok (.getfield 26, 3) := by decide +kernel
theorem dX5_init_54 : decode cX5_init 54 = .ok (.invokespecial 32, 3) := by decide +kernel
theorem dX5_init_57 : decode cX5_init 57 = .ok (.putfield 35, 3) := by decide +kernel
theorem dX5_init_60 : decode cX5_init 60 = .ok (.return_, 1) := by decide +kernel
set_option maxRecDepth 20000 in
theorem ggX5_plain_X5_refuseIfFull : GoodIn wsX5_plain wsX5_refuseIfFull := goodIn_ca (goodIn_r _ [8, 9, 10, 3, 11, 12, 13, 14, 15, 16, 24, 25, 26, 27, 28, 29, 30, 31, 32, 33, 34, 35] (by decide +kernel) (by decide +kernel)) (goodIn_sub (fun _ h => List.mem_cons_of_mem _ (List.mem_append_right _ h)) (by decide +kernel))
set_option maxRecDepth 20000 in
theorem gX5_plain_X5_refuseIfFull : GoodIn wsX5_plain (wsV RX5 46 RX5 yX5_refuseIfFull wsX5_refuseIfFull) := goodIn_app (goodIn_of _ (by decide +kernel)) ggX5_plain_X5_refuseIfFull
set_option maxRecDepth 20000 in
theorem ggX5_plain_X0_add : GoodIn wsX5_plain wsX0_add := goodIn_r _ [20, 16, 21, 22, 23, 28, 29, 30, 31, 32, 33, 34, 35] (by decide +kernel) (by decide +kernel)
set_option maxRecDepth 20000 in
theorem gX5_plain_X0_add : GoodIn wsX5_plain (wsV RX5 49 RX0 yX0_add wsX0_add) := goodIn_app (goodIn_of _ (by decide +kernel)) ggX5_plain_X0_add
theorem dX5_plain_0 : decode cX5_plain 0 = .ok (.iload_n 1, 1) := by decide +kernel
theorem dX5_plain_1 : decode cX5_plain 1 = .ok (.ifCond .eq 18, 3) := by decide +kernel
theorem dX5_plain_4 : decode cX5_plain 4 = .ok (.iload_n 1, 1) := by decide +kernel
theorem dX5_plain_5 : decode cX5_plain 5 = .ok (.iconst 1, 1) := by decide +kernel
theorem dX5_plain_6 : decode cX5_plain 6 = .ok (.if_icmp .eq 13, 3) := by decide +kernel
theorem dX5_plain_9 : decode cX5_plain 9 = .ok (.new 39, 3) := by decide +kernel
theorem dX5_plain_12 : decode cX5_plain 12 = .ok (.dup, 1) := by decide +kernel
theorem dX5_plain_13 : decode cX5_plain 13 = .ok (.ldc 41, 2) := by decide +kernel
theorem dX5_plain_15 : decode cX5_plain 15 = .ok (.invokespecial 43, 3) := by decide +kernel
theorem dX5_plain_18 : decode cX5_plain 18 = .ok (.athrow, 1) := by decide +kernel
theorem dX5_plain_19 : decode cX5_plain 19 = .ok (.aload_n 0, 1) := by decide +kernel
theorem dX5_plain_20 : decode cX5_plain 20 = .ok (.invokevirtual 46, 3) := by decide +kernel
theorem dX5_plain_23 : decode cX5_plain 23 = .ok (.aload_n 0, 1) := by decide +kernel
theorem dX5_plain_24 : decode cX5_plain 24 = .ok (.getfield 12, 3) := by decide +kernel
theorem dX5_plain_27 : decode cX5_plain 27 = .ok (.iload_n 1, 1) := by decide +kernel
theorem dX5_plain_28 : decode cX5_plain 28 = .ok (.iconst (-1), 1) := by decide +kernel
theorem dX5_plain_29 : decode cX5_plain 29 = .ok (.iconst (-1), 1) := by decide +kernel
theorem dX5_plain_30 : decode cX5_plain 30 = .ok (.invokevirtual 49, 3) := by decide +kernel
theorem dX5_plain_33 : decode cX5_plain 33 = .ok (.ireturn, 1) := by decide +kernel
set_option maxRecDepth 20000 in
theorem ggX5_range_X5_isByte : GoodIn wsX5_range wsX5_isByte := goodIn_r _ [7] (by decide +kernel) (by decide +kernel)
set_option maxRecDepth 20000 in
theorem gX5_range_X5_isByte : GoodIn wsX5_range (va_wsS RX5 53 yX5_isByte wsX5_isByte) := goodIn_app (goodIn_of _ (by decide +kernel)) ggX5_range_X5_isByte
set_option maxRecDepth 20000 in
theorem ggX5_range_X5_refuseIfFull : GoodIn wsX5_range wsX5_refuseIfFull := goodIn_ca (goodIn_r _ [11, 12, 13, 3, 14, 15, 16, 17, 18, 19, 27, 28, 29, 30, 31, 32, 33, 34, 35, 36, 37, 38] (by decide +kernel) (by decide +kernel)) (goodIn_sub (fun _ h => List.mem_cons_of_mem _ (List.mem_append_right _ h)) (by decide +kernel))
set_option maxRecDepth 20000 in
theorem gX5_range_X5_refuseIfFull : GoodIn wsX5_range (wsV RX5 46 RX5 yX5_refuseIfFull wsX5_refuseIfFull) := goodIn_app (goodIn_of _ (by decide +kernel)) ggX5_range_X5_refuseIfFull
set_option maxRecDepth 20000 in
theorem ggX5_range_X0_add : GoodIn wsX5_range wsX0_add := goodIn_r _ [23, 19, 24, 25, 26, 31, 32, 33, 34, 35, 36, 37, 38] (by decide +kernel) (by decide +kernel)
set_option maxRecDepth 20000 in
theorem gX5_range_X0_add : GoodIn wsX5_range (wsV RX5 49 RX0 yX0_add wsX0_add) := goodIn_app (goodIn_of _ (by decide +kernel)) ggX5_range_X0_add
theorem dX5_range_0 : decode cX5_range 0 = .ok (.iload_n 1, 1) := by decide +kernel
theorem dX5_range_1 : decode cX5_range 1 = .ok (.invokestatic 53, 3) := by decide +kernel
theorem dX5_range_4 : decode cX5_range 4 = .ok (.ifCond .eq 15, 3) := by decide +kernel
theorem dX5_range_7 : decode cX5_range 7 = .ok (.iload_n 2, 1) := by decide +kernel
theorem dX5_range_8 : decode cX5_range 8 = .ok (.invokestatic 53, 3) := by decide +kernel
theorem dX5_range_11 : decode cX5_range 11 = .ok (.ifCond .eq 8, 3) := by decide +kernel
theorem dX5_range_14 : decode cX5_range 14 = .ok (.iload_n 1, 1) := by decide +kernel
theorem dX5_range_15 : decode cX5_range 15 = .ok (.iload_n 2, 1) := by decide +kernel
theorem dX5_range_16 : decode cX5_range 16 = .ok (.if_icmp .le 13, 3) := by decide +kernel
theorem dX5_range_19 : decode cX5_range 19 = .ok (.new 39, 3) := by decide +kernel
theorem dX5_range_22 : decode cX5_range 22 = .ok (.dup, 1) := by decide +kernel
theorem dX5_range_23 : decode cX5_range 23 = .ok (.ldc 57, 2) := by decide +kernel
theorem dX5_range_25 : decode cX5_range 25 = .ok (.invokespecial 43, 3) := by decide +kernel
theorem dX5_range_28 : decode cX5_range 28 = .ok (.athrow, 1) := by decide +kernel
theorem dX5_range_29 : decode cX5_range 29 = .ok (.aload_n 0, 1) := by decide +kernel
theorem dX5_range_30 : decode cX5_range 30 = .ok (.invokevirtual 46, 3) := by decide +kernel
theorem dX5_range_33 : decode cX5_range 33 = .ok (.aload_n 0, 1) := by decide +kernel
theorem dX5_range_34 : decode cX5_range 34 = .ok (.getfield 12, 3) := by decide +kernel
theorem dX5_range_37 : decode cX5_range 37 = .ok (.iconst 2, 1) := by decide +kernel
theorem dX5_range_38 : decode cX5_range 38 = .ok (.iload_n 1, 1) := by decide +kernel
theorem dX5_range_39 : decode cX5_range 39 = .ok (.iload_n 2, 1) := by decide +kernel
theorem dX5_range_40 : decode cX5_range 40 = .ok (.invokevirtual 49, 3) := by decide +kernel
theorem dX5_range_43 : decode cX5_range 43 = .ok (.ireturn, 1) := by decide +kernel
set_option maxRecDepth 20000 in
theorem ggX5_rule_X5_refuseUnknownRule : GoodIn wsX5_rule wsX5_refuseUnknownRule := goodIn_ca (goodIn_r _ [5, 6, 7] (by decide +kernel) (by decide +kernel)) (goodIn_sub (fun _ h => List.mem_cons_of_mem _ (List.mem_append_left _ (List.mem_append_right _ h))) (by decide +kernel))
set_option maxRecDepth 20000 in
theorem gX5_rule_X5_refuseUnknownRule : GoodIn wsX5_rule (va_wsS RX5 59 yX5_refuseUnknownRule wsX5_refuseUnknownRule) := goodIn_app (goodIn_of _ (by decide +kernel)) ggX5_rule_X5_refuseUnknownRule
set_option maxRecDepth 20000 in
theorem ggX5_rule_X5_refuseIfFull : GoodIn wsX5_rule wsX5_refuseIfFull := goodIn_ca (goodIn_r _ [11, 12, 13, 1, 14, 15, 16, 17, 18, 19, 27, 28, 29, 30, 31, 32, 33, 34, 35, 36, 37, 38] (by decide +kernel) (by decide +kernel)) (goodIn_sub (fun _ h => List.mem_cons_of_mem _ (List.mem_append_right _ h)) (by decide +kernel))
set_option maxRecDepth 20000 in
theorem gX5_rule_X5_refuseIfFull : GoodIn wsX5_rule (wsV RX5 46 RX5 yX5_refuseIfFull wsX5_refuseIfFull) := goodIn_app (goodIn_of _ (by decide +kernel)) ggX5_rule_X5_refuseIfFull
set_option maxRecDepth 20000 in
theorem ggX5_rule_X0_add : GoodIn wsX5_rule wsX0_add := goodIn_r _ [23, 19, 24, 25, 26, 31, 32, 33, 34, 35, 36, 37, 38] (by decide +kernel) (by decide +kernel)
set_option maxRecDepth 20000 in
theorem gX5_rule_X0_add : GoodIn wsX5_rule (wsV RX5 49 RX0 yX0_add wsX0_add) := goodIn_app (goodIn_of _ (by decide +kernel)) ggX5_rule_X0_add
theorem dX5_rule_0 : decode cX5_rule 0 = .ok (.iload_n 1, 1) := by decide +kernel
theorem dX5_rule_1 : decode cX5_rule 1 = .ok (.invokestatic 59, 3) := by decide +kernel
theorem dX5_rule_4 : decode cX5_rule 4 = .ok (.aload_n 0, 1) := by decide +kernel
theorem dX5_rule_5 : decode cX5_rule 5 = .ok (.invokevirtual 46, 3) := by decide +kernel
theorem dX5_rule_8 : decode cX5_rule 8 = .ok (.aload_n 0, 1) := by decide +kernel
theorem dX5_rule_9 : decode cX5_rule 9 = .ok (.getfield 12, 3) := by decide +kernel
theorem dX5_rule_12 : decode cX5_rule 12 = .ok (.iconst 3, 1) := by decide +kernel
theorem dX5_rule_13 : decode cX5_rule 13 = .ok (.iload_n 1, 1) := by decide +kernel
theorem dX5_rule_14 : decode cX5_rule 14 = .ok (.iconst (-1), 1) := by decide +kernel
theorem dX5_rule_15 : decode cX5_rule 15 = .ok (.invokevirtual 49, 3) := by decide +kernel
theorem dX5_rule_18 : decode cX5_rule 18 = .ok (.ireturn, 1) := by decide +kernel
set_option maxRecDepth 20000 in
theorem ggX5_join_X5_refuseUnknownExpression : GoodIn wsX5_join wsX5_refuseUnknownExpression := goodIn_ca (goodIn_r _ [8, 9, 10, 3, 11, 12, 13, 14, 15, 16, 34, 35, 36, 37, 38, 39, 40, 41, 42, 43, 44, 45] (by decide +kernel) (by decide +kernel)) (goodIn_sub (fun _ h => List.mem_cons_of_mem _ (List.mem_append_left _ (List.mem_append_right _ h))) (by decide +kernel))
set_option maxRecDepth 20000 in
theorem gX5_join_X5_refuseUnknownExpression : GoodIn wsX5_join (wsV RX5 63 RX5 yX5_refuseUnknownExpression wsX5_refuseUnknownExpression) := goodIn_app (goodIn_of _ (by decide +kernel)) ggX5_join_X5_refuseUnknownExpression
set_option maxRecDepth 20000 in
theorem ggX5_join_X5_refuseIfFull : GoodIn wsX5_join wsX5_refuseIfFull := goodIn_ca (goodIn_r _ [20, 21, 22, 3, 23, 24, 25, 14, 26, 16, 34, 35, 36, 37, 38, 39, 40, 41, 42, 43, 44, 45] (by decide +kernel) (by decide +kernel)) (goodIn_sub (fun _ h => List.mem_cons_of_mem _ (List.mem_append_right _ h)) (by decide +kernel))
set_option maxRecDepth 20000 in
theorem gX5_join_X5_refuseIfFull : GoodIn wsX5_join (wsV RX5 46 RX5 yX5_refuseIfFull wsX5_refuseIfFull) := goodIn_app (goodIn_of _ (by decide +kernel)) ggX5_join_X5_refuseIfFull
set_option maxRecDepth 20000 in
theorem ggX5_join_X0_add : GoodIn wsX5_join wsX0_add := goodIn_r _ [30, 16, 31, 32, 33, 38, 39, 40, 41, 42, 43, 44, 45] (by decide +kernel) (by decide +kernel)
set_option maxRecDepth 20000 in
theorem gX5_join_X0_add : GoodIn wsX5_join (wsV RX5 49 RX0 yX0_add wsX0_add) := goodIn_app (goodIn_of _ (by decide +kernel)) ggX5_join_X0_add
theorem dX5_join_0 : decode cX5_join 0 = .ok (.aload_n 0, 1) := by decide +kernel
theorem dX5_join_1 : decode cX5_join 1 = .ok (.iload_n 2, 1) := by decide +kernel
theorem dX5_join_2 : decode cX5_join 2 = .ok (.invokevirtual 63, 3) := by decide +kernel
theorem dX5_join_5 : decode cX5_join 5 = .ok (.aload_n 0, 1) := by decide +kernel
theorem dX5_join_6 : decode cX5_join 6 = .ok (.iload_n 3, 1) := by decide +kernel
theorem dX5_join_7 : decode cX5_join 7 = .ok (.invokevirtual 63, 3) := by decide +kernel
theorem dX5_join_10 : decode cX5_join 10 = .ok (.iload_n 1, 1) := by decide +kernel
theorem dX5_join_11 : decode cX5_join 11 = .ok (.iconst 4, 1) := by decide +kernel
theorem dX5_join_12 : decode cX5_join 12 = .ok (.if_icmp .eq 18, 3) := by decide +kernel
theorem dX5_join_15 : decode cX5_join 15 = .ok (.iload_n 1, 1) := by decide +kernel
theorem dX5_join_16 : decode cX5_join 16 = .ok (.iconst 5, 1) := by decide +kernel
theorem dX5_join_17 : decode cX5_join 17 = .ok (.if_icmp .eq 13, 3) := by decide +kernel
theorem dX5_join_20 : decode cX5_join 20 = .ok (.new 39, 3) := by decide +kernel
theorem dX5_join_23 : decode cX5_join 23 = .ok (.dup, 1) := by decide +kernel
theorem dX5_join_24 : decode cX5_join 24 = .ok (.ldc 66, 2) := by decide +kernel
theorem dX5_join_26 : decode cX5_join 26 = .ok (.invokespecial 43, 3) := by decide +kernel
theorem dX5_join_29 : decode cX5_join 29 = .ok (.athrow, 1) := by decide +kernel
theorem dX5_join_30 : decode cX5_join 30 = .ok (.aload_n 0, 1) := by decide +kernel
theorem dX5_join_31 : decode cX5_join 31 = .ok (.invokevirtual 46, 3) := by decide +kernel
theorem dX5_join_34 : decode cX5_join 34 = .ok (.aload_n 0, 1) := by decide +kernel
theorem dX5_join_35 : decode cX5_join 35 = .ok (.getfield 12, 3) := by decide +kernel
theorem dX5_join_38 : decode cX5_join 38 = .ok (.iload_n 1, 1) := by decide +kernel
theorem dX5_join_39 : decode cX5_join 39 = .ok (.iload_n 2, 1) := by decide +kernel
theorem dX5_join_40 : decode cX5_join 40 = .ok (.iload_n 3, 1) := by decide +kernel
theorem dX5_join_41 : decode cX5_join 41 = .ok (.invokevirtual 49, 3) := by decide +kernel
theorem dX5_join_44 : decode cX5_join 44 = .ok (.ireturn, 1) := by decide +kernel
set_option maxRecDepth 20000 in
theorem ggX5_wrap_X5_refuseUnknownExpression : GoodIn wsX5_wrap wsX5_refuseUnknownExpression := goodIn_ca (goodIn_r _ [8, 9, 10, 3, 11, 12, 13, 14, 15, 16, 34, 35, 36, 37, 38, 39, 40, 41, 42, 43, 44, 45] (by decide +kernel) (by decide +kernel)) (goodIn_sub (fun _ h => List.mem_cons_of_mem _ (List.mem_append_left _ (List.mem_append_right _ h))) (by decide +kernel))
set_option maxRecDepth 20000 in
theorem gX5_wrap_X5_refuseUnknownExpression : GoodIn wsX5_wrap (wsV RX5 63 RX5 yX5_refuseUnknownExpression wsX5_refuseUnknownExpression) := goodIn_app (goodIn_of _ (by decide +kernel)) ggX5_wrap_X5_refuseUnknownExpression
set_option maxRecDepth 20000 in
theorem ggX5_wrap_X5_refuseIfFull : GoodIn wsX5_wrap wsX5_refuseIfFull := goodIn_ca (goodIn_r _ [20, 21, 22, 3, 23, 24, 25, 14, 26, 16, 34, 35, 36, 37, 38, 39, 40, 41, 42, 43, 44, 45] (by decide +kernel) (by decide +kernel)) (goodIn_sub (fun _ h => List.mem_cons_of_mem _ (List.mem_append_right _ h)) (by decide +kernel))
set_option maxRecDepth 20000 in
theorem gX5_wrap_X5_refuseIfFull : GoodIn wsX5_wrap (wsV RX5 46 RX5 yX5_refuseIfFull wsX5_refuseIfFull) := goodIn_app (goodIn_of _ (by decide +kernel)) ggX5_wrap_X5_refuseIfFull
set_option maxRecDepth 20000 in
theorem ggX5_wrap_X0_add : GoodIn wsX5_wrap wsX0_add := goodIn_r _ [30, 16, 31, 32, 33, 38, 39, 40, 41, 42, 43, 44, 45] (by decide +kernel) (by decide +kernel)
set_option maxRecDepth 20000 in
theorem gX5_wrap_X0_add : GoodIn wsX5_wrap (wsV RX5 49 RX0 yX0_add wsX0_add) := goodIn_app (goodIn_of _ (by decide +kernel)) ggX5_wrap_X0_add
theorem dX5_wrap_0 : decode cX5_wrap 0 = .ok (.aload_n 0, 1) := by decide +kernel
theorem dX5_wrap_1 : decode cX5_wrap 1 = .ok (.iload_n 2, 1) := by decide +kernel
theorem dX5_wrap_2 : decode cX5_wrap 2 = .ok (.invokevirtual 63, 3) := by decide +kernel
theorem dX5_wrap_5 : decode cX5_wrap 5 = .ok (.iload_n 1, 1) := by decide +kernel
theorem dX5_wrap_6 : decode cX5_wrap 6 = .ok (.bipush 6, 2) := by decide +kernel
theorem dX5_wrap_8 : decode cX5_wrap 8 = .ok (.if_icmp .lt 9, 3) := by decide +kernel
theorem dX5_wrap_11 : decode cX5_wrap 11 = .ok (.iload_n 1, 1) := by decide +kernel
theorem dX5_wrap_12 : decode cX5_wrap 12 = .ok (.bipush 9, 2) := by decide +kernel
theorem dX5_wrap_14 : decode cX5_wrap 14 = .ok (.if_icmp .le 13, 3) := by decide +kernel
theorem dX5_wrap_17 : decode cX5_wrap 17 = .ok (.new 39, 3) := by decide +kernel
theorem dX5_wrap_20 : decode cX5_wrap 20 = .ok (.dup, 1) := by decide +kernel
theorem dX5_wrap_21 : decode cX5_wrap 21 = .ok (.ldc 68, 2) := by decide +kernel
theorem dX5_wrap_23 : decode cX5_wrap 23 = .ok (.invokespecial 43, 3) := by decide +kernel
theorem dX5_wrap_26 : decode cX5_wrap 26 = .ok (.athrow, 1) := by decide +kernel
theorem dX5_wrap_27 : decode cX5_wrap 27 = .ok (.aload_n 0, 1) := by decide +kernel
theorem dX5_wrap_28 : decode cX5_wrap 28 = .ok (.invokevirtual 46, 3) := by decide +kernel
theorem dX5_wrap_31 : decode cX5_wrap 31 = .ok (.aload_n 0, 1) := by decide +kernel
theorem dX5_wrap_32 : decode cX5_wrap 32 = .ok (.getfield 12, 3) := by decide +kernel
theorem dX5_wrap_35 : decode cX5_wrap 35 = .ok (.iload_n 1, 1) := by decide +kernel
theorem dX5_wrap_36 : decode cX5_wrap 36 = .ok (.iload_n 2, 1) := by decide +kernel
theorem dX5_wrap_37 : decode cX5_wrap 37 = .ok (.iconst (-1), 1) := by decide +kernel
theorem dX5_wrap_38 : decode cX5_wrap 38 = .ok (.invokevirtual 49, 3) := by decide +kernel
theorem dX5_wrap_41 : decode cX5_wrap 41 = .ok (.ireturn, 1) := by decide +kernel
set_option maxRecDepth 20000 in
theorem ggX5_define_X5_refuseUnknownRule : GoodIn wsX5_define wsX5_refuseUnknownRule := goodIn_ca (goodIn_r _ [6, 7, 8] (by decide +kernel) (by decide +kernel)) (goodIn_sub (fun _ h => List.mem_cons_of_mem _ (List.mem_append_right _ h)) (by decide +kernel))
set_option maxRecDepth 20000 in
theorem gX5_define_X5_refuseUnknownRule : GoodIn wsX5_define (va_wsS RX5 59 yX5_refuseUnknownRule wsX5_refuseUnknownRule) := goodIn_app (goodIn_of _ (by decide +kernel)) ggX5_define_X5_refuseUnknownRule
set_option maxRecDepth 20000 in
theorem ggX5_define_X5_refuseUnknownExpression : GoodIn wsX5_define wsX5_refuseUnknownExpression := goodIn_ca (goodIn_r _ [12, 7, 8, 2, 13, 14, 15, 16, 17, 18, 40, 41, 42, 43, 44, 45, 46, 47, 48, 49, 50, 51] (by decide +kernel) (by decide +kernel)) (goodIn_sub (fun _ h => List.mem_cons_of_mem _ (List.mem_append_right _ h)) (by decide +kernel))
set_option maxRecDepth 20000 in
theorem gX5_define_X5_refuseUnknownExpression : GoodIn wsX5_define (wsV RX5 63 RX5 yX5_refuseUnknownExpression wsX5_refuseUnknownExpression) := goodIn_app (goodIn_of _ (by decide +kernel)) ggX5_define_X5_refuseUnknownExpression
set_option maxRecDepth 20000 in
theorem ggX5_define_X1_clear : GoodIn wsX5_define wsX1_clear := goodIn_r _ [23, 24, 25, 26, 22, 27, 28, 29, 30, 31, 32, 33, 34, 52, 53, 54] (by decide +kernel) (by decide +kernel)
set_option maxRecDepth 20000 in
theorem gX5_define_X1_clear : GoodIn wsX5_define (wsV RX5 70 RX1 yX1_clear wsX1_clear) := goodIn_app (goodIn_of _ (by decide +kernel)) ggX5_define_X1_clear
set_option maxRecDepth 20000 in
theorem ggX5_define_X0_give : GoodIn wsX5_define wsX0_give := goodIn_r _ [38, 39, 44, 45, 46, 47, 48, 49, 50, 51] (by decide +kernel) (by decide +kernel)
set_option maxRecDepth 20000 in
theorem gX5_define_X0_give : GoodIn wsX5_define (wsV RX5 73 RX0 yX0_give wsX0_give) := goodIn_app (goodIn_of _ (by decide +kernel)) ggX5_define_X0_give
theorem dX5_define_0 : decode cX5_define 0 = .ok (.iload_n 1, 1) := by decide +kernel
theorem dX5_define_1 : decode cX5_define 1 = .ok (.invokestatic 59, 3) := by decide +kernel
theorem dX5_define_4 : decode cX5_define 4 = .ok (.iload_n 2, 1) := by decide +kernel
theorem dX5_define_5 : decode cX5_define 5 = .ok (.iconst (-1), 1) := by decide +kernel
theorem dX5_define_6 : decode cX5_define 6 = .ok (.if_icmp .eq 8, 3) := by decide +kernel
theorem dX5_define_9 : decode cX5_define 9 = .ok (.aload_n 0, 1) := by decide +kernel
theorem dX5_define_10 : decode cX5_define 10 = .ok (.iload_n 2, 1) := by decide +kernel
theorem dX5_define_11 : decode cX5_define 11 = .ok (.invokevirtual 63, 3) := by decide +kernel
theorem dX5_define_14 : decode cX5_define 14 = .ok (.aload_n 0, 1) := by decide +kernel
theorem dX5_define_15 : decode cX5_define 15 = .ok (.getfield 26, 3) := by decide +kernel
theorem dX5_define_18 : decode cX5_define 18 = .ok (.invokevirtual 70, 3) := by decide +kernel
theorem dX5_define_21 : decode cX5_define 21 = .ok (.aload_n 0, 1) := by decide +kernel
theorem dX5_define_22 : decode cX5_define 22 = .ok (.getfield 12, 3) := by decide +kernel
theorem dX5_define_25 : decode cX5_define 25 = .ok (.iload_n 1, 1) := by decide +kernel
theorem dX5_define_26 : decode cX5_define 26 = .ok (.iload_n 2, 1) := by decide +kernel
theorem dX5_define_27 : decode cX5_define 27 = .ok (.invokevirtual 73, 3) := by decide +kernel
theorem dX5_define_30 : decode cX5_define 30 = .ok (.ireturn, 1) := by decide +kernel
theorem dX5_expressionCount_0 : decode cX5_expressionCount 0 = .ok (.aload_n 0, 1) := by decide +kernel
theorem dX5_expressionCount_1 : decode cX5_expressionCount 1 = .ok (.getfield 12, 3) := by decide +kernel
theorem dX5_expressionCount_4 : decode cX5_expressionCount 4 = .ok (.getfield 77, 3) := by decide +kernel
theorem dX5_expressionCount_7 : decode cX5_expressionCount 7 = .ok (.ireturn, 1) := by decide +kernel
set_option maxRecDepth 20000 in
theorem ggX5_canBeEmpty_X5_refuseUnknownExpression : GoodIn wsX5_canBeEmpty wsX5_refuseUnknownExpression := goodIn_ca (goodIn_r _ [6, 7, 8, 1, 9, 10, 11, 12, 13, 14, 42, 43, 44, 45, 46, 47, 48, 49, 50, 51, 52, 53] (by decide +kernel) (by decide +kernel)) (goodIn_sub (fun _ h => List.mem_cons_of_mem _ (List.mem_append_right _ h)) (by decide +kernel))
set_option maxRecDepth 20000 in
theorem gX5_canBeEmpty_X5_refuseUnknownExpression : GoodIn wsX5_canBeEmpty (wsV RX5 63 RX5 yX5_refuseUnknownExpression wsX5_refuseUnknownExpression) := goodIn_app (goodIn_of _ (by decide +kernel)) ggX5_canBeEmpty_X5_refuseUnknownExpression
set_option maxRecDepth 20000 in
theorem ggX5_canBeEmpty_X0_succeedsInPlace : GoodIn wsX5_canBeEmpty wsX0_succeedsInPlace := goodIn_r _ [18, 19, 20, 21, 22, 12, 23, 24, 14, 25, 26, 27, 28, 29, 30, 31, 32, 33, 34, 35, 36, 37, 38, 39, 40, 41, 10, 11, 13, 46, 47, 48, 49, 50, 51, 52, 53] (by decide +kernel) (by decide +kernel)
set_option maxRecDepth 20000 in
theorem gX5_canBeEmpty_X0_succeedsInPlace : GoodIn wsX5_canBeEmpty (wsV RX5 81 RX0 yX0_succeedsInPlace wsX0_succeedsInPlace) := goodIn_app (goodIn_of _ (by decide +kernel)) ggX5_canBeEmpty_X0_succeedsInPlace
theorem dX5_canBeEmpty_0 : decode cX5_canBeEmpty 0 = .ok (.aload_n 0, 1) := by decide +kernel
theorem dX5_canBeEmpty_1 : decode cX5_canBeEmpty 1 = .ok (.iload_n 1, 1) := by decide +kernel
theorem dX5_canBeEmpty_2 : decode cX5_canBeEmpty 2 = .ok (.invokevirtual 63, 3) := by decide +kernel
theorem dX5_canBeEmpty_5 : decode cX5_canBeEmpty 5 = .ok (.aload_n 0, 1) := by decide +kernel
theorem dX5_canBeEmpty_6 : decode cX5_canBeEmpty 6 = .ok (.getfield 12, 3) := by decide +kernel
theorem dX5_canBeEmpty_9 : decode cX5_canBeEmpty 9 = .ok (.iload_n 1, 1) := by decide +kernel
theorem dX5_canBeEmpty_10 : decode cX5_canBeEmpty 10 = .ok (.invokevirtual 81, 3) := by decide +kernel
theorem dX5_canBeEmpty_13 : decode cX5_canBeEmpty 13 = .ok (.ireturn, 1) := by decide +kernel
set_option maxRecDepth 20000 in
theorem ggX5_isLeftRecursive_X5_refuseUnknownRule : GoodIn wsX5_isLeftRecursive wsX5_refuseUnknownRule := goodIn_ca (goodIn_r _ [5, 6, 7] (by decide +kernel) (by decide +kernel)) (goodIn_sub (fun _ h => List.mem_cons_of_mem _ (List.mem_append_right _ h)) (by decide +kernel))
set_option maxRecDepth 20000 in
theorem gX5_isLeftRecursive_X5_refuseUnknownRule : GoodIn wsX5_isLeftRecursive (va_wsS RX5 59 yX5_refuseUnknownRule wsX5_refuseUnknownRule) := goodIn_app (goodIn_of _ (by decide +kernel)) ggX5_isLeftRecursive_X5_refuseUnknownRule
set_option maxRecDepth 20000 in
theorem ggX5_isLeftRecursive_X0_beginsWithItself : GoodIn wsX5_isLeftRecursive wsX0_beginsWithItself := goodIn_r _ [12, 13, 14, 15, 11, 16, 17, 18, 19, 20, 21, 22, 23, 24, 25, 26, 27, 28, 29, 30, 31, 32, 33, 34, 35, 36, 37, 38, 39, 40, 41, 42, 43, 44, 45, 46, 47, 48, 49, 4, 50, 51, 52, 53, 54, 59, 60, 61, 62, 63, 64, 65, 66] (by decide +kernel) (by decide +kernel)
set_option maxRecDepth 20000 in
theorem gX5_isLeftRecursive_X0_beginsWithItself : GoodIn wsX5_isLeftRecursive (wsV RX5 84 RX0 yX0_beginsWithItself wsX0_beginsWithItself) := goodIn_app (goodIn_of _ (by decide +kernel)) ggX5_isLeftRecursive_X0_beginsWithItself
theorem dX5_isLeftRecursive_0 : decode cX5_isLeftRecursive 0 = .ok (.iload_n 1, 1) := by decide +kernel
theorem dX5_isLeftRecursive_1 : decode cX5_isLeftRecursive 1 = .ok (.invokestatic 59, 3) := by decide +kernel
theorem dX5_isLeftRecursive_4 : decode cX5_isLeftRecursive 4 = .ok (.aload_n 0, 1) := by decide +kernel
theorem dX5_isLeftRecursive_5 : decode cX5_isLeftRecursive 5 = .ok (.getfield 12, 3) := by decide +kernel
theorem dX5_isLeftRecursive_8 : decode cX5_isLeftRecursive 8 = .ok (.iload_n 1, 1) := by decide +kernel
theorem dX5_isLeftRecursive_9 : decode cX5_isLeftRecursive 9 = .ok (.invokevirtual 84, 3) := by decide +kernel
theorem dX5_isLeftRecursive_12 : decode cX5_isLeftRecursive 12 = .ok (.ireturn, 1) := by decide +kernel
set_option maxRecDepth 20000 in
theorem ggX5_replace_X5_areBytes : GoodIn wsX5_replace wsX5_areBytes := goodIn_r _ [12, 13, 14, 11, 15, 16, 17, 18] (by decide +kernel) (by decide +kernel)
set_option maxRecDepth 20000 in
theorem gX5_replace_X5_areBytes : GoodIn wsX5_replace (va_wsS RX5 95 yX5_areBytes wsX5_areBytes) := goodIn_app (goodIn_of _ (by decide +kernel)) ggX5_replace_X5_areBytes
set_option maxRecDepth 20000 in
theorem ggX5_replace_X5_countBytes : GoodIn wsX5_replace wsX5_countBytes := goodIn_r _ [21, 13, 14, 11, 15] (by decide +kernel) (by decide +kernel)
set_option maxRecDepth 20000 in
theorem gX5_replace_X5_countBytes : GoodIn wsX5_replace (va_wsS RX5 101 yX5_countBytes wsX5_countBytes) := goodIn_app (goodIn_of _ (by decide +kernel)) ggX5_replace_X5_countBytes
set_option maxRecDepth 20000 in
theorem ggX5_replace_X1_keepUnchanged : GoodIn wsX5_replace wsX1_keepUnchanged := goodIn_r _ [26, 27, 28, 29, 30, 25, 31, 32, 33, 34, 35, 36, 37, 38, 39, 40, 41, 67, 68, 69] (by decide +kernel) (by decide +kernel)
set_option maxRecDepth 20000 in
theorem gX5_replace_X1_keepUnchanged : GoodIn wsX5_replace (wsV RX5 110 RX1 yX1_keepUnchanged wsX1_keepUnchanged) := goodIn_app (goodIn_of _ (by decide +kernel)) ggX5_replace_X1_keepUnchanged
set_option maxRecDepth 20000 in
theorem ggX5_replace_X1_shift : GoodIn wsX5_replace wsX1_shift := goodIn_r _ [45, 46, 47, 48, 25, 49, 32, 27, 41, 28, 29, 30, 31, 37, 38, 39, 40, 33, 34, 35, 36, 67, 68, 69] (by decide +kernel) (by decide +kernel)
set_option maxRecDepth 20000 in
theorem gX5_replace_X1_shift : GoodIn wsX5_replace (wsV RX5 113 RX1 yX1_shift wsX1_shift) := goodIn_app (goodIn_of _ (by decide +kernel)) ggX5_replace_X1_shift
set_option maxRecDepth 20000 in
theorem ggX5_replace_X4_splice : GoodIn wsX5_replace wsX4_splice := goodIn_r _ [54, 55, 56, 57, 58, 59, 60, 20, 11, 21, 13, 14, 15, 65, 66] (by decide +kernel) (by decide +kernel)
set_option maxRecDepth 20000 in
theorem gX5_replace_X4_splice : GoodIn wsX5_replace (wsV RX5 117 RX4 yX4_splice wsX4_splice) := goodIn_app (goodIn_of _ (by decide +kernel)) ggX5_replace_X4_splice
theorem dX5_replace_0 : decode cX5_replace 0 = .ok (.iload_n 1, 1) := by decide +kernel
theorem dX5_replace_1 : decode cX5_replace 1 = .ok (.ifCond .lt 31, 3) := by decide +kernel
theorem dX5_replace_4 : decode cX5_replace 4 = .ok (.iload_n 2, 1) := by decide +kernel
theorem dX5_replace_5 : decode cX5_replace 5 = .ok (.ifCond .lt 27, 3) := by decide +kernel
theorem dX5_replace_8 : decode cX5_replace 8 = .ok (.iload_n 1, 1) := by decide +kernel
theorem dX5_replace_9 : decode cX5_replace 9 = .ok (.aload_n 0, 1) := by decide +kernel
theorem dX5_replace_10 : decode cX5_replace 10 = .ok (.getfield 19, 3) := by decide +kernel
theorem dX5_replace_13 : decode cX5_replace 13 = .ok (.getfield 87, 3) := by decide +kernel
theorem dX5_replace_16 : decode cX5_replace 16 = .ok (.if_icmp .gt 16, 3) := by decide +kernel
theorem dX5_replace_19 : decode cX5_replace 19 = .ok (.iload_n 2, 1) := by decide +kernel
theorem dX5_replace_20 : decode cX5_replace 20 = .ok (.aload_n 0, 1) := by decide +kernel
theorem dX5_replace_21 : decode cX5_replace 21 = .ok (.getfield 19, 3) := by decide +kernel
theorem dX5_replace_24 : decode cX5_replace 24 = .ok (.getfield 87, 3) := by decide +kernel
theorem dX5_replace_27 : decode cX5_replace 27 = .ok (.iload_n 1, 1) := by decide +kernel
theorem dX5_replace_28 : decode cX5_replace 28 = .ok (.isub, 1) := by decide +kernel
theorem dX5_replace_29 : decode cX5_replace 29 = .ok (.if_icmp .le 13, 3) := by decide +kernel
theorem dX5_replace_32 : decode cX5_replace 32 = .ok (.new 90, 3) := by decide +kernel
theorem dX5_replace_35 : decode cX5_replace 35 = .ok (.dup, 1) := by decide +kernel
theorem dX5_replace_36 : decode cX5_replace 36 = .ok (.ldc 92, 2) := by decide +kernel
theorem dX5_replace_38 : decode cX5_replace 38 = .ok (.invokespecial 94, 3) := by decide +kernel
theorem dX5_replace_41 : decode cX5_replace 41 = .ok (.athrow, 1) := by decide +kernel
theorem dX5_replace_42 : decode cX5_replace 42 = .ok (.lload_n 3, 1) := by decide +kernel
theorem dX5_replace_43 : decode cX5_replace 43 = .ok (.invokestatic 95, 3) := by decide +kernel
theorem dX5_replace_46 : decode cX5_replace 46 = .ok (.ifCond .ne 13, 3) := by decide +kernel
theorem dX5_replace_49 : decode cX5_replace 49 = .ok (.new 39, 3) := by decide +kernel
theorem dX5_replace_52 : decode cX5_replace 52 = .ok (.dup, 1) := by decide +kernel
theorem dX5_replace_53 : decode cX5_replace 53 = .ok (.ldc 99, 2) := by decide +kernel
theorem dX5_replace_55 : decode cX5_replace 55 = .ok (.invokespecial 43, 3) := by decide +kernel
theorem dX5_replace_58 : decode cX5_replace 58 = .ok (.athrow, 1) := by decide +kernel
theorem dX5_replace_59 : decode cX5_replace 59 = .ok (.lload_n 3, 1) := by decide +kernel
theorem dX5_replace_60 : decode cX5_replace 60 = .ok (.invokestatic 101, 3) := by decide +kernel
theorem dX5_replace_63 : decode cX5_replace 63 = .ok (.istore 5, 2) := by decide +kernel
theorem dX5_replace_65 : decode cX5_replace 65 = .ok (.aload_n 0, 1) := by decide +kernel
theorem dX5_replace_66 : decode cX5_replace 66 = .ok (.getfield 19, 3) := by decide +kernel
theorem dX5_replace_69 : decode cX5_replace 69 = .ok (.getfield 87, 3) := by decide +kernel
theorem dX5_replace_72 : decode cX5_replace 72 = .ok (.iload_n 2, 1) := by decide +kernel
theorem dX5_replace_73 : decode cX5_replace 73 = .ok (.isub, 1) := by decide +kernel
theorem dX5_replace_74 : decode cX5_replace 74 = .ok (.iload 5, 2) := by decide +kernel
theorem dX5_replace_76 : decode cX5_replace 76 = .ok (.iadd, 1) := by decide +kernel
theorem dX5_replace_77 : decode cX5_replace 77 = .ok (.bipush 40, 2) := by decide +kernel
theorem dX5_replace_79 : decode cX5_replace 79 = .ok (.if_icmp .le 13, 3) := by decide +kernel
theorem dX5_replace_82 : decode cX5_replace 82 = .ok (.new 105, 3) := by decide +kernel
theorem dX5_replace_85 : decode cX5_replace 85 = .ok (.dup, 1) := by decide +kernel
theorem dX5_replace_86 : decode cX5_replace 86 = .ok (.ldc 107, 2) := by decide +kernel
theorem dX5_replace_88 : decode cX5_replace 88 = .ok (.invokespecial 109, 3) := by decide +kernel
theorem dX5_replace_91 : decode cX5_replace 91 = .ok (.athrow, 1) := by decide +kernel
theorem dX5_replace_92 : decode cX5_replace 92 = .ok (.aload_n 0, 1) := by decide +kernel
theorem dX5_replace_93 : decode cX5_replace 93 = .ok (.getfield 26, 3) := by decide +kernel
theorem dX5_replace_96 : decode cX5_replace 96 = .ok (.iload_n 1, 1) := by decide +kernel
theorem dX5_replace_97 : decode cX5_replace 97 = .ok (.iload_n 1, 1) := by decide +kernel
theorem dX5_replace_98 : decode cX5_replace 98 = .ok (.iload_n 2, 1) := by decide +kernel
theorem dX5_replace_99 : decode cX5_replace 99 = .ok (.iadd, 1) := by decide +kernel
theorem dX5_replace_100 : decode cX5_replace 100 = .ok (.invokevirtual 110, 3) := by decide +kernel
theorem dX5_replace_103 : decode cX5_replace 103 = .ok (.istore 6, 2) := by decide +kernel
theorem dX5_replace_105 : decode cX5_replace 105 = .ok (.aload_n 0, 1) := by decide +kernel
theorem dX5_replace_106 : decode cX5_replace 106 = .ok (.getfield 26, 3) := by decide +kernel
theorem dX5_replace_109 : decode cX5_replace 109 = .ok (.iload_n 1, 1) := by decide +kernel
theorem dX5_replace_110 : decode cX5_replace 110 = .ok (.iload_n 2, 1) := by decide +kernel
theorem dX5_replace_111 : decode cX5_replace 111 = .ok (.iadd, 1) := by decide +kernel
theorem dX5_replace_112 : decode cX5_replace 112 = .ok (.iload 5, 2) := by decide +kernel
theorem dX5_replace_114 : decode cX5_replace 114 = .ok (.iload_n 2, 1) := by decide +kernel
theorem dX5_replace_115 : decode cX5_replace 115 = .ok (.isub, 1) := by decide +kernel
theorem dX5_replace_116 : decode cX5_replace 116 = .ok (.invokevirtual 113, 3) := by decide +kernel
theorem dX5_replace_119 : decode cX5_replace 119 = .ok (.aload_n 0, 1) := by decide +kernel
theorem dX5_replace_120 : decode cX5_replace 120 = .ok (.getfield 19, 3) := by decide +kernel
theorem dX5_replace_123 : decode cX5_replace 123 = .ok (.iload_n 1, 1) := by decide +kernel
theorem dX5_replace_124 : decode cX5_replace 124 = .ok (.iload_n 2, 1) := by decide +kernel
theorem dX5_replace_125 : decode cX5_replace 125 = .ok (.lload_n 3, 1) := by decide +kernel
theorem dX5_replace_126 : decode cX5_replace 126 = .ok (.invokevirtual 117, 3) := by decide +kernel
theorem dX5_replace_129 : decode cX5_replace 129 = .ok (.iload 6, 2) := by decide +kernel
theorem dX5_replace_131 : decode cX5_replace 131 = .ok (.ireturn, 1) := by decide +kernel
theorem dX5_size_0 : decode cX5_size 0 = .ok (.aload_n 0, 1) := by decide +kernel
theorem dX5_size_1 : decode cX5_size 1 = .ok (.getfield 19, 3) := by decide +kernel
theorem dX5_size_4 : decode cX5_size 4 = .ok (.getfield 87, 3) := by decide +kernel
theorem dX5_size_7 : decode cX5_size 7 = .ok (.ireturn, 1) := by decide +kernel
set_option maxRecDepth 20000 in
theorem ggX5_byteAt_X4_hasByte : GoodIn wsX5_byteAt wsX4_hasByte := goodIn_r _ [8, 9, 20, 21] (by decide +kernel) (by decide +kernel)
set_option maxRecDepth 20000 in
theorem gX5_byteAt_X4_hasByte : GoodIn wsX5_byteAt (wsV RX5 121 RX4 yX4_hasByte wsX4_hasByte) := goodIn_app (goodIn_of _ (by decide +kernel)) ggX5_byteAt_X4_hasByte
set_option maxRecDepth 20000 in
theorem ggX5_byteAt_X4_byteOrNone : GoodIn wsX5_byteAt wsX4_byteOrNone := goodIn_r _ [13, 14, 15, 5, 6, 7, 8, 9, 20, 21] (by decide +kernel) (by decide +kernel)
set_option maxRecDepth 20000 in
theorem gX5_byteAt_X4_byteOrNone : GoodIn wsX5_byteAt (wsV RX5 126 RX4 yX4_byteOrNone wsX4_byteOrNone) := goodIn_app (goodIn_of _ (by decide +kernel)) ggX5_byteAt_X4_byteOrNone
theorem dX5_byteAt_0 : decode cX5_byteAt 0 = .ok (.aload_n 0, 1) := by decide +kernel
theorem dX5_byteAt_1 : decode cX5_byteAt 1 = .ok (.getfield 19, 3) := by decide +kernel
theorem dX5_byteAt_4 : decode cX5_byteAt 4 = .ok (.iload_n 1, 1) := by decide +kernel
theorem dX5_byteAt_5 : decode cX5_byteAt 5 = .ok (.invokevirtual 121, 3) := by decide +kernel
theorem dX5_byteAt_8 : decode cX5_byteAt 8 = .ok (.ifCond .ne 13, 3) := by decide +kernel
theorem dX5_byteAt_11 : decode cX5_byteAt 11 = .ok (.new 90, 3) := by decide +kernel
theorem dX5_byteAt_14 : decode cX5_byteAt 14 = .ok (.dup, 1) := by decide +kernel
theorem dX5_byteAt_15 : decode cX5_byteAt 15 = .ok (.ldc 124, 2) := by decide +kernel
theorem dX5_byteAt_17 : decode cX5_byteAt 17 = .ok (.invokespecial 94, 3) := by decide +kernel
theorem dX5_byteAt_20 : decode cX5_byteAt 20 = .ok (.athrow, 1) := by decide +kernel
theorem dX5_byteAt_21 : decode cX5_byteAt 21 = .ok (.aload_n 0, 1) := by decide +kernel
theorem dX5_byteAt_22 : decode cX5_byteAt 22 = .ok (.getfield 19, 3) := by decide +kernel
theorem dX5_byteAt_25 : decode cX5_byteAt 25 = .ok (.iload_n 1, 1) := by decide +kernel
theorem dX5_byteAt_26 : decode cX5_byteAt 26 = .ok (.invokevirtual 126, 3) := by decide +kernel
theorem dX5_byteAt_29 : decode cX5_byteAt 29 = .ok (.ireturn, 1) := by decide +kernel
set_option maxRecDepth 20000 in
theorem ggX5_parse_X5_refuseUnknownRule : GoodIn wsX5_parse wsX5_refuseUnknownRule := goodIn_ca (goodIn_r _ [5, 6, 7] (by decide +kernel) (by decide +kernel)) (goodIn_sub (fun _ h => List.mem_cons_of_mem _ (List.mem_append_right _ h)) (by decide +kernel))
set_option maxRecDepth 20000 in
theorem gX5_parse_X5_refuseUnknownRule : GoodIn wsX5_parse (va_wsS RX5 59 yX5_refuseUnknownRule wsX5_refuseUnknownRule) := goodIn_app (goodIn_of _ (by decide +kernel)) ggX5_parse_X5_refuseUnknownRule
set_option maxRecDepth 20000 in
theorem ggX5_parse_X5_refuseUnknownPlace : GoodIn wsX5_parse wsX5_refuseUnknownPlace := goodIn_ca (goodIn_r _ [11, 6, 7, 12, 170, 171, 172, 173, 174, 175] (by decide +kernel) (by decide +kernel)) (goodIn_sub (fun _ h => List.mem_cons_of_mem _ (List.mem_append_right _ h)) (by decide +kernel))
set_option maxRecDepth 20000 in
theorem gX5_parse_X5_refuseUnknownPlace : GoodIn wsX5_parse (wsV RX5 130 RX5 yX5_refuseUnknownPlace wsX5_refuseUnknownPlace) := goodIn_app (goodIn_of _ (by decide +kernel)) ggX5_parse_X5_refuseUnknownPlace
set_option maxRecDepth 20000 in
theorem ggX5_parse_X3_run : GoodIn wsX5_parse wsX3_run := goodIn_r _ [17, 18, 19, 20, 21, 22, 23, 24, 25, 16, 26, 27, 28, 29, 30, 31, 32, 33, 34, 35, 36, 37, 38, 39, 40, 4, 41, 42, 43, 44, 45, 46, 47, 48, 49, 50, 51, 52, 53, 54, 55, 56, 57, 58, 59, 60, 61, 62, 63, 64, 65, 66, 67, 68, 69, 70, 71, 72, 73, 74, 75, 76, 77, 78, 79, 80, 81, 82, 83, 84, 85, 86, 87, 88, 89, 90, 91, 92, 93, 94, 95, 96, 97, 98, 99, 100, 101, 102, 103, 104, 105, 106, 107, 108, 109, 110, 111, 112, 113, 114, 115, 116, 117, 118, 119, 120, 121, 122, 123, 124, 125, 126, 127, 128, 129, 130, 131, 132, 133, 134, 135, 136, 137, 138, 139, 140, 141, 142, 143, 144, 145, 146, 147, 148, 149, 150, 151, 152, 153, 154, 155, 156, 157, 158, 159, 160, 161, 162, 163, 164, 165, 166, 167, 168, 169, 176, 177, 178, 179, 180, 181, 182, 183, 184, 185, 186, 187, 188, 189, 190, 191, 192, 193, 194, 195, 196, 197, 198, 199, 200, 201, 202, 174, 175, 203, 204, 205] (by decide +kernel) (by decide +kernel)
set_option maxRecDepth 20000 in
theorem gX5_parse_X3_run : GoodIn wsX5_parse (wsV RX5 133 RX3 yX3_run wsX3_run) := goodIn_app (goodIn_of _ (by decide +kernel)) ggX5_parse_X3_run
theorem dX5_parse_0 : decode cX5_parse 0 = .ok (.iload_n 1, 1) := by decide +kernel
theorem dX5_parse_1 : decode cX5_parse 1 = .ok (.invokestatic 59, 3) := by decide +kernel
theorem dX5_parse_4 : decode cX5_parse 4 = .ok (.aload_n 0, 1) := by decide +kernel
theorem dX5_parse_5 : decode cX5_parse 5 = .ok (.iload_n 2, 1) := by decide +kernel
theorem dX5_parse_6 : decode cX5_parse 6 = .ok (.invokevirtual 130, 3) := by decide +kernel
theorem dX5_parse_9 : decode cX5_parse 9 = .ok (.aload_n 0, 1) := by decide +kernel
theorem dX5_parse_10 : decode cX5_parse 10 = .ok (.getfield 35, 3) := by decide +kernel
theorem dX5_parse_13 : decode cX5_parse 13 = .ok (.iload_n 1, 1) := by decide +kernel
theorem dX5_parse_14 : decode cX5_parse 14 = .ok (.iload_n 2, 1) := by decide +kernel
theorem dX5_parse_15 : decode cX5_parse 15 = .ok (.invokevirtual 133, 3) := by decide +kernel
theorem dX5_parse_18 : decode cX5_parse 18 = .ok (.ireturn, 1) := by decide +kernel
theorem dX5_work_0 : decode cX5_work 0 = .ok (.aload_n 0, 1) := by decide +kernel
theorem dX5_work_1 : decode cX5_work 1 = .ok (.getfield 35, 3) := by decide +kernel
theorem dX5_work_4 : decode cX5_work 4 = .ok (.getfield 136, 3) := by decide +kernel
theorem dX5_work_7 : decode cX5_work 7 = .ok (.ireturn, 1) := by decide +kernel
theorem dX5_hits_0 : decode cX5_hits 0 = .ok (.aload_n 0, 1) := by decide +kernel
theorem dX5_hits_1 : decode cX5_hits 1 = .ok (.getfield 35, 3) := by decide +kernel
theorem dX5_hits_4 : decode cX5_hits 4 = .ok (.getfield 139, 3) := by decide +kernel
theorem dX5_hits_7 : decode cX5_hits 7 = .ok (.ireturn, 1) := by decide +kernel
theorem dX5_growths_0 : decode cX5_growths 0 = .ok (.aload_n 0, 1) := by decide +kernel
theorem dX5_growths_1 : decode cX5_growths 1 = .ok (.getfield 35, 3) := by decide +kernel
theorem dX5_growths_4 : decode cX5_growths 4 = .ok (.getfield 142, 3) := by decide +kernel
theorem dX5_growths_7 : decode cX5_growths 7 = .ok (.ireturn, 1) := by decide +kernel
theorem dX5_farthest_0 : decode cX5_farthest 0 = .ok (.aload_n 0, 1) := by decide +kernel
theorem dX5_farthest_1 : decode cX5_farthest 1 = .ok (.getfield 35, 3) := by decide +kernel
theorem dX5_farthest_4 : decode cX5_farthest 4 = .ok (.getfield 145, 3) := by decide +kernel
theorem dX5_farthest_7 : decode cX5_farthest 7 = .ok (.ireturn, 1) := by decide +kernel
set_option maxRecDepth 20000 in
theorem ggX5_remembered_X1_count : GoodIn wsX5_remembered wsX1_count := goodIn_r _ [6, 7, 8, 9, 5, 10, 11, 16, 17, 18] (by decide +kernel) (by decide +kernel)
set_option maxRecDepth 20000 in
theorem gX5_remembered_X1_count : GoodIn wsX5_remembered (wsV RX5 148 RX1 yX1_count wsX1_count) := goodIn_app (goodIn_of _ (by decide +kernel)) ggX5_remembered_X1_count
theorem dX5_remembered_0 : decode cX5_remembered 0 = .ok (.aload_n 0, 1) := by decide +kernel
theorem dX5_remembered_1 : decode cX5_remembered 1 = .ok (.getfield 26, 3) := by decide +kernel
theorem dX5_remembered_4 : decode cX5_remembered 4 = .ok (.invokevirtual 148, 3) := by decide +kernel
theorem dX5_remembered_7 : decode cX5_remembered 7 = .ok (.ireturn, 1) := by decide +kernel
set_option maxRecDepth 20000 in
theorem ggX5_result_X5_refuseUnknownRule : GoodIn wsX5_result wsX5_refuseUnknownRule := goodIn_ca (goodIn_r _ [5, 6, 7] (by decide +kernel) (by decide +kernel)) (goodIn_sub (fun _ h => List.mem_cons_of_mem _ (List.mem_append_right _ h)) (by decide +kernel))
set_option maxRecDepth 20000 in
theorem gX5_result_X5_refuseUnknownRule : GoodIn wsX5_result (va_wsS RX5 59 yX5_refuseUnknownRule wsX5_refuseUnknownRule) := goodIn_app (goodIn_of _ (by decide +kernel)) ggX5_result_X5_refuseUnknownRule
set_option maxRecDepth 20000 in
theorem ggX5_result_X5_refuseUnknownPlace : GoodIn wsX5_result wsX5_refuseUnknownPlace := goodIn_ca (goodIn_r _ [11, 6, 7, 12, 16, 17, 18, 19, 23, 24] (by decide +kernel) (by decide +kernel)) (goodIn_sub (fun _ h => List.mem_cons_of_mem _ (List.mem_append_right _ h)) (by decide +kernel))
set_option maxRecDepth 20000 in
theorem gX5_result_X5_refuseUnknownPlace : GoodIn wsX5_result (wsV RX5 130 RX5 yX5_refuseUnknownPlace wsX5_refuseUnknownPlace) := goodIn_app (goodIn_of _ (by decide +kernel)) ggX5_result_X5_refuseUnknownPlace
set_option maxRecDepth 20000 in
theorem ggX5_result_X5_cell : GoodIn wsX5_result wsX5_cell := goodIn_r _ [15] (by decide +kernel) (by decide +kernel)
set_option maxRecDepth 20000 in
theorem gX5_result_X5_cell : GoodIn wsX5_result (va_wsS RX5 155 yX5_cell wsX5_cell) := goodIn_app (goodIn_of _ (by decide +kernel)) ggX5_result_X5_cell
theorem dX5_result_0 : decode cX5_result 0 = .ok (.iload_n 1, 1) := by decide +kernel
theorem dX5_result_1 : decode cX5_result 1 = .ok (.invokestatic 59, 3) := by decide +kernel
theorem dX5_result_4 : decode cX5_result 4 = .ok (.aload_n 0, 1) := by decide +kernel
theorem dX5_result_5 : decode cX5_result 5 = .ok (.iload_n 2, 1) := by decide +kernel
theorem dX5_result_6 : decode cX5_result 6 = .ok (.invokevirtual 130, 3) := by decide +kernel
theorem dX5_result_9 : decode cX5_result 9 = .ok (.aload_n 0, 1) := by decide +kernel
theorem dX5_result_10 : decode cX5_result 10 = .ok (.getfield 26, 3) := by decide +kernel
theorem dX5_result_13 : decode cX5_result 13 = .ok (.getfield 151, 3) := by decide +kernel
theorem dX5_result_16 : decode cX5_result 16 = .ok (.iload_n 1, 1) := by decide +kernel
theorem dX5_result_17 : decode cX5_result 17 = .ok (.iload_n 2, 1) := by decide +kernel
theorem dX5_result_18 : decode cX5_result 18 = .ok (.invokestatic 155, 3) := by decide +kernel
theorem dX5_result_21 : decode cX5_result 21 = .ok (.iaload, 1) := by decide +kernel
theorem dX5_result_22 : decode cX5_result 22 = .ok (.ireturn, 1) := by decide +kernel
set_option maxRecDepth 20000 in
theorem ggX5_reach_X5_refuseUnknownRule : GoodIn wsX5_reach wsX5_refuseUnknownRule := goodIn_ca (goodIn_r _ [5, 6, 7] (by decide +kernel) (by decide +kernel)) (goodIn_sub (fun _ h => List.mem_cons_of_mem _ (List.mem_append_right _ h)) (by decide +kernel))
set_option maxRecDepth 20000 in
theorem gX5_reach_X5_refuseUnknownRule : GoodIn wsX5_reach (va_wsS RX5 59 yX5_refuseUnknownRule wsX5_refuseUnknownRule) := goodIn_app (goodIn_of _ (by decide +kernel)) ggX5_reach_X5_refuseUnknownRule
set_option maxRecDepth 20000 in
theorem ggX5_reach_X5_refuseUnknownPlace : GoodIn wsX5_reach wsX5_refuseUnknownPlace := goodIn_ca (goodIn_r _ [11, 6, 7, 12, 16, 17, 18, 19, 23, 24] (by decide +kernel) (by decide +kernel)) (goodIn_sub (fun _ h => List.mem_cons_of_mem _ (List.mem_append_right _ h)) (by decide +kernel))
set_option maxRecDepth 20000 in
theorem gX5_reach_X5_refuseUnknownPlace : GoodIn wsX5_reach (wsV RX5 130 RX5 yX5_refuseUnknownPlace wsX5_refuseUnknownPlace) := goodIn_app (goodIn_of _ (by decide +kernel)) ggX5_reach_X5_refuseUnknownPlace
set_option maxRecDepth 20000 in
theorem ggX5_reach_X5_cell : GoodIn wsX5_reach wsX5_cell := goodIn_r _ [15] (by decide +kernel) (by decide +kernel)
set_option maxRecDepth 20000 in
theorem gX5_reach_X5_cell : GoodIn wsX5_reach (va_wsS RX5 155 yX5_cell wsX5_cell) := goodIn_app (goodIn_of _ (by decide +kernel)) ggX5_reach_X5_cell
theorem dX5_reach_0 : decode cX5_reach 0 = .ok (.iload_n 1, 1) := by decide +kernel
theorem dX5_reach_1 : decode cX5_reach 1 = .ok (.invokestatic 59, 3) := by decide +kernel
theorem dX5_reach_4 : decode cX5_reach 4 = .ok (.aload_n 0, 1) := by decide +kernel
theorem dX5_reach_5 : decode cX5_reach 5 = .ok (.iload_n 2, 1) := by decide +kernel
theorem dX5_reach_6 : decode cX5_reach 6 = .ok (.invokevirtual 130, 3) := by decide +kernel
theorem dX5_reach_9 : decode cX5_reach 9 = .ok (.aload_n 0, 1) := by decide +kernel
theorem dX5_reach_10 : decode cX5_reach 10 = .ok (.getfield 26, 3) := by decide +kernel
theorem dX5_reach_13 : decode cX5_reach 13 = .ok (.getfield 158, 3) := by decide +kernel
theorem dX5_reach_16 : decode cX5_reach 16 = .ok (.iload_n 1, 1) := by decide +kernel
theorem dX5_reach_17 : decode cX5_reach 17 = .ok (.iload_n 2, 1) := by decide +kernel
theorem dX5_reach_18 : decode cX5_reach 18 = .ok (.invokestatic 155, 3) := by decide +kernel
theorem dX5_reach_21 : decode cX5_reach 21 = .ok (.iaload, 1) := by decide +kernel
theorem dX5_reach_22 : decode cX5_reach 22 = .ok (.ireturn, 1) := by decide +kernel
set_option maxRecDepth 20000 in
theorem ggX5_forget_X1_count : GoodIn wsX5_forget wsX1_count := goodIn_r _ [6, 7, 8, 9, 5, 10, 11, 30, 31, 32] (by decide +kernel) (by decide +kernel)
set_option maxRecDepth 20000 in
theorem gX5_forget_X1_count : GoodIn wsX5_forget (wsV RX5 148 RX1 yX1_count wsX1_count) := goodIn_app (goodIn_of _ (by decide +kernel)) ggX5_forget_X1_count
set_option maxRecDepth 20000 in
theorem ggX5_forget_X1_clear : GoodIn wsX5_forget wsX1_clear := goodIn_r _ [15, 16, 17, 18, 5, 19, 20, 21, 22, 23, 11, 24, 25, 30, 31, 32] (by decide +kernel) (by decide +kernel)
set_option maxRecDepth 20000 in
theorem gX5_forget_X1_clear : GoodIn wsX5_forget (wsV RX5 70 RX1 yX1_clear wsX1_clear) := goodIn_app (goodIn_of _ (by decide +kernel)) ggX5_forget_X1_clear
theorem dX5_forget_0 : decode cX5_forget 0 = .ok (.aload_n 0, 1) := by decide +kernel
theorem dX5_forget_1 : decode cX5_forget 1 = .ok (.getfield 26, 3) := by decide +kernel
theorem dX5_forget_4 : decode cX5_forget 4 = .ok (.invokevirtual 148, 3) := by decide +kernel
theorem dX5_forget_7 : decode cX5_forget 7 = .ok (.istore_n 1, 1) := by decide +kernel
theorem dX5_forget_8 : decode cX5_forget 8 = .ok (.aload_n 0, 1) := by decide +kernel
theorem dX5_forget_9 : decode cX5_forget 9 = .ok (.getfield 26, 3) := by decide +kernel
theorem dX5_forget_12 : decode cX5_forget 12 = .ok (.invokevirtual 70, 3) := by decide +kernel
theorem dX5_forget_15 : decode cX5_forget 15 = .ok (.iload_n 1, 1) := by decide +kernel
theorem dX5_forget_16 : decode cX5_forget 16 = .ok (.ireturn, 1) := by decide +kernel
set_option maxRecDepth 20000 in
theorem ggX5_digest_X0_addToDigest : GoodIn wsX5_digest wsX0_addToDigest := goodIn_r _ [10, 11, 12, 13, 14, 15, 16, 49, 50, 51, 52, 53, 54, 55, 56] (by decide +kernel) (by decide +kernel)
set_option maxRecDepth 20000 in
theorem gX5_digest_X0_addToDigest : GoodIn wsX5_digest (wsV RX5 163 RX0 yX0_addToDigest wsX0_addToDigest) := goodIn_app (goodIn_of _ (by decide +kernel)) ggX5_digest_X0_addToDigest
set_option maxRecDepth 20000 in
theorem ggX5_digest_X4_addToDigest : GoodIn wsX5_digest wsX4_addToDigest := goodIn_r _ [21, 22, 23, 13, 14, 15, 16, 57, 58] (by decide +kernel) (by decide +kernel)
set_option maxRecDepth 20000 in
theorem gX5_digest_X4_addToDigest : GoodIn wsX5_digest (wsV RX5 167 RX4 yX4_addToDigest wsX4_addToDigest) := goodIn_app (goodIn_of _ (by decide +kernel)) ggX5_digest_X4_addToDigest
set_option maxRecDepth 20000 in
theorem ggX5_digest_X1_addToDigest : GoodIn wsX5_digest wsX1_addToDigest := goodIn_r _ [28, 29, 30, 31, 32, 33, 27, 34, 13, 14, 15, 16, 59, 60, 61] (by decide +kernel) (by decide +kernel)
set_option maxRecDepth 20000 in
theorem gX5_digest_X1_addToDigest : GoodIn wsX5_digest (wsV RX5 168 RX1 yX1_addToDigest wsX1_addToDigest) := goodIn_app (goodIn_of _ (by decide +kernel)) ggX5_digest_X1_addToDigest
set_option maxRecDepth 20000 in
theorem ggX5_digest_X5_mix : GoodIn wsX5_digest wsX5_mix := goodIn_r _ [15, 16] (by decide +kernel) (by decide +kernel)
set_option maxRecDepth 20000 in
theorem gX5_digest_X5_mix : GoodIn wsX5_digest (va_wsS RX5 169 yX5_mix wsX5_mix) := goodIn_app (goodIn_of _ (by decide +kernel)) ggX5_digest_X5_mix
theorem dX5_digest_0 : decode cX5_digest 0 = .ok (.aload_n 0, 1) := by decide +kernel
theorem dX5_digest_1 : decode cX5_digest 1 = .ok (.getfield 12, 3) := by decide +kernel
theorem dX5_digest_4 : decode cX5_digest 4 = .ok (.ldc2_w 161, 3) := by decide +kernel
theorem dX5_digest_7 : decode cX5_digest 7 = .ok (.invokevirtual 163, 3) := by decide +kernel
theorem dX5_digest_10 : decode cX5_digest 10 = .ok (.lstore_n 1, 1) := by decide +kernel
theorem dX5_digest_11 : decode cX5_digest 11 = .ok (.aload_n 0, 1) := by decide +kernel
theorem dX5_digest_12 : decode cX5_digest 12 = .ok (.getfield 19, 3) := by decide +kernel
theorem dX5_digest_15 : decode cX5_digest 15 = .ok (.lload_n 1, 1) := by decide +kernel
theorem dX5_digest_16 : decode cX5_digest 16 = .ok (.invokevirtual 167, 3) := by decide +kernel
theorem dX5_digest_19 : decode cX5_digest 19 = .ok (.lstore_n 1, 1) := by decide +kernel
theorem dX5_digest_20 : decode cX5_digest 20 = .ok (.aload_n 0, 1) := by decide +kernel
theorem dX5_digest_21 : decode cX5_digest 21 = .ok (.getfield 26, 3) := by decide +kernel
theorem dX5_digest_24 : decode cX5_digest 24 = .ok (.lload_n 1, 1) := by decide +kernel
theorem dX5_digest_25 : decode cX5_digest 25 = .ok (.invokevirtual 168, 3) := by decide +kernel
theorem dX5_digest_28 : decode cX5_digest 28 = .ok (.lstore_n 1, 1) := by decide +kernel
theorem dX5_digest_29 : decode cX5_digest 29 = .ok (.lload_n 1, 1) := by decide +kernel
theorem dX5_digest_30 : decode cX5_digest 30 = .ok (.aload_n 0, 1) := by decide +kernel
theorem dX5_digest_31 : decode cX5_digest 31 = .ok (.getfield 35, 3) := by decide +kernel
theorem dX5_digest_34 : decode cX5_digest 34 = .ok (.getfield 136, 3) := by decide +kernel
theorem dX5_digest_37 : decode cX5_digest 37 = .ok (.invokestatic 169, 3) := by decide +kernel
theorem dX5_digest_40 : decode cX5_digest 40 = .ok (.lstore_n 1, 1) := by decide +kernel
theorem dX5_digest_41 : decode cX5_digest 41 = .ok (.lload_n 1, 1) := by decide +kernel
theorem dX5_digest_42 : decode cX5_digest 42 = .ok (.aload_n 0, 1) := by decide +kernel
theorem dX5_digest_43 : decode cX5_digest 43 = .ok (.getfield 35, 3) := by decide +kernel
theorem dX5_digest_46 : decode cX5_digest 46 = .ok (.getfield 139, 3) := by decide +kernel
theorem dX5_digest_49 : decode cX5_digest 49 = .ok (.invokestatic 169, 3) := by decide +kernel
theorem dX5_digest_52 : decode cX5_digest 52 = .ok (.lstore_n 1, 1) := by decide +kernel
theorem dX5_digest_53 : decode cX5_digest 53 = .ok (.lload_n 1, 1) := by decide +kernel
theorem dX5_digest_54 : decode cX5_digest 54 = .ok (.aload_n 0, 1) := by decide +kernel
theorem dX5_digest_55 : decode cX5_digest 55 = .ok (.getfield 35, 3) := by decide +kernel
theorem dX5_digest_58 : decode cX5_digest 58 = .ok (.getfield 142, 3) := by decide +kernel
theorem dX5_digest_61 : decode cX5_digest 61 = .ok (.invokestatic 169, 3) := by decide +kernel
theorem dX5_digest_64 : decode cX5_digest 64 = .ok (.lreturn, 1) := by decide +kernel
set_option maxRecDepth 20000 in
theorem ggX5_refuseIfFull_X0_isFull : GoodIn wsX5_refuseIfFull wsX0_isFull := goodIn_r _ [8, 9, 14, 15, 16, 17, 18, 19, 20, 21] (by decide +kernel) (by decide +kernel)
set_option maxRecDepth 20000 in
theorem gX5_refuseIfFull_X0_isFull : GoodIn wsX5_refuseIfFull (wsV RX5 173 RX0 yX0_isFull wsX0_isFull) := goodIn_app (goodIn_of _ (by decide +kernel)) ggX5_refuseIfFull_X0_isFull
theorem dX5_refuseIfFull_0 : decode cX5_refuseIfFull 0 = .ok (.aload_n 0, 1) := by decide +kernel
theorem dX5_refuseIfFull_1 : decode cX5_refuseIfFull 1 = .ok (.getfield 12, 3) := by decide +kernel
theorem dX5_refuseIfFull_4 : decode cX5_refuseIfFull 4 = .ok (.invokevirtual 173, 3) := by decide +kernel
theorem dX5_refuseIfFull_7 : decode cX5_refuseIfFull 7 = .ok (.ifCond .eq 13, 3) := by decide +kernel
theorem dX5_refuseIfFull_10 : decode cX5_refuseIfFull 10 = .ok (.new 105, 3) := by decide +kernel
theorem dX5_refuseIfFull_13 : decode cX5_refuseIfFull 13 = .ok (.dup, 1) := by decide +kernel
theorem dX5_refuseIfFull_14 : decode cX5_refuseIfFull 14 = .ok (.ldc 177, 2) := by decide +kernel
theorem dX5_refuseIfFull_16 : decode cX5_refuseIfFull 16 = .ok (.invokespecial 109, 3) := by decide +kernel
theorem dX5_refuseIfFull_19 : decode cX5_refuseIfFull 19 = .ok (.athrow, 1) := by decide +kernel
theorem dX5_refuseIfFull_20 : decode cX5_refuseIfFull 20 = .ok (.return_, 1) := by decide +kernel
set_option maxRecDepth 20000 in
theorem ggX5_refuseUnknownExpression_X0_has : GoodIn wsX5_refuseUnknownExpression wsX0_has := goodIn_r _ [8, 9, 14, 15, 16, 17, 18, 19, 20, 21] (by decide +kernel) (by decide +kernel)
set_option maxRecDepth 20000 in
theorem gX5_refuseUnknownExpression_X0_has : GoodIn wsX5_refuseUnknownExpression (wsV RX5 179 RX0 yX0_has wsX0_has) := goodIn_app (goodIn_of _ (by decide +kernel)) ggX5_refuseUnknownExpression_X0_has
theorem dX5_refuseUnknownExpression_0 : decode cX5_refuseUnknownExpression 0 = .ok (.aload_n 0, 1) := by decide +kernel
theorem dX5_refuseUnknownExpression_1 : decode cX5_refuseUnknownExpression 1 = .ok (.getfield 12, 3) := by decide +kernel
theorem dX5_refuseUnknownExpression_4 : decode cX5_refuseUnknownExpression 4 = .ok (.iload_n 1, 1) := by decide +kernel
theorem dX5_refuseUnknownExpression_5 : decode cX5_refuseUnknownExpression 5 = .ok (.invokevirtual 179, 3) := by decide +kernel
theorem dX5_refuseUnknownExpression_8 : decode cX5_refuseUnknownExpression 8 = .ok (.ifCond .ne 13, 3) := by decide +kernel
theorem dX5_refuseUnknownExpression_11 : decode cX5_refuseUnknownExpression 11 = .ok (.new 90, 3) := by decide +kernel
theorem dX5_refuseUnknownExpression_14 : decode cX5_refuseUnknownExpression 14 = .ok (.dup, 1) := by decide +kernel
theorem dX5_refuseUnknownExpression_15 : decode cX5_refuseUnknownExpression 15 = .ok (.ldc 182, 2) := by decide +kernel
theorem dX5_refuseUnknownExpression_17 : decode cX5_refuseUnknownExpression 17 = .ok (.invokespecial 94, 3) := by decide +kernel
theorem dX5_refuseUnknownExpression_20 : decode cX5_refuseUnknownExpression 20 = .ok (.athrow, 1) := by decide +kernel
theorem dX5_refuseUnknownExpression_21 : decode cX5_refuseUnknownExpression 21 = .ok (.return_, 1) := by decide +kernel
theorem dX5_refuseUnknownPlace_0 : decode cX5_refuseUnknownPlace 0 = .ok (.iload_n 1, 1) := by decide +kernel
theorem dX5_refuseUnknownPlace_1 : decode cX5_refuseUnknownPlace 1 = .ok (.ifCond .lt 14, 3) := by decide +kernel
theorem dX5_refuseUnknownPlace_4 : decode cX5_refuseUnknownPlace 4 = .ok (.iload_n 1, 1) := by decide +kernel
theorem dX5_refuseUnknownPlace_5 : decode cX5_refuseUnknownPlace 5 = .ok (.aload_n 0, 1) := by decide +kernel
theorem dX5_refuseUnknownPlace_6 : decode cX5_refuseUnknownPlace 6 = .ok (.getfield 19, 3) := by decide +kernel
theorem dX5_refuseUnknownPlace_9 : decode cX5_refuseUnknownPlace 9 = .ok (.getfield 87, 3) := by decide +kernel
theorem dX5_refuseUnknownPlace_12 : decode cX5_refuseUnknownPlace 12 = .ok (.if_icmp .le 13, 3) := by decide +kernel
theorem dX5_refuseUnknownPlace_15 : decode cX5_refuseUnknownPlace 15 = .ok (.new 90, 3) := by decide +kernel
theorem dX5_refuseUnknownPlace_18 : decode cX5_refuseUnknownPlace 18 = .ok (.dup, 1) := by decide +kernel
theorem dX5_refuseUnknownPlace_19 : decode cX5_refuseUnknownPlace 19 = .ok (.ldc 124, 2) := by decide +kernel
theorem dX5_refuseUnknownPlace_21 : decode cX5_refuseUnknownPlace 21 = .ok (.invokespecial 94, 3) := by decide +kernel
theorem dX5_refuseUnknownPlace_24 : decode cX5_refuseUnknownPlace 24 = .ok (.athrow, 1) := by decide +kernel
theorem dX5_refuseUnknownPlace_25 : decode cX5_refuseUnknownPlace 25 = .ok (.return_, 1) := by decide +kernel
theorem dX5_refuseUnknownRule_0 : decode cX5_refuseUnknownRule 0 = .ok (.iload_n 0, 1) := by decide +kernel
theorem dX5_refuseUnknownRule_1 : decode cX5_refuseUnknownRule 1 = .ok (.ifCond .lt 9, 3) := by decide +kernel
theorem dX5_refuseUnknownRule_4 : decode cX5_refuseUnknownRule 4 = .ok (.iload_n 0, 1) := by decide +kernel
theorem dX5_refuseUnknownRule_5 : decode cX5_refuseUnknownRule 5 = .ok (.bipush 10, 2) := by decide +kernel
theorem dX5_refuseUnknownRule_7 : decode cX5_refuseUnknownRule 7 = .ok (.if_icmp .lt 13, 3) := by decide +kernel
theorem dX5_refuseUnknownRule_10 : decode cX5_refuseUnknownRule 10 = .ok (.new 90, 3) := by decide +kernel
theorem dX5_refuseUnknownRule_13 : decode cX5_refuseUnknownRule 13 = .ok (.dup, 1) := by decide +kernel
theorem dX5_refuseUnknownRule_14 : decode cX5_refuseUnknownRule 14 = .ok (.ldc 184, 2) := by decide +kernel
theorem dX5_refuseUnknownRule_16 : decode cX5_refuseUnknownRule 16 = .ok (.invokespecial 94, 3) := by decide +kernel
theorem dX5_refuseUnknownRule_19 : decode cX5_refuseUnknownRule 19 = .ok (.athrow, 1) := by decide +kernel
theorem dX5_refuseUnknownRule_20 : decode cX5_refuseUnknownRule 20 = .ok (.return_, 1) := by decide +kernel
theorem dX5_isByte_0 : decode cX5_isByte 0 = .ok (.iload_n 0, 1) := by decide +kernel
theorem dX5_isByte_1 : decode cX5_isByte 1 = .ok (.bipush 32, 2) := by decide +kernel
theorem dX5_isByte_3 : decode cX5_isByte 3 = .ok (.if_icmp .lt 13, 3) := by decide +kernel
theorem dX5_isByte_6 : decode cX5_isByte 6 = .ok (.iload_n 0, 1) := by decide +kernel
theorem dX5_isByte_7 : decode cX5_isByte 7 = .ok (.bipush 126, 2) := by decide +kernel
theorem dX5_isByte_9 : decode cX5_isByte 9 = .ok (.if_icmp .gt 7, 3) := by decide +kernel
theorem dX5_isByte_12 : decode cX5_isByte 12 = .ok (.iconst 1, 1) := by decide +kernel
theorem dX5_isByte_13 : decode cX5_isByte 13 = .ok (.goto 4, 3) := by decide +kernel
theorem dX5_isByte_16 : decode cX5_isByte 16 = .ok (.iconst 0, 1) := by decide +kernel
theorem dX5_isByte_17 : decode cX5_isByte 17 = .ok (.ireturn, 1) := by decide +kernel
theorem dX5_packedByte_0 : decode cX5_packedByte 0 = .ok (.lload_n 0, 1) := by decide +kernel
theorem dX5_packedByte_1 : decode cX5_packedByte 1 = .ok (.bipush 8, 2) := by decide +kernel
theorem dX5_packedByte_3 : decode cX5_packedByte 3 = .ok (.bipush 7, 2) := by decide +kernel
theorem dX5_packedByte_5 : decode cX5_packedByte 5 = .ok (.iload_n 2, 1) := by decide +kernel
theorem dX5_packedByte_6 : decode cX5_packedByte 6 = .ok (.isub, 1) := by decide +kernel
theorem dX5_packedByte_7 : decode cX5_packedByte 7 = .ok (.imul, 1) := by decide +kernel
theorem dX5_packedByte_8 : decode cX5_packedByte 8 = .ok (.lushr, 1) := by decide +kernel
theorem dX5_packedByte_9 : decode cX5_packedByte 9 = .ok (.l2i, 1) := by decide +kernel
theorem dX5_packedByte_10 : decode cX5_packedByte 10 = .ok (.sipush 255, 3) := by decide +kernel
theorem dX5_packedByte_13 : decode cX5_packedByte 13 = .ok (.iand, 1) := by decide +kernel
theorem dX5_packedByte_14 : decode cX5_packedByte 14 = .ok (.ireturn, 1) := by decide +kernel
set_option maxRecDepth 20000 in
theorem ggX5_areBytes_X5_packedByte : GoodIn wsX5_areBytes wsX5_packedByte := goodIn_r _ [4] (by decide +kernel) (by decide +kernel)
set_option maxRecDepth 20000 in
theorem gX5_areBytes_X5_packedByte : GoodIn wsX5_areBytes (va_wsS RX5 186 yX5_packedByte wsX5_packedByte) := goodIn_app (goodIn_of _ (by decide +kernel)) ggX5_areBytes_X5_packedByte
set_option maxRecDepth 20000 in
theorem ggX5_areBytes_X5_isByte : GoodIn wsX5_areBytes wsX5_isByte := goodIn_r _ [7] (by decide +kernel) (by decide +kernel)
set_option maxRecDepth 20000 in
theorem gX5_areBytes_X5_isByte : GoodIn wsX5_areBytes (va_wsS RX5 53 yX5_isByte wsX5_isByte) := goodIn_app (goodIn_of _ (by decide +kernel)) ggX5_areBytes_X5_isByte
theorem dX5_areBytes_0 : decode cX5_areBytes 0 = .ok (.iconst 0, 1) := by decide +kernel
theorem dX5_areBytes_1 : decode cX5_areBytes 1 = .ok (.istore_n 2, 1) := by decide +kernel
theorem dX5_areBytes_2 : decode cX5_areBytes 2 = .ok (.iload_n 2, 1) := by decide +kernel
theorem dX5_areBytes_3 : decode cX5_areBytes 3 = .ok (.bipush 8, 2) := by decide +kernel
theorem dX5_areBytes_5 : decode cX5_areBytes 5 = .ok (.if_icmp .ge 28, 3) := by decide +kernel
theorem dX5_areBytes_8 : decode cX5_areBytes 8 = .ok (.lload_n 0, 1) := by decide +kernel
theorem dX5_areBytes_9 : decode cX5_areBytes 9 = .ok (.iload_n 2, 1) := by decide +kernel
theorem dX5_areBytes_10 : decode cX5_areBytes 10 = .ok (.invokestatic 186, 3) := by decide +kernel
theorem dX5_areBytes_13 : decode cX5_areBytes 13 = .ok (.istore_n 3, 1) := by decide +kernel
theorem dX5_areBytes_14 : decode cX5_areBytes 14 = .ok (.iload_n 3, 1) := by decide +kernel
theorem dX5_areBytes_15 : decode cX5_areBytes 15 = .ok (.ifCond .eq 12, 3) := by decide +kernel
theorem dX5_areBytes_18 : decode cX5_areBytes 18 = .ok (.iload_n 3, 1) := by decide +kernel
theorem dX5_areBytes_19 : decode cX5_areBytes 19 = .ok (.invokestatic 53, 3) := by decide +kernel
theorem dX5_areBytes_22 : decode cX5_areBytes 22 = .ok (.ifCond .ne 5, 3) := by decide +kernel
theorem dX5_areBytes_25 : decode cX5_areBytes 25 = .ok (.iconst 0, 1) := by decide +kernel
theorem dX5_areBytes_26 : decode cX5_areBytes 26 = .ok (.ireturn, 1) := by decide +kernel
theorem dX5_areBytes_27 : decode cX5_areBytes 27 = .ok (.iinc 2 1, 3) := by decide +kernel
theorem dX5_areBytes_30 : decode cX5_areBytes 30 = .ok (.goto (-28), 3) := by decide +kernel
theorem dX5_areBytes_33 : decode cX5_areBytes 33 = .ok (.iconst 1, 1) := by decide +kernel
theorem dX5_areBytes_34 : decode cX5_areBytes 34 = .ok (.ireturn, 1) := by decide +kernel
set_option maxRecDepth 20000 in
theorem ggX5_countBytes_X5_packedByte : GoodIn wsX5_countBytes wsX5_packedByte := goodIn_r _ [4] (by decide +kernel) (by decide +kernel)
set_option maxRecDepth 20000 in
theorem gX5_countBytes_X5_packedByte : GoodIn wsX5_countBytes (va_wsS RX5 186 yX5_packedByte wsX5_packedByte) := goodIn_app (goodIn_of _ (by decide +kernel)) ggX5_countBytes_X5_packedByte
theorem dX5_countBytes_0 : decode cX5_countBytes 0 = .ok (.iconst 0, 1) := by decide +kernel
theorem dX5_countBytes_1 : decode cX5_countBytes 1 = .ok (.istore_n 2, 1) := by decide +kernel
theorem dX5_countBytes_2 : decode cX5_countBytes 2 = .ok (.iconst 0, 1) := by decide +kernel
theorem dX5_countBytes_3 : decode cX5_countBytes 3 = .ok (.istore_n 3, 1) := by decide +kernel
theorem dX5_countBytes_4 : decode cX5_countBytes 4 = .ok (.iload_n 3, 1) := by decide +kernel
theorem dX5_countBytes_5 : decode cX5_countBytes 5 = .ok (.bipush 8, 2) := by decide +kernel
theorem dX5_countBytes_7 : decode cX5_countBytes 7 = .ok (.if_icmp .ge 20, 3) := by decide +kernel
theorem dX5_countBytes_10 : decode cX5_countBytes 10 = .ok (.lload_n 0, 1) := by decide +kernel
theorem dX5_countBytes_11 : decode cX5_countBytes 11 = .ok (.iload_n 3, 1) := by decide +kernel
theorem dX5_countBytes_12 : decode cX5_countBytes 12 = .ok (.invokestatic 186, 3) := by decide +kernel
theorem dX5_countBytes_15 : decode cX5_countBytes 15 = .ok (.ifCond .eq 6, 3) := by decide +kernel
theorem dX5_countBytes_18 : decode cX5_countBytes 18 = .ok (.iinc 2 1, 3) := by decide +kernel
theorem dX5_countBytes_21 : decode cX5_countBytes 21 = .ok (.iinc 3 1, 3) := by decide +kernel
theorem dX5_countBytes_24 : decode cX5_countBytes 24 = .ok (.goto (-20), 3) := by decide +kernel
theorem dX5_countBytes_27 : decode cX5_countBytes 27 = .ok (.iload_n 2, 1) := by decide +kernel
theorem dX5_countBytes_28 : decode cX5_countBytes 28 = .ok (.ireturn, 1) := by decide +kernel
theorem dX5_cell_0 : decode cX5_cell 0 = .ok (.iload_n 1, 1) := by decide +kernel
theorem dX5_cell_1 : decode cX5_cell 1 = .ok (.bipush 10, 2) := by decide +kernel
theorem dX5_cell_3 : decode cX5_cell 3 = .ok (.imul, 1) := by decide +kernel
theorem dX5_cell_4 : decode cX5_cell 4 = .ok (.iload_n 0, 1) := by decide +kernel
theorem dX5_cell_5 : decode cX5_cell 5 = .ok (.iadd, 1) := by decide +kernel
theorem dX5_cell_6 : decode cX5_cell 6 = .ok (.ireturn, 1) := by decide +kernel
theorem dX5_bit_0 : decode cX5_bit 0 = .ok (.iconst 1, 1) := by decide +kernel
theorem dX5_bit_1 : decode cX5_bit 1 = .ok (.iload_n 0, 1) := by decide +kernel
theorem dX5_bit_2 : decode cX5_bit 2 = .ok (.ishl, 1) := by decide +kernel
theorem dX5_bit_3 : decode cX5_bit 3 = .ok (.ireturn, 1) := by decide +kernel
theorem dX5_mix_0 : decode cX5_mix 0 = .ok (.lload_n 0, 1) := by decide +kernel
theorem dX5_mix_1 : decode cX5_mix 1 = .ok (.ldc2_w 190, 3) := by decide +kernel
theorem dX5_mix_4 : decode cX5_mix 4 = .ok (.lmul, 1) := by decide +kernel
theorem dX5_mix_5 : decode cX5_mix 5 = .ok (.iload_n 2, 1) := by decide +kernel
theorem dX5_mix_6 : decode cX5_mix 6 = .ok (.i2l, 1) := by decide +kernel
theorem dX5_mix_7 : decode cX5_mix 7 = .ok (.ladd, 1) := by decide +kernel
theorem dX5_mix_8 : decode cX5_mix 8 = .ok (.lreturn, 1) := by decide +kernel
theorem dJ9_max_7cf53_0 : decode cJ9_max_7cf53 0 = .ok (.iload_n 0, 1) := by decide +kernel
theorem dJ9_max_7cf53_1 : decode cJ9_max_7cf53 1 = .ok (.iload_n 1, 1) := by decide +kernel
theorem dJ9_max_7cf53_2 : decode cJ9_max_7cf53 2 = .ok (.if_icmp .lt 7, 3) := by decide +kernel
theorem dJ9_max_7cf53_5 : decode cJ9_max_7cf53 5 = .ok (.iload_n 0, 1) := by decide +kernel
theorem dJ9_max_7cf53_6 : decode cJ9_max_7cf53 6 = .ok (.goto 4, 3) := by decide +kernel
theorem dJ9_max_7cf53_9 : decode cJ9_max_7cf53 9 = .ok (.iload_n 1, 1) := by decide +kernel
theorem dJ9_max_7cf53_10 : decode cJ9_max_7cf53 10 = .ok (.ireturn, 1) := by decide +kernel
theorem dJ9_min_7cf53_0 : decode cJ9_min_7cf53 0 = .ok (.iload_n 0, 1) := by decide +kernel
theorem dJ9_min_7cf53_1 : decode cJ9_min_7cf53 1 = .ok (.iload_n 1, 1) := by decide +kernel
theorem dJ9_min_7cf53_2 : decode cJ9_min_7cf53 2 = .ok (.if_icmp .gt 7, 3) := by decide +kernel
theorem dJ9_min_7cf53_5 : decode cJ9_min_7cf53 5 = .ok (.iload_n 0, 1) := by decide +kernel
theorem dJ9_min_7cf53_6 : decode cJ9_min_7cf53 6 = .ok (.goto 4, 3) := by decide +kernel
theorem dJ9_min_7cf53_9 : decode cJ9_min_7cf53 9 = .ok (.iload_n 1, 1) := by decide +kernel
theorem dJ9_min_7cf53_10 : decode cJ9_min_7cf53 10 = .ok (.ireturn, 1) := by decide +kernel
theorem dJ7_fill_53178_0 : decode cJ7_fill_53178 0 = .ok (.iconst 0, 1) := by decide +kernel
theorem dJ7_fill_53178_1 : decode cJ7_fill_53178 1 = .ok (.istore_n 2, 1) := by decide +kernel
theorem dJ7_fill_53178_2 : decode cJ7_fill_53178 2 = .ok (.aload_n 0, 1) := by decide +kernel
theorem dJ7_fill_53178_3 : decode cJ7_fill_53178 3 = .ok (.arraylength, 1) := by decide +kernel
theorem dJ7_fill_53178_4 : decode cJ7_fill_53178 4 = .ok (.istore_n 3, 1) := by decide +kernel
theorem dJ7_fill_53178_5 : decode cJ7_fill_53178 5 = .ok (.iload_n 2, 1) := by decide +kernel
theorem dJ7_fill_53178_6 : decode cJ7_fill_53178 6 = .ok (.iload_n 3, 1) := by decide +kernel
theorem dJ7_fill_53178_7 : decode cJ7_fill_53178 7 = .ok (.if_icmp .ge 13, 3) := by decide +kernel
theorem dJ7_fill_53178_10 : decode cJ7_fill_53178 10 = .ok (.aload_n 0, 1) := by decide +kernel
theorem dJ7_fill_53178_11 : decode cJ7_fill_53178 11 = .ok (.iload_n 2, 1) := by decide +kernel
theorem dJ7_fill_53178_12 : decode cJ7_fill_53178 12 = .ok (.iload_n 1, 1) := by decide +kernel
theorem dJ7_fill_53178_13 : decode cJ7_fill_53178 13 = .ok (.iastore, 1) := by decide +kernel
theorem dJ7_fill_53178_14 : decode cJ7_fill_53178 14 = .ok (.iinc 2 1, 3) := by decide +kernel
theorem dJ7_fill_53178_17 : decode cJ7_fill_53178 17 = .ok (.goto (-12), 3) := by decide +kernel
theorem dJ7_fill_53178_20 : decode cJ7_fill_53178 20 = .ok (.return_, 1) := by decide +kernel
theorem dJ7_fill_49daa_0 : decode cJ7_fill_49daa 0 = .ok (.iconst 0, 1) := by decide +kernel
theorem dJ7_fill_49daa_1 : decode cJ7_fill_49daa 1 = .ok (.istore_n 2, 1) := by decide +kernel
theorem dJ7_fill_49daa_2 : decode cJ7_fill_49daa 2 = .ok (.aload_n 0, 1) := by decide +kernel
theorem dJ7_fill_49daa_3 : decode cJ7_fill_49daa 3 = .ok (.arraylength, 1) := by decide +kernel
theorem dJ7_fill_49daa_4 : decode cJ7_fill_49daa 4 = .ok (.istore_n 3, 1) := by decide +kernel
theorem dJ7_fill_49daa_5 : decode cJ7_fill_49daa 5 = .ok (.iload_n 2, 1) := by decide +kernel
theorem dJ7_fill_49daa_6 : decode cJ7_fill_49daa 6 = .ok (.iload_n 3, 1) := by decide +kernel
theorem dJ7_fill_49daa_7 : decode cJ7_fill_49daa 7 = .ok (.if_icmp .ge 13, 3) := by decide +kernel
theorem dJ7_fill_49daa_10 : decode cJ7_fill_49daa 10 = .ok (.aload_n 0, 1) := by decide +kernel
theorem dJ7_fill_49daa_11 : decode cJ7_fill_49daa 11 = .ok (.iload_n 2, 1) := by decide +kernel
theorem dJ7_fill_49daa_12 : decode cJ7_fill_49daa 12 = .ok (.iload_n 1, 1) := by decide +kernel
theorem dJ7_fill_49daa_13 : decode cJ7_fill_49daa 13 = .ok (.bastore, 1) := by decide +kernel
theorem dJ7_fill_49daa_14 : decode cJ7_fill_49daa 14 = .ok (.iinc 2 1, 3) := by decide +kernel
theorem dJ7_fill_49daa_17 : decode cJ7_fill_49daa 17 = .ok (.goto (-12), 3) := by decide +kernel
theorem dJ7_fill_49daa_20 : decode cJ7_fill_49daa 20 = .ok (.return_, 1) := by decide +kernel
end
section
theorem dX6_init_0 : decode cX6_init 0 = .ok (.aload_n 0, 1) := by decide +kernel
theorem dX6_init_1 : decode cX6_init 1 = .ok (.invokespecial 3, 3) := by decide +kernel
theorem dX6_init_4 : decode cX6_init 4 = .ok (.aload_n 0, 1) := by decide +kernel
theorem dX6_init_5 : decode cX6_init 5 = .ok (.bipush 80, 2) := by decide +kernel
theorem dX6_init_7 : decode cX6_init 7 = .ok (.newarray .int, 2) := by decide +kernel
theorem dX6_init_9 : decode cX6_init 9 = .ok (.putfield 9, 3) := by decide +kernel
theorem dX6_init_12 : decode cX6_init 12 = .ok (.aload_n 0, 1) := by decide +kernel
theorem dX6_init_13 : decode cX6_init 13 = .ok (.bipush 80, 2) := by decide +kernel
theorem dX6_init_15 : decode cX6_init 15 = .ok (.newarray .int, 2) := by decide +kernel
theorem dX6_init_17 : decode cX6_init 17 = .ok (.putfield 13, 3) := by decide +kernel
theorem dX6_init_20 : decode cX6_init 20 = .ok (.aload_n 0, 1) := by decide +kernel
theorem dX6_init_21 : decode cX6_init 21 = .ok (.bipush 80, 2) := by decide +kernel
theorem dX6_init_23 : decode cX6_init 23 = .ok (.newarray .int, 2) := by decide +kernel
theorem dX6_init_25 : decode cX6_init 25 = .ok (.putfield 16, 3) := by decide +kernel
theorem dX6_init_28 : decode cX6_init 28 = .ok (.aload_n 0, 1) := by decide +kernel
theorem dX6_init_29 : decode cX6_init 29 = .ok (.bipush 10, 2) := by decide +kernel
theorem dX6_init_31 : decode cX6_init 31 = .ok (.newarray .int, 2) := by decide +kernel
theorem dX6_init_33 : decode cX6_init 33 = .ok (.putfield 19, 3) := by decide +kernel
theorem dX6_init_36 : decode cX6_init 36 = .ok (.aload_n 0, 1) := by decide +kernel
theorem dX6_init_37 : decode cX6_init 37 = .ok (.bipush 40, 2) := by decide +kernel
theorem dX6_init_39 : decode cX6_init 39 = .ok (.newarray .int, 2) := by decide +kernel
theorem dX6_init_41 : decode cX6_init 41 = .ok (.putfield 22, 3) := by decide +kernel
theorem dX6_init_44 : decode cX6_init 44 = .ok (.aload_n 0, 1) := by decide +kernel
theorem dX6_init_45 : decode cX6_init 45 = .ok (.sipush 410, 3) := by decide +kernel
theorem dX6_init_48 : decode cX6_init 48 = .ok (.newarray .boolean, 2) := by decide +kernel
theorem dX6_init_50 : decode cX6_init 50 = .ok (.putfield 25, 3) := by decide +kernel
theorem dX6_init_53 : decode cX6_init 53 = .ok (.aload_n 0, 1) := by decide +kernel
theorem dX6_init_54 : decode cX6_init 54 = .ok (.sipush 410, 3) := by decide +kernel
theorem dX6_init_57 : decode cX6_init 57 = .ok (.newarray .int, 2) := by decide +kernel
theorem dX6_init_59 : decode cX6_init 59 = .ok (.putfield 29, 3) := by decide +kernel
theorem dX6_init_62 : decode cX6_init 62 = .ok (.aload_n 0, 1) := by decide +kernel
theorem dX6_init_63 : decode cX6_init 63 = .ok (.sipush 410, 3) := by decide +kernel
theorem dX6_init_66 : decode cX6_init 66 = .ok (.newarray .int, 2) := by decide +kernel
theorem dX6_init_68 : decode cX6_init 68 = .ok (.putfield 32, 3) := by decide +kernel
theorem dX6_init_71 : decode cX6_init 71 = .ok (.aload_n 0, 1) := by decide +kernel
theorem dX6_init_72 : decode cX6_init 72 = .ok (.sipush 410, 3) := by decide +kernel
theorem dX6_init_75 : decode cX6_init 75 = .ok (.newarray .int, 2) := by decide +kernel
theorem dX6_init_77 : decode cX6_init 77 = .ok (.putfield 35, 3) := by decide +kernel
theorem dX6_init_80 : decode cX6_init 80 = .ok (.aload_n 0, 1) := by decide +kernel
theorem dX6_init_81 : decode cX6_init 81 = .ok (.bipush 102, 2) := by decide +kernel
theorem dX6_init_83 : decode cX6_init 83 = .ok (.newarray .int, 2) := by decide +kernel
theorem dX6_init_85 : decode cX6_init 85 = .ok (.putfield 38, 3) := by decide +kernel
theorem dX6_init_88 : decode cX6_init 88 = .ok (.aload_n 0, 1) := by decide +kernel
theorem dX6_init_89 : decode cX6_init 89 = .ok (.bipush 102, 2) := by decide +kernel
theorem dX6_init_91 : decode cX6_init 91 = .ok (.newarray .int, 2) := by decide +kernel
theorem dX6_init_93 : decode cX6_init 93 = .ok (.putfield 41, 3) := by decide +kernel
theorem dX6_init_96 : decode cX6_init 96 = .ok (.aload_n 0, 1) := by decide +kernel
theorem dX6_init_97 : decode cX6_init 97 = .ok (.bipush 102, 2) := by decide +kernel
theorem dX6_init_99 : decode cX6_init 99 = .ok (.newarray .int, 2) := by decide +kernel
theorem dX6_init_101 : decode cX6_init 101 = .ok (.putfield 44, 3) := by decide +kernel
theorem dX6_init_104 : decode cX6_init 104 = .ok (.aload_n 0, 1) := by decide +kernel
theorem dX6_init_105 : decode cX6_init 105 = .ok (.bipush 102, 2) := by decide +kernel
theorem dX6_init_107 : decode cX6_init 107 = .ok (.newarray .boolean, 2) := by decide +kernel
theorem dX6_init_109 : decode cX6_init 109 = .ok (.putfield 47, 3) := by decide +kernel
theorem dX6_init_112 : decode cX6_init 112 = .ok (.aload_n 0, 1) := by decide +kernel
theorem dX6_init_113 : decode cX6_init 113 = .ok (.bipush 102, 2) := by decide +kernel
theorem dX6_init_115 : decode cX6_init 115 = .ok (.newarray .boolean, 2) := by decide +kernel
theorem dX6_init_117 : decode cX6_init 117 = .ok (.putfield 50, 3) := by decide +kernel
theorem dX6_init_120 : decode cX6_init 120 = .ok (.aload_n 0, 1) := by decide +kernel
theorem dX6_init_121 : decode cX6_init 121 = .ok (.bipush 102, 2) := by decide +kernel
theorem dX6_init_123 : decode cX6_init 123 = .ok (.newarray .int, 2) := by decide +kernel
theorem dX6_init_125 : decode cX6_init 125 = .ok (.putfield 53, 3) := by decide +kernel
theorem dX6_init_128 : decode cX6_init 128 = .ok (.aload_n 0, 1) := by decide +kernel
theorem dX6_init_129 : decode cX6_init 129 = .ok (.bipush 102, 2) := by decide +kernel
theorem dX6_init_131 : decode cX6_init 131 = .ok (.newarray .int, 2) := by decide +kernel
theorem dX6_init_133 : decode cX6_init 133 = .ok (.putfield 56, 3) := by decide +kernel
theorem dX6_init_136 : decode cX6_init 136 = .ok (.aload_n 0, 1) := by decide +kernel
theorem dX6_init_137 : decode cX6_init 137 = .ok (.iconst (-1), 1) := by decide +kernel
theorem dX6_init_138 : decode cX6_init 138 = .ok (.putfield 59, 3) := by decide +kernel
theorem dX6_init_141 : decode cX6_init 141 = .ok (.aload_n 0, 1) := by decide +kernel
theorem dX6_init_142 : decode cX6_init 142 = .ok (.bipush 10, 2) := by decide +kernel
theorem dX6_init_144 : decode cX6_init 144 = .ok (.newarray .boolean, 2) := by decide +kernel
theorem dX6_init_146 : decode cX6_init 146 = .ok (.putfield 63, 3) := by decide +kernel
theorem dX6_init_149 : decode cX6_init 149 = .ok (.aload_n 0, 1) := by decide +kernel
theorem dX6_init_150 : decode cX6_init 150 = .ok (.bipush 80, 2) := by decide +kernel
theorem dX6_init_152 : decode cX6_init 152 = .ok (.newarray .boolean, 2) := by decide +kernel
theorem dX6_init_154 : decode cX6_init 154 = .ok (.putfield 66, 3) := by decide +kernel
theorem dX6_init_157 : decode cX6_init 157 = .ok (.aload_n 0, 1) := by decide +kernel
theorem dX6_init_158 : decode cX6_init 158 = .ok (.bipush 80, 2) := by decide +kernel
theorem dX6_init_160 : decode cX6_init 160 = .ok (.newarray .int, 2) := by decide +kernel
theorem dX6_init_162 : decode cX6_init 162 = .ok (.putfield 69, 3) := by decide +kernel
theorem dX6_init_165 : decode cX6_init 165 = .ok (.iconst 0, 1) := by decide +kernel
theorem dX6_init_166 : decode cX6_init 166 = .ok (.istore_n 1, 1) := by decide +kernel
theorem dX6_init_167 : decode cX6_init 167 = .ok (.iload_n 1, 1) := by decide +kernel
theorem dX6_init_168 : decode cX6_init 168 = .ok (.bipush 10, 2) := by decide +kernel
theorem dX6_init_170 : decode cX6_init 170 = .ok (.if_icmp .ge 16, 3) := by decide +kernel
theorem dX6_init_173 : decode cX6_init 173 = .ok (.aload_n 0, 1) := by decide +kernel
theorem dX6_init_174 : decode cX6_init 174 = .ok (.getfield 19, 3) := by decide +kernel
theorem dX6_init_177 : decode cX6_init 177 = .ok (.iload_n 1, 1) := by decide +kernel
theorem dX6_init_178 : decode cX6_init 178 = .ok (.iconst (-1), 1) := by decide +kernel
theorem dX6_init_179 : decode cX6_init 179 = .ok (.iastore, 1) := by decide +kernel
theorem dX6_init_180 : decode cX6_init 180 = .ok (.iinc 1 1, 3) := by decide +kernel
theorem dX6_init_183 : decode cX6_init 183 = .ok (.goto (-16), 3) := by decide +kernel
theorem dX6_init_186 : decode cX6_init 186 = .ok (.return_, 1) := by decide +kernel
theorem dX6_thrown_0 : decode cX6_thrown 0 = .ok (.aload_n 0, 1) := by decide +kernel
theorem dX6_thrown_1 : decode cX6_thrown 1 = .ok (.getfield 72, 3) := by decide +kernel
theorem dX6_thrown_4 : decode cX6_thrown 4 = .ok (.ireturn, 1) := by decide +kernel
theorem dX6_fail_0 : decode cX6_fail 0 = .ok (.aload_n 0, 1) := by decide +kernel
theorem dX6_fail_1 : decode cX6_fail 1 = .ok (.iload_n 1, 1) := by decide +kernel
theorem dX6_fail_2 : decode cX6_fail 2 = .ok (.putfield 72, 3) := by decide +kernel
theorem dX6_fail_5 : decode cX6_fail 5 = .ok (.iconst 0, 1) := by decide +kernel
theorem dX6_fail_6 : decode cX6_fail 6 = .ok (.ireturn, 1) := by decide +kernel
theorem dX6_isExpression_0 : decode cX6_isExpression 0 = .ok (.iload_n 1, 1) := by decide +kernel
theorem dX6_isExpression_1 : decode cX6_isExpression 1 = .ok (.ifCond .lt 15, 3) := by decide +kernel
theorem dX6_isExpression_4 : decode cX6_isExpression 4 = .ok (.iload_n 1, 1) := by decide +kernel
theorem dX6_isExpression_5 : decode cX6_isExpression 5 = .ok (.aload_n 0, 1) := by decide +kernel
theorem dX6_isExpression_6 : decode cX6_isExpression 6 = .ok (.getfield 75, 3) := by decide +kernel
theorem dX6_isExpression_9 : decode cX6_isExpression 9 = .ok (.if_icmp .ge 7, 3) := by decide +kernel
theorem dX6_isExpression_12 : decode cX6_isExpression 12 = .ok (.iconst 1, 1) := by decide +kernel
theorem dX6_isExpression_13 : decode cX6_isExpression 13 = .ok (.goto 4, 3) := by decide +kernel
theorem dX6_isExpression_16 : decode cX6_isExpression 16 = .ok (.iconst 0, 1) := by decide +kernel
theorem dX6_isExpression_17 : decode cX6_isExpression 17 = .ok (.ireturn, 1) := by decide +kernel
theorem dX6_isRule_0 : decode cX6_isRule 0 = .ok (.iload_n 0, 1) := by decide +kernel
theorem dX6_isRule_1 : decode cX6_isRule 1 = .ok (.ifCond .lt 13, 3) := by decide +kernel
theorem dX6_isRule_4 : decode cX6_isRule 4 = .ok (.iload_n 0, 1) := by decide +kernel
theorem dX6_isRule_5 : decode cX6_isRule 5 = .ok (.bipush 10, 2) := by decide +kernel
theorem dX6_isRule_7 : decode cX6_isRule 7 = .ok (.if_icmp .ge 7, 3) := by decide +kernel
theorem dX6_isRule_10 : decode cX6_isRule 10 = .ok (.iconst 1, 1) := by decide +kernel
theorem dX6_isRule_11 : decode cX6_isRule 11 = .ok (.goto 4, 3) := by decide +kernel
theorem dX6_isRule_14 : decode cX6_isRule 14 = .ok (.iconst 0, 1) := by decide +kernel
theorem dX6_isRule_15 : decode cX6_isRule 15 = .ok (.ireturn, 1) := by decide +kernel
theorem dX6_isByte_0 : decode cX6_isByte 0 = .ok (.iload_n 0, 1) := by decide +kernel
theorem dX6_isByte_1 : decode cX6_isByte 1 = .ok (.bipush 32, 2) := by decide +kernel
theorem dX6_isByte_3 : decode cX6_isByte 3 = .ok (.if_icmp .lt 13, 3) := by decide +kernel
theorem dX6_isByte_6 : decode cX6_isByte 6 = .ok (.iload_n 0, 1) := by decide +kernel
theorem dX6_isByte_7 : decode cX6_isByte 7 = .ok (.bipush 126, 2) := by decide +kernel
theorem dX6_isByte_9 : decode cX6_isByte 9 = .ok (.if_icmp .gt 7, 3) := by decide +kernel
theorem dX6_isByte_12 : decode cX6_isByte 12 = .ok (.iconst 1, 1) := by decide +kernel
theorem dX6_isByte_13 : decode cX6_isByte 13 = .ok (.goto 4, 3) := by decide +kernel
theorem dX6_isByte_16 : decode cX6_isByte 16 = .ok (.iconst 0, 1) := by decide +kernel
theorem dX6_isByte_17 : decode cX6_isByte 17 = .ok (.ireturn, 1) := by decide +kernel
theorem dX6_add_0 : decode cX6_add 0 = .ok (.aload_n 0, 1) := by decide +kernel
theorem dX6_add_1 : decode cX6_add 1 = .ok (.getfield 9, 3) := by decide +kernel
theorem dX6_add_4 : decode cX6_add 4 = .ok (.aload_n 0, 1) := by decide +kernel
theorem dX6_add_5 : decode cX6_add 5 = .ok (.getfield 75, 3) := by decide +kernel
theorem dX6_add_8 : decode cX6_add 8 = .ok (.iload_n 1, 1) := by decide +kernel
theorem dX6_add_9 : decode cX6_add 9 = .ok (.iastore, 1) := by decide +kernel
theorem dX6_add_10 : decode cX6_add 10 = .ok (.aload_n 0, 1) := by decide +kernel
theorem dX6_add_11 : decode cX6_add 11 = .ok (.getfield 13, 3) := by decide +kernel
theorem dX6_add_14 : decode cX6_add 14 = .ok (.aload_n 0, 1) := by decide +kernel
theorem dX6_add_15 : decode cX6_add 15 = .ok (.getfield 75, 3) := by decide +kernel
theorem dX6_add_18 : decode cX6_add 18 = .ok (.iload_n 2, 1) := by decide +kernel
theorem dX6_add_19 : decode cX6_add 19 = .ok (.iastore, 1) := by decide +kernel
theorem dX6_add_20 : decode cX6_add 20 = .ok (.aload_n 0, 1) := by decide +kernel
theorem dX6_add_21 : decode cX6_add 21 = .ok (.getfield 16, 3) := by decide +kernel
theorem dX6_add_24 : decode cX6_add 24 = .ok (.aload_n 0, 1) := by decide +kernel
theorem dX6_add_25 : decode cX6_add 25 = .ok (.getfield 75, 3) := by decide +kernel
theorem dX6_add_28 : decode cX6_add 28 = .ok (.iload_n 3, 1) := by decide +kernel
theorem dX6_add_29 : decode cX6_add 29 = .ok (.iastore, 1) := by decide +kernel
theorem dX6_add_30 : decode cX6_add 30 = .ok (.aload_n 0, 1) := by decide +kernel
theorem dX6_add_31 : decode cX6_add 31 = .ok (.dup, 1) := by decide +kernel
theorem dX6_add_32 : decode cX6_add 32 = .ok (.getfield 75, 3) := by decide +kernel
theorem dX6_add_35 : decode cX6_add 35 = .ok (.iconst 1, 1) := by decide +kernel
theorem dX6_add_36 : decode cX6_add 36 = .ok (.iadd, 1) := by decide +kernel
theorem dX6_add_37 : decode cX6_add 37 = .ok (.putfield 75, 3) := by decide +kernel
theorem dX6_add_40 : decode cX6_add 40 = .ok (.aload_n 0, 1) := by decide +kernel
theorem dX6_add_41 : decode cX6_add 41 = .ok (.getfield 75, 3) := by decide +kernel
theorem dX6_add_44 : decode cX6_add 44 = .ok (.iconst 1, 1) := by decide +kernel
theorem dX6_add_45 : decode cX6_add 45 = .ok (.isub, 1) := by decide +kernel
theorem dX6_add_46 : decode cX6_add 46 = .ok (.ireturn, 1) := by decide +kernel
set_option maxRecDepth 20000 in
theorem ggX6_plain_X6_fail : GoodIn wsX6_plain wsX6_fail := goodIn_r _ [7, 1, 15, 16, 17, 18, 19, 20, 21, 22, 23, 24, 25, 26, 27, 28, 29, 30, 31, 32, 33, 34, 35, 36, 37, 38, 39, 40, 41, 42, 43] (by decide +kernel) (by decide +kernel)
set_option maxRecDepth 20000 in
theorem gX6_plain_X6_fail : GoodIn wsX6_plain (wsV RX6 78 RX6 yX6_fail wsX6_fail) := goodIn_app (goodIn_of _ (by decide +kernel)) ggX6_plain_X6_fail
set_option maxRecDepth 20000 in
theorem ggX6_plain_X6_add : GoodIn wsX6_plain wsX6_add := goodIn_r _ [11, 12, 2, 13, 14, 15, 16, 17, 18, 19, 20, 21, 22, 23, 24, 25, 26, 27, 28, 29, 30, 31, 32, 33, 34, 35, 36, 37, 38, 39, 40, 41, 42, 43] (by decide +kernel) (by decide +kernel)
set_option maxRecDepth 20000 in
theorem gX6_plain_X6_add : GoodIn wsX6_plain (wsV RX6 82 RX6 yX6_add wsX6_add) := goodIn_app (goodIn_of _ (by decide +kernel)) ggX6_plain_X6_add
theorem dX6_plain_0 : decode cX6_plain 0 = .ok (.aload_n 0, 1) := by decide +kernel
theorem dX6_plain_1 : decode cX6_plain 1 = .ok (.iconst 0, 1) := by decide +kernel
theorem dX6_plain_2 : decode cX6_plain 2 = .ok (.putfield 72, 3) := by decide +kernel
theorem dX6_plain_5 : decode cX6_plain 5 = .ok (.iload_n 1, 1) := by decide +kernel
theorem dX6_plain_6 : decode cX6_plain 6 = .ok (.ifCond .eq 14, 3) := by decide +kernel
theorem dX6_plain_9 : decode cX6_plain 9 = .ok (.iload_n 1, 1) := by decide +kernel
theorem dX6_plain_10 : decode cX6_plain 10 = .ok (.iconst 1, 1) := by decide +kernel
theorem dX6_plain_11 : decode cX6_plain 11 = .ok (.if_icmp .eq 9, 3) := by decide +kernel
theorem dX6_plain_14 : decode cX6_plain 14 = .ok (.aload_n 0, 1) := by decide +kernel
theorem dX6_plain_15 : decode cX6_plain 15 = .ok (.iconst 1, 1) := by decide +kernel
theorem dX6_plain_16 : decode cX6_plain 16 = .ok (.invokevirtual 78, 3) := by decide +kernel
theorem dX6_plain_19 : decode cX6_plain 19 = .ok (.ireturn, 1) := by decide +kernel
theorem dX6_plain_20 : decode cX6_plain 20 = .ok (.aload_n 0, 1) := by decide +kernel
theorem dX6_plain_21 : decode cX6_plain 21 = .ok (.getfield 75, 3) := by decide +kernel
theorem dX6_plain_24 : decode cX6_plain 24 = .ok (.bipush 80, 2) := by decide +kernel
theorem dX6_plain_26 : decode cX6_plain 26 = .ok (.if_icmp .ne 11, 3) := by decide +kernel
theorem dX6_plain_29 : decode cX6_plain 29 = .ok (.aload_n 0, 1) := by decide +kernel
theorem dX6_plain_30 : decode cX6_plain 30 = .ok (.iconst 2, 1) := by decide +kernel
theorem dX6_plain_31 : decode cX6_plain 31 = .ok (.invokevirtual 78, 3) := by decide +kernel
theorem dX6_plain_34 : decode cX6_plain 34 = .ok (.goto 10, 3) := by decide +kernel
theorem dX6_plain_37 : decode cX6_plain 37 = .ok (.aload_n 0, 1) := by decide +kernel
theorem dX6_plain_38 : decode cX6_plain 38 = .ok (.iload_n 1, 1) := by decide +kernel
theorem dX6_plain_39 : decode cX6_plain 39 = .ok (.iconst 0, 1) := by decide +kernel
theorem dX6_plain_40 : decode cX6_plain 40 = .ok (.iconst 0, 1) := by decide +kernel
theorem dX6_plain_41 : decode cX6_plain 41 = .ok (.invokevirtual 82, 3) := by decide +kernel
theorem dX6_plain_44 : decode cX6_plain 44 = .ok (.ireturn, 1) := by decide +kernel
set_option maxRecDepth 20000 in
theorem ggX6_range_X6_isByte : GoodIn wsX6_range wsX6_isByte := goodIn_r _ [6] (by decide +kernel) (by decide +kernel)
set_option maxRecDepth 20000 in
theorem gX6_range_X6_isByte : GoodIn wsX6_range (va_wsS RX6 86 yX6_isByte wsX6_isByte) := goodIn_app (goodIn_of _ (by decide +kernel)) ggX6_range_X6_isByte
set_option maxRecDepth 20000 in
theorem ggX6_range_X6_fail : GoodIn wsX6_range wsX6_fail := goodIn_r _ [10, 1, 18, 19, 20, 21, 22, 23, 24, 25, 26, 27, 28, 29, 30, 31, 32, 33, 34, 35, 36, 37, 38, 39, 40, 41, 42, 43, 44, 45, 46] (by decide +kernel) (by decide +kernel)
set_option maxRecDepth 20000 in
theorem gX6_range_X6_fail : GoodIn wsX6_range (wsV RX6 78 RX6 yX6_fail wsX6_fail) := goodIn_app (goodIn_of _ (by decide +kernel)) ggX6_range_X6_fail
set_option maxRecDepth 20000 in
theorem ggX6_range_X6_add : GoodIn wsX6_range wsX6_add := goodIn_r _ [14, 15, 2, 16, 17, 18, 19, 20, 21, 22, 23, 24, 25, 26, 27, 28, 29, 30, 31, 32, 33, 34, 35, 36, 37, 38, 39, 40, 41, 42, 43, 44, 45, 46] (by decide +kernel) (by decide +kernel)
set_option maxRecDepth 20000 in
theorem gX6_range_X6_add : GoodIn wsX6_range (wsV RX6 82 RX6 yX6_add wsX6_add) := goodIn_app (goodIn_of _ (by decide +kernel)) ggX6_range_X6_add
theorem dX6_range_0 : decode cX6_range 0 = .ok (.aload_n 0, 1) := by decide +kernel
theorem dX6_range_1 : decode cX6_range 1 = .ok (.iconst 0, 1) := by decide +kernel
theorem dX6_range_2 : decode cX6_range 2 = .ok (.putfield 72, 3) := by decide +kernel
theorem dX6_range_5 : decode cX6_range 5 = .ok (.iload_n 1, 1) := by decide +kernel
theorem dX6_range_6 : decode cX6_range 6 = .ok (.invokestatic 86, 3) := by decide +kernel
theorem dX6_range_9 : decode cX6_range 9 = .ok (.ifCond .eq 15, 3) := by decide +kernel
theorem dX6_range_12 : decode cX6_range 12 = .ok (.iload_n 2, 1) := by decide +kernel
theorem dX6_range_13 : decode cX6_range 13 = .ok (.invokestatic 86, 3) := by decide +kernel
theorem dX6_range_16 : decode cX6_range 16 = .ok (.ifCond .eq 8, 3) := by decide +kernel
theorem dX6_range_19 : decode cX6_range 19 = .ok (.iload_n 1, 1) := by decide +kernel
theorem dX6_range_20 : decode cX6_range 20 = .ok (.iload_n 2, 1) := by decide +kernel
theorem dX6_range_21 : decode cX6_range 21 = .ok (.if_icmp .le 9, 3) := by decide +kernel
theorem dX6_range_24 : decode cX6_range 24 = .ok (.aload_n 0, 1) := by decide +kernel
theorem dX6_range_25 : decode cX6_range 25 = .ok (.iconst 1, 1) := by decide +kernel
theorem dX6_range_26 : decode cX6_range 26 = .ok (.invokevirtual 78, 3) := by decide +kernel
theorem dX6_range_29 : decode cX6_range 29 = .ok (.ireturn, 1) := by decide +kernel
theorem dX6_range_30 : decode cX6_range 30 = .ok (.aload_n 0, 1) := by decide +kernel
theorem dX6_range_31 : decode cX6_range 31 = .ok (.getfield 75, 3) := by decide +kernel
theorem dX6_range_34 : decode cX6_range 34 = .ok (.bipush 80, 2) := by decide +kernel
theorem dX6_range_36 : decode cX6_range 36 = .ok (.if_icmp .ne 11, 3) := by decide +kernel
theorem dX6_range_39 : decode cX6_range 39 = .ok (.aload_n 0, 1) := by decide +kernel
theorem dX6_range_40 : decode cX6_range 40 = .ok (.iconst 2, 1) := by decide +kernel
theorem dX6_range_41 : decode cX6_range 41 = .ok (.invokevirtual 78, 3) := by decide +kernel
theorem dX6_range_44 : decode cX6_range 44 = .ok (.goto 10, 3) := by decide +kernel
theorem dX6_range_47 : decode cX6_range 47 = .ok (.aload_n 0, 1) := by decide +kernel
theorem dX6_range_48 : decode cX6_range 48 = .ok (.iconst 2, 1) := by decide +kernel
theorem dX6_range_49 : decode cX6_range 49 = .ok (.iload_n 1, 1) := by decide +kernel
theorem dX6_range_50 : decode cX6_range 50 = .ok (.iload_n 2, 1) := by decide +kernel
theorem dX6_range_51 : decode cX6_range 51 = .ok (.invokevirtual 82, 3) := by decide +kernel
theorem dX6_range_54 : decode cX6_range 54 = .ok (.ireturn, 1) := by decide +kernel
set_option maxRecDepth 20000 in
theorem ggX6_rule_X6_isRule : GoodIn wsX6_rule wsX6_isRule := goodIn_r _ [6] (by decide +kernel) (by decide +kernel)
set_option maxRecDepth 20000 in
theorem gX6_rule_X6_isRule : GoodIn wsX6_rule (va_wsS RX6 90 yX6_isRule wsX6_isRule) := goodIn_app (goodIn_of _ (by decide +kernel)) ggX6_rule_X6_isRule
set_option maxRecDepth 20000 in
theorem ggX6_rule_X6_fail : GoodIn wsX6_rule wsX6_fail := goodIn_r _ [10, 1, 18, 19, 20, 21, 22, 23, 24, 25, 26, 27, 28, 29, 30, 31, 32, 33, 34, 35, 36, 37, 38, 39, 40, 41, 42, 43, 44, 45, 46] (by decide +kernel) (by decide +kernel)
set_option maxRecDepth 20000 in
theorem gX6_rule_X6_fail : GoodIn wsX6_rule (wsV RX6 78 RX6 yX6_fail wsX6_fail) := goodIn_app (goodIn_of _ (by decide +kernel)) ggX6_rule_X6_fail
set_option maxRecDepth 20000 in
theorem ggX6_rule_X6_add : GoodIn wsX6_rule wsX6_add := goodIn_r _ [14, 15, 2, 16, 17, 18, 19, 20, 21, 22, 23, 24, 25, 26, 27, 28, 29, 30, 31, 32, 33, 34, 35, 36, 37, 38, 39, 40, 41, 42, 43, 44, 45, 46] (by decide +kernel) (by decide +kernel)
set_option maxRecDepth 20000 in
theorem gX6_rule_X6_add : GoodIn wsX6_rule (wsV RX6 82 RX6 yX6_add wsX6_add) := goodIn_app (goodIn_of _ (by decide +kernel)) ggX6_rule_X6_add
theorem dX6_rule_0 : decode cX6_rule 0 = .ok (.aload_n 0, 1) := by decide +kernel
theorem dX6_rule_1 : decode cX6_rule 1 = .ok (.iconst 0, 1) := by decide +kernel
theorem dX6_rule_2 : decode cX6_rule 2 = .ok (.putfield 72, 3) := by decide +kernel
theorem dX6_rule_5 : decode cX6_rule 5 = .ok (.iload_n 1, 1) := by decide +kernel
theorem dX6_rule_6 : decode cX6_rule 6 = .ok (.invokestatic 90, 3) := by decide +kernel
theorem dX6_rule_9 : decode cX6_rule 9 = .ok (.ifCond .ne 9, 3) := by decide +kernel
theorem dX6_rule_12 : decode cX6_rule 12 = .ok (.aload_n 0, 1) := by decide +kernel
theorem dX6_rule_13 : decode cX6_rule 13 = .ok (.iconst 1, 1) := by decide +kernel
theorem dX6_rule_14 : decode cX6_rule 14 = .ok (.invokevirtual 78, 3) := by decide +kernel
theorem dX6_rule_17 : decode cX6_rule 17 = .ok (.ireturn, 1) := by decide +kernel
theorem dX6_rule_18 : decode cX6_rule 18 = .ok (.aload_n 0, 1) := by decide +kernel
theorem dX6_rule_19 : decode cX6_rule 19 = .ok (.getfield 75, 3) := by decide +kernel
theorem dX6_rule_22 : decode cX6_rule 22 = .ok (.bipush 80, 2) := by decide +kernel
theorem dX6_rule_24 : decode cX6_rule 24 = .ok (.if_icmp .ne 11, 3) := by decide +kernel
theorem dX6_rule_27 : decode cX6_rule 27 = .ok (.aload_n 0, 1) := by decide +kernel
theorem dX6_rule_28 : decode cX6_rule 28 = .ok (.iconst 2, 1) := by decide +kernel
theorem dX6_rule_29 : decode cX6_rule 29 = .ok (.invokevirtual 78, 3) := by decide +kernel
theorem dX6_rule_32 : decode cX6_rule 32 = .ok (.goto 10, 3) := by decide +kernel
theorem dX6_rule_35 : decode cX6_rule 35 = .ok (.aload_n 0, 1) := by decide +kernel
theorem dX6_rule_36 : decode cX6_rule 36 = .ok (.iconst 3, 1) := by decide +kernel
theorem dX6_rule_37 : decode cX6_rule 37 = .ok (.iload_n 1, 1) := by decide +kernel
theorem dX6_rule_38 : decode cX6_rule 38 = .ok (.iconst 0, 1) := by decide +kernel
theorem dX6_rule_39 : decode cX6_rule 39 = .ok (.invokevirtual 82, 3) := by decide +kernel
theorem dX6_rule_42 : decode cX6_rule 42 = .ok (.ireturn, 1) := by decide +kernel
set_option maxRecDepth 20000 in
theorem ggX6_join_X6_isExpression : GoodIn wsX6_join wsX6_isExpression := goodIn_r _ [7, 2, 19, 20, 21, 22, 23, 24, 25, 26, 27, 28, 29, 30, 31, 32, 33, 34, 35, 36, 37, 38, 39, 40, 41, 42, 43, 44, 45, 46, 47] (by decide +kernel) (by decide +kernel)
set_option maxRecDepth 20000 in
theorem gX6_join_X6_isExpression : GoodIn wsX6_join (wsV RX6 93 RX6 yX6_isExpression wsX6_isExpression) := goodIn_app (goodIn_of _ (by decide +kernel)) ggX6_join_X6_isExpression
set_option maxRecDepth 20000 in
theorem ggX6_join_X6_fail : GoodIn wsX6_join wsX6_fail := goodIn_r _ [11, 1, 19, 20, 21, 22, 23, 24, 25, 26, 27, 28, 29, 30, 31, 32, 33, 34, 35, 36, 37, 38, 39, 40, 41, 42, 43, 44, 45, 46, 47] (by decide +kernel) (by decide +kernel)
set_option maxRecDepth 20000 in
theorem gX6_join_X6_fail : GoodIn wsX6_join (wsV RX6 78 RX6 yX6_fail wsX6_fail) := goodIn_app (goodIn_of _ (by decide +kernel)) ggX6_join_X6_fail
set_option maxRecDepth 20000 in
theorem ggX6_join_X6_add : GoodIn wsX6_join wsX6_add := goodIn_r _ [15, 16, 2, 17, 18, 19, 20, 21, 22, 23, 24, 25, 26, 27, 28, 29, 30, 31, 32, 33, 34, 35, 36, 37, 38, 39, 40, 41, 42, 43, 44, 45, 46, 47] (by decide +kernel) (by decide +kernel)
set_option maxRecDepth 20000 in
theorem gX6_join_X6_add : GoodIn wsX6_join (wsV RX6 82 RX6 yX6_add wsX6_add) := goodIn_app (goodIn_of _ (by decide +kernel)) ggX6_join_X6_add
theorem dX6_join_0 : decode cX6_join 0 = .ok (.aload_n 0, 1) := by decide +kernel
theorem dX6_join_1 : decode cX6_join 1 = .ok (.iconst 0, 1) := by decide +kernel
theorem dX6_join_2 : decode cX6_join 2 = .ok (.putfield 72, 3) := by decide +kernel
theorem dX6_join_5 : decode cX6_join 5 = .ok (.aload_n 0, 1) := by decide +kernel
theorem dX6_join_6 : decode cX6_join 6 = .ok (.iload_n 2, 1) := by decide +kernel
theorem dX6_join_7 : decode cX6_join 7 = .ok (.invokevirtual 93, 3) := by decide +kernel
theorem dX6_join_10 : decode cX6_join 10 = .ok (.ifCond .eq 11, 3) := by decide +kernel
theorem dX6_join_13 : decode cX6_join 13 = .ok (.aload_n 0, 1) := by decide +kernel
theorem dX6_join_14 : decode cX6_join 14 = .ok (.iload_n 3, 1) := by decide +kernel
theorem dX6_join_15 : decode cX6_join 15 = .ok (.invokevirtual 93, 3) := by decide +kernel
theorem dX6_join_18 : decode cX6_join 18 = .ok (.ifCond .ne 9, 3) := by decide +kernel
theorem dX6_join_21 : decode cX6_join 21 = .ok (.aload_n 0, 1) := by decide +kernel
theorem dX6_join_22 : decode cX6_join 22 = .ok (.iconst 1, 1) := by decide +kernel
theorem dX6_join_23 : decode cX6_join 23 = .ok (.invokevirtual 78, 3) := by decide +kernel
theorem dX6_join_26 : decode cX6_join 26 = .ok (.ireturn, 1) := by decide +kernel
theorem dX6_join_27 : decode cX6_join 27 = .ok (.iload_n 1, 1) := by decide +kernel
theorem dX6_join_28 : decode cX6_join 28 = .ok (.iconst 4, 1) := by decide +kernel
theorem dX6_join_29 : decode cX6_join 29 = .ok (.if_icmp .eq 14, 3) := by decide +kernel
theorem dX6_join_32 : decode cX6_join 32 = .ok (.iload_n 1, 1) := by decide +kernel
theorem dX6_join_33 : decode cX6_join 33 = .ok (.iconst 5, 1) := by decide +kernel
theorem dX6_join_34 : decode cX6_join 34 = .ok (.if_icmp .eq 9, 3) := by decide +kernel
theorem dX6_join_37 : decode cX6_join 37 = .ok (.aload_n 0, 1) := by decide +kernel
theorem dX6_join_38 : decode cX6_join 38 = .ok (.iconst 2, 1) := by decide +kernel
theorem dX6_join_39 : decode cX6_join 39 = .ok (.invokevirtual 78, 3) := by decide +kernel
theorem dX6_join_42 : decode cX6_join 42 = .ok (.ireturn, 1) := by decide +kernel
theorem dX6_join_43 : decode cX6_join 43 = .ok (.aload_n 0, 1) := by decide +kernel
theorem dX6_join_44 : decode cX6_join 44 = .ok (.getfield 75, 3) := by decide +kernel
theorem dX6_join_47 : decode cX6_join 47 = .ok (.bipush 80, 2) := by decide +kernel
theorem dX6_join_49 : decode cX6_join 49 = .ok (.if_icmp .ne 11, 3) := by decide +kernel
theorem dX6_join_52 : decode cX6_join 52 = .ok (.aload_n 0, 1) := by decide +kernel
theorem dX6_join_53 : decode cX6_join 53 = .ok (.iconst 3, 1) := by decide +kernel
theorem dX6_join_54 : decode cX6_join 54 = .ok (.invokevirtual 78, 3) := by decide +kernel
theorem dX6_join_57 : decode cX6_join 57 = .ok (.goto 10, 3) := by decide +kernel
theorem dX6_join_60 : decode cX6_join 60 = .ok (.aload_n 0, 1) := by decide +kernel
theorem dX6_join_61 : decode cX6_join 61 = .ok (.iload_n 1, 1) := by decide +kernel
theorem dX6_join_62 : decode cX6_join 62 = .ok (.iload_n 2, 1) := by decide +kernel
theorem dX6_join_63 : decode cX6_join 63 = .ok (.iload_n 3, 1) := by decide +kernel
theorem dX6_join_64 : decode cX6_join 64 = .ok (.invokevirtual 82, 3) := by decide +kernel
theorem dX6_join_67 : decode cX6_join 67 = .ok (.ireturn, 1) := by decide +kernel
set_option maxRecDepth 20000 in
theorem ggX6_wrap_X6_isExpression : GoodIn wsX6_wrap wsX6_isExpression := goodIn_r _ [7, 2, 19, 20, 21, 22, 23, 24, 25, 26, 27, 28, 29, 30, 31, 32, 33, 34, 35, 36, 37, 38, 39, 40, 41, 42, 43, 44, 45, 46, 47] (by decide +kernel) (by decide +kernel)
set_option maxRecDepth 20000 in
theorem gX6_wrap_X6_isExpression : GoodIn wsX6_wrap (wsV RX6 93 RX6 yX6_isExpression wsX6_isExpression) := goodIn_app (goodIn_of _ (by decide +kernel)) ggX6_wrap_X6_isExpression
set_option maxRecDepth 20000 in
theorem ggX6_wrap_X6_fail : GoodIn wsX6_wrap wsX6_fail := goodIn_r _ [11, 1, 19, 20, 21, 22, 23, 24, 25, 26, 27, 28, 29, 30, 31, 32, 33, 34, 35, 36, 37, 38, 39, 40, 41, 42, 43, 44, 45, 46, 47] (by decide +kernel) (by decide +kernel)
set_option maxRecDepth 20000 in
theorem gX6_wrap_X6_fail : GoodIn wsX6_wrap (wsV RX6 78 RX6 yX6_fail wsX6_fail) := goodIn_app (goodIn_of _ (by decide +kernel)) ggX6_wrap_X6_fail
set_option maxRecDepth 20000 in
theorem ggX6_wrap_X6_add : GoodIn wsX6_wrap wsX6_add := goodIn_r _ [15, 16, 2, 17, 18, 19, 20, 21, 22, 23, 24, 25, 26, 27, 28, 29, 30, 31, 32, 33, 34, 35, 36, 37, 38, 39, 40, 41, 42, 43, 44, 45, 46, 47] (by decide +kernel) (by decide +kernel)
set_option maxRecDepth 20000 in
theorem gX6_wrap_X6_add : GoodIn wsX6_wrap (wsV RX6 82 RX6 yX6_add wsX6_add) := goodIn_app (goodIn_of _ (by decide +kernel)) ggX6_wrap_X6_add
theorem dX6_wrap_0 : decode cX6_wrap 0 = .ok (.aload_n 0, 1) := by decide +kernel
theorem dX6_wrap_1 : decode cX6_wrap 1 = .ok (.iconst 0, 1) := by decide +kernel
theorem dX6_wrap_2 : decode cX6_wrap 2 = .ok (.putfield 72, 3) := by decide +kernel
theorem dX6_wrap_5 : decode cX6_wrap 5 = .ok (.aload_n 0, 1) := by decide +kernel
theorem dX6_wrap_6 : decode cX6_wrap 6 = .ok (.iload_n 2, 1) := by decide +kernel
theorem dX6_wrap_7 : decode cX6_wrap 7 = .ok (.invokevirtual 93, 3) := by decide +kernel
theorem dX6_wrap_10 : decode cX6_wrap 10 = .ok (.ifCond .ne 9, 3) := by decide +kernel
theorem dX6_wrap_13 : decode cX6_wrap 13 = .ok (.aload_n 0, 1) := by decide +kernel
theorem dX6_wrap_14 : decode cX6_wrap 14 = .ok (.iconst 1, 1) := by decide +kernel
theorem dX6_wrap_15 : decode cX6_wrap 15 = .ok (.invokevirtual 78, 3) := by decide +kernel
theorem dX6_wrap_18 : decode cX6_wrap 18 = .ok (.ireturn, 1) := by decide +kernel
theorem dX6_wrap_19 : decode cX6_wrap 19 = .ok (.iload_n 1, 1) := by decide +kernel
theorem dX6_wrap_20 : decode cX6_wrap 20 = .ok (.bipush 6, 2) := by decide +kernel
theorem dX6_wrap_22 : decode cX6_wrap 22 = .ok (.if_icmp .lt 9, 3) := by decide +kernel
theorem dX6_wrap_25 : decode cX6_wrap 25 = .ok (.iload_n 1, 1) := by decide +kernel
theorem dX6_wrap_26 : decode cX6_wrap 26 = .ok (.bipush 9, 2) := by decide +kernel
theorem dX6_wrap_28 : decode cX6_wrap 28 = .ok (.if_icmp .le 9, 3) := by decide +kernel
theorem dX6_wrap_31 : decode cX6_wrap 31 = .ok (.aload_n 0, 1) := by decide +kernel
theorem dX6_wrap_32 : decode cX6_wrap 32 = .ok (.iconst 2, 1) := by decide +kernel
theorem dX6_wrap_33 : decode cX6_wrap 33 = .ok (.invokevirtual 78, 3) := by decide +kernel
theorem dX6_wrap_36 : decode cX6_wrap 36 = .ok (.ireturn, 1) := by decide +kernel
theorem dX6_wrap_37 : decode cX6_wrap 37 = .ok (.aload_n 0, 1) := by decide +kernel
theorem dX6_wrap_38 : decode cX6_wrap 38 = .ok (.getfield 75, 3) := by decide +kernel
theorem dX6_wrap_41 : decode cX6_wrap 41 = .ok (.bipush 80, 2) := by decide +kernel
theorem dX6_wrap_43 : decode cX6_wrap 43 = .ok (.if_icmp .ne 11, 3) := by decide +kernel
theorem dX6_wrap_46 : decode cX6_wrap 46 = .ok (.aload_n 0, 1) := by decide +kernel
theorem dX6_wrap_47 : decode cX6_wrap 47 = .ok (.iconst 3, 1) := by decide +kernel
theorem dX6_wrap_48 : decode cX6_wrap 48 = .ok (.invokevirtual 78, 3) := by decide +kernel
theorem dX6_wrap_51 : decode cX6_wrap 51 = .ok (.goto 10, 3) := by decide +kernel
theorem dX6_wrap_54 : decode cX6_wrap 54 = .ok (.aload_n 0, 1) := by decide +kernel
theorem dX6_wrap_55 : decode cX6_wrap 55 = .ok (.iload_n 1, 1) := by decide +kernel
theorem dX6_wrap_56 : decode cX6_wrap 56 = .ok (.iload_n 2, 1) := by decide +kernel
theorem dX6_wrap_57 : decode cX6_wrap 57 = .ok (.iconst 0, 1) := by decide +kernel
theorem dX6_wrap_58 : decode cX6_wrap 58 = .ok (.invokevirtual 82, 3) := by decide +kernel
theorem dX6_wrap_61 : decode cX6_wrap 61 = .ok (.ireturn, 1) := by decide +kernel
set_option maxRecDepth 20000 in
theorem ggX6_define_X6_isRule : GoodIn wsX6_define wsX6_isRule := goodIn_r _ [6] (by decide +kernel) (by decide +kernel)
set_option maxRecDepth 20000 in
theorem gX6_define_X6_isRule : GoodIn wsX6_define (va_wsS RX6 90 yX6_isRule wsX6_isRule) := goodIn_app (goodIn_of _ (by decide +kernel)) ggX6_define_X6_isRule
set_option maxRecDepth 20000 in
theorem ggX6_define_X6_isExpression : GoodIn wsX6_define wsX6_isExpression := goodIn_r _ [10, 11, 25, 26, 27, 28, 29, 30, 31, 32, 33, 34, 35, 36, 37, 38, 39, 40, 41, 42, 43, 44, 45, 46, 47, 48, 49, 50, 51, 52, 53] (by decide +kernel) (by decide +kernel)
set_option maxRecDepth 20000 in
theorem gX6_define_X6_isExpression : GoodIn wsX6_define (wsV RX6 93 RX6 yX6_isExpression wsX6_isExpression) := goodIn_app (goodIn_of _ (by decide +kernel)) ggX6_define_X6_isExpression
set_option maxRecDepth 20000 in
theorem ggX6_define_X6_fail : GoodIn wsX6_define wsX6_fail := goodIn_r _ [15, 1, 25, 26, 27, 28, 29, 30, 31, 32, 33, 34, 35, 36, 37, 38, 39, 40, 41, 42, 43, 44, 45, 46, 47, 48, 49, 50, 51, 52, 53] (by decide +kernel) (by decide +kernel)
set_option maxRecDepth 20000 in
theorem gX6_define_X6_fail : GoodIn wsX6_define (wsV RX6 78 RX6 yX6_fail wsX6_fail) := goodIn_app (goodIn_of _ (by decide +kernel)) ggX6_define_X6_fail
set_option maxRecDepth 20000 in
theorem ggX6_define_X6_forgetAll : GoodIn wsX6_define wsX6_forgetAll := goodIn_r _ [19, 20, 21, 22, 23, 5, 24, 25, 26, 27, 28, 29, 30, 31, 32, 33, 34, 35, 36, 37, 38, 39, 40, 41, 42, 43, 44, 45, 46, 47, 48, 49, 50, 51, 52, 53] (by decide +kernel) (by decide +kernel)
set_option maxRecDepth 20000 in
theorem gX6_define_X6_forgetAll : GoodIn wsX6_define (wsV RX6 96 RX6 yX6_forgetAll wsX6_forgetAll) := goodIn_app (goodIn_of _ (by decide +kernel)) ggX6_define_X6_forgetAll
theorem dX6_define_0 : decode cX6_define 0 = .ok (.aload_n 0, 1) := by decide +kernel
theorem dX6_define_1 : decode cX6_define 1 = .ok (.iconst 0, 1) := by decide +kernel
theorem dX6_define_2 : decode cX6_define 2 = .ok (.putfield 72, 3) := by decide +kernel
theorem dX6_define_5 : decode cX6_define 5 = .ok (.iload_n 1, 1) := by decide +kernel
theorem dX6_define_6 : decode cX6_define 6 = .ok (.invokestatic 90, 3) := by decide +kernel
theorem dX6_define_9 : decode cX6_define 9 = .ok (.ifCond .eq 16, 3) := by decide +kernel
theorem dX6_define_12 : decode cX6_define 12 = .ok (.iload_n 2, 1) := by decide +kernel
theorem dX6_define_13 : decode cX6_define 13 = .ok (.iconst (-1), 1) := by decide +kernel
theorem dX6_define_14 : decode cX6_define 14 = .ok (.if_icmp .eq 17, 3) := by decide +kernel
theorem dX6_define_17 : decode cX6_define 17 = .ok (.aload_n 0, 1) := by decide +kernel
theorem dX6_define_18 : decode cX6_define 18 = .ok (.iload_n 2, 1) := by decide +kernel
theorem dX6_define_19 : decode cX6_define 19 = .ok (.invokevirtual 93, 3) := by decide +kernel
theorem dX6_define_22 : decode cX6_define 22 = .ok (.ifCond .ne 9, 3) := by decide +kernel
theorem dX6_define_25 : decode cX6_define 25 = .ok (.aload_n 0, 1) := by decide +kernel
theorem dX6_define_26 : decode cX6_define 26 = .ok (.iconst 1, 1) := by decide +kernel
theorem dX6_define_27 : decode cX6_define 27 = .ok (.invokevirtual 78, 3) := by decide +kernel
theorem dX6_define_30 : decode cX6_define 30 = .ok (.ireturn, 1) := by decide +kernel
theorem dX6_define_31 : decode cX6_define 31 = .ok (.aload_n 0, 1) := by decide +kernel
theorem dX6_define_32 : decode cX6_define 32 = .ok (.getfield 19, 3) := by decide +kernel
theorem dX6_define_35 : decode cX6_define 35 = .ok (.iload_n 1, 1) := by decide +kernel
theorem dX6_define_36 : decode cX6_define 36 = .ok (.iaload, 1) := by decide +kernel
theorem dX6_define_37 : decode cX6_define 37 = .ok (.istore_n 3, 1) := by decide +kernel
theorem dX6_define_38 : decode cX6_define 38 = .ok (.aload_n 0, 1) := by decide +kernel
theorem dX6_define_39 : decode cX6_define 39 = .ok (.getfield 19, 3) := by decide +kernel
theorem dX6_define_42 : decode cX6_define 42 = .ok (.iload_n 1, 1) := by decide +kernel
theorem dX6_define_43 : decode cX6_define 43 = .ok (.iload_n 2, 1) := by decide +kernel
theorem dX6_define_44 : decode cX6_define 44 = .ok (.iastore, 1) := by decide +kernel
theorem dX6_define_45 : decode cX6_define 45 = .ok (.aload_n 0, 1) := by decide +kernel
theorem dX6_define_46 : decode cX6_define 46 = .ok (.invokevirtual 96, 3) := by decide +kernel
theorem dX6_define_49 : decode cX6_define 49 = .ok (.pop, 1) := by decide +kernel
theorem dX6_define_50 : decode cX6_define 50 = .ok (.iload_n 3, 1) := by decide +kernel
theorem dX6_define_51 : decode cX6_define 51 = .ok (.ireturn, 1) := by decide +kernel
theorem dX6_expressionCount_0 : decode cX6_expressionCount 0 = .ok (.aload_n 0, 1) := by decide +kernel
theorem dX6_expressionCount_1 : decode cX6_expressionCount 1 = .ok (.iconst 0, 1) := by decide +kernel
theorem dX6_expressionCount_2 : decode cX6_expressionCount 2 = .ok (.putfield 72, 3) := by decide +kernel
theorem dX6_expressionCount_5 : decode cX6_expressionCount 5 = .ok (.aload_n 0, 1) := by decide +kernel
theorem dX6_expressionCount_6 : decode cX6_expressionCount 6 = .ok (.getfield 75, 3) := by decide +kernel
theorem dX6_expressionCount_9 : decode cX6_expressionCount 9 = .ok (.ireturn, 1) := by decide +kernel
theorem dX6_can_0 : decode cX6_can 0 = .ok (.aload_n 0, 1) := by decide +kernel
theorem dX6_can_1 : decode cX6_can 1 = .ok (.getfield 9, 3) := by decide +kernel
theorem dX6_can_4 : decode cX6_can 4 = .ok (.iload_n 1, 1) := by decide +kernel
theorem dX6_can_5 : decode cX6_can 5 = .ok (.iaload, 1) := by decide +kernel
theorem dX6_can_6 : decode cX6_can 6 = .ok (.tableswitch 112 2 5 #[30, 32, 44, 78], 30) := by decide +kernel
theorem dX6_can_36 : decode cX6_can 36 = .ok (.iconst 0, 1) := by decide +kernel
theorem dX6_can_37 : decode cX6_can 37 = .ok (.ireturn, 1) := by decide +kernel
theorem dX6_can_38 : decode cX6_can 38 = .ok (.aload_n 0, 1) := by decide +kernel
theorem dX6_can_39 : decode cX6_can 39 = .ok (.getfield 63, 3) := by decide +kernel
theorem dX6_can_42 : decode cX6_can 42 = .ok (.aload_n 0, 1) := by decide +kernel
theorem dX6_can_43 : decode cX6_can 43 = .ok (.getfield 13, 3) := by decide +kernel
theorem dX6_can_46 : decode cX6_can 46 = .ok (.iload_n 1, 1) := by decide +kernel
theorem dX6_can_47 : decode cX6_can 47 = .ok (.iaload, 1) := by decide +kernel
theorem dX6_can_48 : decode cX6_can 48 = .ok (.baload, 1) := by decide +kernel
theorem dX6_can_49 : decode cX6_can 49 = .ok (.ireturn, 1) := by decide +kernel
theorem dX6_can_50 : decode cX6_can 50 = .ok (.aload_n 0, 1) := by decide +kernel
theorem dX6_can_51 : decode cX6_can 51 = .ok (.getfield 66, 3) := by decide +kernel
theorem dX6_can_54 : decode cX6_can 54 = .ok (.aload_n 0, 1) := by decide +kernel
theorem dX6_can_55 : decode cX6_can 55 = .ok (.getfield 13, 3) := by decide +kernel
theorem dX6_can_58 : decode cX6_can 58 = .ok (.iload_n 1, 1) := by decide +kernel
theorem dX6_can_59 : decode cX6_can 59 = .ok (.iaload, 1) := by decide +kernel
theorem dX6_can_60 : decode cX6_can 60 = .ok (.baload, 1) := by decide +kernel
theorem dX6_can_61 : decode cX6_can 61 = .ok (.ifCond .eq 21, 3) := by decide +kernel
theorem dX6_can_64 : decode cX6_can 64 = .ok (.aload_n 0, 1) := by decide +kernel
theorem dX6_can_65 : decode cX6_can 65 = .ok (.getfield 66, 3) := by decide +kernel
theorem dX6_can_68 : decode cX6_can 68 = .ok (.aload_n 0, 1) := by decide +kernel
theorem dX6_can_69 : decode cX6_can 69 = .ok (.getfield 16, 3) := by decide +kernel
theorem dX6_can_72 : decode cX6_can 72 = .ok (.iload_n 1, 1) := by decide +kernel
theorem dX6_can_73 : decode cX6_can 73 = .ok (.iaload, 1) := by decide +kernel
theorem dX6_can_74 : decode cX6_can 74 = .ok (.baload, 1) := by decide +kernel
theorem dX6_can_75 : decode cX6_can 75 = .ok (.ifCond .eq 7, 3) := by decide +kernel
theorem dX6_can_78 : decode cX6_can 78 = .ok (.iconst 1, 1) := by decide +kernel
theorem dX6_can_79 : decode cX6_can 79 = .ok (.goto 4, 3) := by decide +kernel
theorem dX6_can_82 : decode cX6_can 82 = .ok (.iconst 0, 1) := by decide +kernel
theorem dX6_can_83 : decode cX6_can 83 = .ok (.ireturn, 1) := by decide +kernel
theorem dX6_can_84 : decode cX6_can 84 = .ok (.aload_n 0, 1) := by decide +kernel
theorem dX6_can_85 : decode cX6_can 85 = .ok (.getfield 66, 3) := by decide +kernel
theorem dX6_can_88 : decode cX6_can 88 = .ok (.aload_n 0, 1) := by decide +kernel
theorem dX6_can_89 : decode cX6_can 89 = .ok (.getfield 13, 3) := by decide +kernel
theorem dX6_can_92 : decode cX6_can 92 = .ok (.iload_n 1, 1) := by decide +kernel
theorem dX6_can_93 : decode cX6_can 93 = .ok (.iaload, 1) := by decide +kernel
theorem dX6_can_94 : decode cX6_can 94 = .ok (.baload, 1) := by decide +kernel
theorem dX6_can_95 : decode cX6_can 95 = .ok (.ifCond .ne 17, 3) := by decide +kernel
theorem dX6_can_98 : decode cX6_can 98 = .ok (.aload_n 0, 1) := by decide +kernel
theorem dX6_can_99 : decode cX6_can 99 = .ok (.getfield 66, 3) := by decide +kernel
theorem dX6_can_102 : decode cX6_can 102 = .ok (.aload_n 0, 1) := by decide +kernel
theorem dX6_can_103 : decode cX6_can 103 = .ok (.getfield 16, 3) := by decide +kernel
theorem dX6_can_106 : decode cX6_can 106 = .ok (.iload_n 1, 1) := by decide +kernel
theorem dX6_can_107 : decode cX6_can 107 = .ok (.iaload, 1) := by decide +kernel
theorem dX6_can_108 : decode cX6_can 108 = .ok (.baload, 1) := by decide +kernel
theorem dX6_can_109 : decode cX6_can 109 = .ok (.ifCond .eq 7, 3) := by decide +kernel
theorem dX6_can_112 : decode cX6_can 112 = .ok (.iconst 1, 1) := by decide +kernel
theorem dX6_can_113 : decode cX6_can 113 = .ok (.goto 4, 3) := by decide +kernel
theorem dX6_can_116 : decode cX6_can 116 = .ok (.iconst 0, 1) := by decide +kernel
theorem dX6_can_117 : decode cX6_can 117 = .ok (.ireturn, 1) := by decide +kernel
theorem dX6_can_118 : decode cX6_can 118 = .ok (.iconst 1, 1) := by decide +kernel
theorem dX6_can_119 : decode cX6_can 119 = .ok (.ireturn, 1) := by decide +kernel
theorem dX6_beginsWith_0 : decode cX6_beginsWith 0 = .ok (.aload_n 0, 1) := by decide +kernel
theorem dX6_beginsWith_1 : decode cX6_beginsWith 1 = .ok (.getfield 9, 3) := by decide +kernel
theorem dX6_beginsWith_4 : decode cX6_beginsWith 4 = .ok (.iload_n 1, 1) := by decide +kernel
theorem dX6_beginsWith_5 : decode cX6_beginsWith 5 = .ok (.iaload, 1) := by decide +kernel
theorem dX6_beginsWith_6 : decode cX6_beginsWith 6 = .ok (.tableswitch 115 0 5 #[38, 38, 38, 40, 49, 91], 38) := by decide +kernel
theorem dX6_beginsWith_44 : decode cX6_beginsWith 44 = .ok (.iconst 0, 1) := by decide +kernel
theorem dX6_beginsWith_45 : decode cX6_beginsWith 45 = .ok (.ireturn, 1) := by decide +kernel
theorem dX6_beginsWith_46 : decode cX6_beginsWith 46 = .ok (.iconst 1, 1) := by decide +kernel
theorem dX6_beginsWith_47 : decode cX6_beginsWith 47 = .ok (.aload_n 0, 1) := by decide +kernel
theorem dX6_beginsWith_48 : decode cX6_beginsWith 48 = .ok (.getfield 13, 3) := by decide +kernel
theorem dX6_beginsWith_51 : decode cX6_beginsWith 51 = .ok (.iload_n 1, 1) := by decide +kernel
theorem dX6_beginsWith_52 : decode cX6_beginsWith 52 = .ok (.iaload, 1) := by decide +kernel
theorem dX6_beginsWith_53 : decode cX6_beginsWith 53 = .ok (.ishl, 1) := by decide +kernel
theorem dX6_beginsWith_54 : decode cX6_beginsWith 54 = .ok (.ireturn, 1) := by decide +kernel
theorem dX6_beginsWith_55 : decode cX6_beginsWith 55 = .ok (.aload_n 0, 1) := by decide +kernel
theorem dX6_beginsWith_56 : decode cX6_beginsWith 56 = .ok (.getfield 69, 3) := by decide +kernel
theorem dX6_beginsWith_59 : decode cX6_beginsWith 59 = .ok (.aload_n 0, 1) := by decide +kernel
theorem dX6_beginsWith_60 : decode cX6_beginsWith 60 = .ok (.getfield 13, 3) := by decide +kernel
theorem dX6_beginsWith_63 : decode cX6_beginsWith 63 = .ok (.iload_n 1, 1) := by decide +kernel
theorem dX6_beginsWith_64 : decode cX6_beginsWith 64 = .ok (.iaload, 1) := by decide +kernel
theorem dX6_beginsWith_65 : decode cX6_beginsWith 65 = .ok (.iaload, 1) := by decide +kernel
theorem dX6_beginsWith_66 : decode cX6_beginsWith 66 = .ok (.aload_n 0, 1) := by decide +kernel
theorem dX6_beginsWith_67 : decode cX6_beginsWith 67 = .ok (.getfield 66, 3) := by decide +kernel
theorem dX6_beginsWith_70 : decode cX6_beginsWith 70 = .ok (.aload_n 0, 1) := by decide +kernel
theorem dX6_beginsWith_71 : decode cX6_beginsWith 71 = .ok (.getfield 13, 3) := by decide +kernel
theorem dX6_beginsWith_74 : decode cX6_beginsWith 74 = .ok (.iload_n 1, 1) := by decide +kernel
theorem dX6_beginsWith_75 : decode cX6_beginsWith 75 = .ok (.iaload, 1) := by decide +kernel
theorem dX6_beginsWith_76 : decode cX6_beginsWith 76 = .ok (.baload, 1) := by decide +kernel
theorem dX6_beginsWith_77 : decode cX6_beginsWith 77 = .ok (.ifCond .eq 17, 3) := by decide +kernel
theorem dX6_beginsWith_80 : decode cX6_beginsWith 80 = .ok (.aload_n 0, 1) := by decide +kernel
theorem dX6_beginsWith_81 : decode cX6_beginsWith 81 = .ok (.getfield 69, 3) := by decide +kernel
theorem dX6_beginsWith_84 : decode cX6_beginsWith 84 = .ok (.aload_n 0, 1) := by decide +kernel
theorem dX6_beginsWith_85 : decode cX6_beginsWith 85 = .ok (.getfield 16, 3) := by decide +kernel
theorem dX6_beginsWith_88 : decode cX6_beginsWith 88 = .ok (.iload_n 1, 1) := by decide +kernel
theorem dX6_beginsWith_89 : decode cX6_beginsWith 89 = .ok (.iaload, 1) := by decide +kernel
theorem dX6_beginsWith_90 : decode cX6_beginsWith 90 = .ok (.iaload, 1) := by decide +kernel
theorem dX6_beginsWith_91 : decode cX6_beginsWith 91 = .ok (.goto 4, 3) := by decide +kernel
theorem dX6_beginsWith_94 : decode cX6_beginsWith 94 = .ok (.iconst 0, 1) := by decide +kernel
theorem dX6_beginsWith_95 : decode cX6_beginsWith 95 = .ok (.ior, 1) := by decide +kernel
theorem dX6_beginsWith_96 : decode cX6_beginsWith 96 = .ok (.ireturn, 1) := by decide +kernel
theorem dX6_beginsWith_97 : decode cX6_beginsWith 97 = .ok (.aload_n 0, 1) := by decide +kernel
theorem dX6_beginsWith_98 : decode cX6_beginsWith 98 = .ok (.getfield 69, 3) := by decide +kernel
theorem dX6_beginsWith_101 : decode cX6_beginsWith 101 = .ok (.aload_n 0, 1) := by decide +kernel
theorem dX6_beginsWith_102 : decode cX6_beginsWith 102 = .ok (.getfield 13, 3) := by decide +kernel
theorem dX6_beginsWith_105 : decode cX6_beginsWith 105 = .ok (.iload_n 1, 1) := by decide +kernel
theorem dX6_beginsWith_106 : decode cX6_beginsWith 106 = .ok (.iaload, 1) := by decide +kernel
theorem dX6_beginsWith_107 : decode cX6_beginsWith 107 = .ok (.iaload, 1) := by decide +kernel
theorem dX6_beginsWith_108 : decode cX6_beginsWith 108 = .ok (.aload_n 0, 1) := by decide +kernel
theorem dX6_beginsWith_109 : decode cX6_beginsWith 109 = .ok (.getfield 69, 3) := by decide +kernel
theorem dX6_beginsWith_112 : decode cX6_beginsWith 112 = .ok (.aload_n 0, 1) := by decide +kernel
theorem dX6_beginsWith_113 : decode cX6_beginsWith 113 = .ok (.getfield 16, 3) := by decide +kernel
theorem dX6_beginsWith_116 : decode cX6_beginsWith 116 = .ok (.iload_n 1, 1) := by decide +kernel
theorem dX6_beginsWith_117 : decode cX6_beginsWith 117 = .ok (.iaload, 1) := by decide +kernel
theorem dX6_beginsWith_118 : decode cX6_beginsWith 118 = .ok (.iaload, 1) := by decide +kernel
theorem dX6_beginsWith_119 : decode cX6_beginsWith 119 = .ok (.ior, 1) := by decide +kernel
theorem dX6_beginsWith_120 : decode cX6_beginsWith 120 = .ok (.ireturn, 1) := by decide +kernel
theorem dX6_beginsWith_121 : decode cX6_beginsWith 121 = .ok (.aload_n 0, 1) := by decide +kernel
theorem dX6_beginsWith_122 : decode cX6_beginsWith 122 = .ok (.getfield 69, 3) := by decide +kernel
theorem dX6_beginsWith_125 : decode cX6_beginsWith 125 = .ok (.aload_n 0, 1) := by decide +kernel
theorem dX6_beginsWith_126 : decode cX6_beginsWith 126 = .ok (.getfield 13, 3) := by decide +kernel
theorem dX6_beginsWith_129 : decode cX6_beginsWith 129 = .ok (.iload_n 1, 1) := by decide +kernel
theorem dX6_beginsWith_130 : decode cX6_beginsWith 130 = .ok (.iaload, 1) := by decide +kernel
theorem dX6_beginsWith_131 : decode cX6_beginsWith 131 = .ok (.iaload, 1) := by decide +kernel
theorem dX6_beginsWith_132 : decode cX6_beginsWith 132 = .ok (.ireturn, 1) := by decide +kernel
set_option maxRecDepth 20000 in
theorem ggX6_findForms_X6_can : GoodIn wsX6_findForms wsX6_can := goodIn_r _ [10, 11, 1, 12, 3, 13, 18, 19, 20, 21, 22, 23, 24, 25, 26, 27, 28, 29, 30, 31, 32, 33, 34, 35, 36, 37, 38, 39, 40, 41, 42, 43, 44, 45, 46] (by decide +kernel) (by decide +kernel)
set_option maxRecDepth 20000 in
theorem gX6_findForms_X6_can : GoodIn wsX6_findForms (wsV RX6 100 RX6 yX6_can wsX6_can) := goodIn_app (goodIn_of _ (by decide +kernel)) ggX6_findForms_X6_can
set_option maxRecDepth 20000 in
theorem ggX6_findForms_X6_beginsWith : GoodIn wsX6_findForms wsX6_beginsWith := goodIn_r _ [17, 11, 12, 5, 3, 13, 18, 19, 20, 21, 22, 23, 24, 25, 26, 27, 28, 29, 30, 31, 32, 33, 34, 35, 36, 37, 38, 39, 40, 41, 42, 43, 44, 45, 46] (by decide +kernel) (by decide +kernel)
set_option maxRecDepth 20000 in
theorem gX6_findForms_X6_beginsWith : GoodIn wsX6_findForms (wsV RX6 103 RX6 yX6_beginsWith wsX6_beginsWith) := goodIn_app (goodIn_of _ (by decide +kernel)) ggX6_findForms_X6_beginsWith
theorem dX6_findForms_0 : decode cX6_findForms 0 = .ok (.iconst 0, 1) := by decide +kernel
theorem dX6_findForms_1 : decode cX6_findForms 1 = .ok (.istore_n 1, 1) := by decide +kernel
theorem dX6_findForms_2 : decode cX6_findForms 2 = .ok (.iload_n 1, 1) := by decide +kernel
theorem dX6_findForms_3 : decode cX6_findForms 3 = .ok (.bipush 10, 2) := by decide +kernel
theorem dX6_findForms_5 : decode cX6_findForms 5 = .ok (.if_icmp .ge 16, 3) := by decide +kernel
theorem dX6_findForms_8 : decode cX6_findForms 8 = .ok (.aload_n 0, 1) := by decide +kernel
theorem dX6_findForms_9 : decode cX6_findForms 9 = .ok (.getfield 63, 3) := by decide +kernel
theorem dX6_findForms_12 : decode cX6_findForms 12 = .ok (.iload_n 1, 1) := by decide +kernel
theorem dX6_findForms_13 : decode cX6_findForms 13 = .ok (.iconst 0, 1) := by decide +kernel
theorem dX6_findForms_14 : decode cX6_findForms 14 = .ok (.bastore, 1) := by decide +kernel
theorem dX6_findForms_15 : decode cX6_findForms 15 = .ok (.iinc 1 1, 3) := by decide +kernel
theorem dX6_findForms_18 : decode cX6_findForms 18 = .ok (.goto (-16), 3) := by decide +kernel
theorem dX6_findForms_21 : decode cX6_findForms 21 = .ok (.iconst 0, 1) := by decide +kernel
theorem dX6_findForms_22 : decode cX6_findForms 22 = .ok (.istore_n 1, 1) := by decide +kernel
theorem dX6_findForms_23 : decode cX6_findForms 23 = .ok (.iload_n 1, 1) := by decide +kernel
theorem dX6_findForms_24 : decode cX6_findForms 24 = .ok (.bipush 10, 2) := by decide +kernel
theorem dX6_findForms_26 : decode cX6_findForms 26 = .ok (.if_icmp .gt 85, 3) := by decide +kernel
theorem dX6_findForms_29 : decode cX6_findForms 29 = .ok (.iconst 0, 1) := by decide +kernel
theorem dX6_findForms_30 : decode cX6_findForms 30 = .ok (.istore_n 2, 1) := by decide +kernel
theorem dX6_findForms_31 : decode cX6_findForms 31 = .ok (.iload_n 2, 1) := by decide +kernel
theorem dX6_findForms_32 : decode cX6_findForms 32 = .ok (.aload_n 0, 1) := by decide +kernel
theorem dX6_findForms_33 : decode cX6_findForms 33 = .ok (.getfield 75, 3) := by decide +kernel
theorem dX6_findForms_36 : decode cX6_findForms 36 = .ok (.if_icmp .ge 20, 3) := by decide +kernel
theorem dX6_findForms_39 : decode cX6_findForms 39 = .ok (.aload_n 0, 1) := by decide +kernel
theorem dX6_findForms_40 : decode cX6_findForms 40 = .ok (.getfield 66, 3) := by decide +kernel
theorem dX6_findForms_43 : decode cX6_findForms 43 = .ok (.iload_n 2, 1) := by decide +kernel
theorem dX6_findForms_44 : decode cX6_findForms 44 = .ok (.aload_n 0, 1) := by decide +kernel
theorem dX6_findForms_45 : decode cX6_findForms 45 = .ok (.iload_n 2, 1) := by decide +kernel
theorem dX6_findForms_46 : decode cX6_findForms 46 = .ok (.invokevirtual 100, 3) := by decide +kernel
theorem dX6_findForms_49 : decode cX6_findForms 49 = .ok (.bastore, 1) := by decide +kernel
theorem dX6_findForms_50 : decode cX6_findForms 50 = .ok (.iinc 2 1, 3) := by decide +kernel
theorem dX6_findForms_53 : decode cX6_findForms 53 = .ok (.goto (-22), 3) := by decide +kernel
theorem dX6_findForms_56 : decode cX6_findForms 56 = .ok (.iconst 0, 1) := by decide +kernel
theorem dX6_findForms_57 : decode cX6_findForms 57 = .ok (.istore_n 2, 1) := by decide +kernel
theorem dX6_findForms_58 : decode cX6_findForms 58 = .ok (.iload_n 2, 1) := by decide +kernel
theorem dX6_findForms_59 : decode cX6_findForms 59 = .ok (.bipush 10, 2) := by decide +kernel
theorem dX6_findForms_61 : decode cX6_findForms 61 = .ok (.if_icmp .ge 44, 3) := by decide +kernel
theorem dX6_findForms_64 : decode cX6_findForms 64 = .ok (.aload_n 0, 1) := by decide +kernel
theorem dX6_findForms_65 : decode cX6_findForms 65 = .ok (.getfield 63, 3) := by decide +kernel
theorem dX6_findForms_68 : decode cX6_findForms 68 = .ok (.iload_n 2, 1) := by decide +kernel
theorem dX6_findForms_69 : decode cX6_findForms 69 = .ok (.aload_n 0, 1) := by decide +kernel
theorem dX6_findForms_70 : decode cX6_findForms 70 = .ok (.getfield 19, 3) := by decide +kernel
theorem dX6_findForms_73 : decode cX6_findForms 73 = .ok (.iload_n 2, 1) := by decide +kernel
theorem dX6_findForms_74 : decode cX6_findForms 74 = .ok (.iaload, 1) := by decide +kernel
theorem dX6_findForms_75 : decode cX6_findForms 75 = .ok (.iconst (-1), 1) := by decide +kernel
theorem dX6_findForms_76 : decode cX6_findForms 76 = .ok (.if_icmp .eq 21, 3) := by decide +kernel
theorem dX6_findForms_79 : decode cX6_findForms 79 = .ok (.aload_n 0, 1) := by decide +kernel
theorem dX6_findForms_80 : decode cX6_findForms 80 = .ok (.getfield 66, 3) := by decide +kernel
theorem dX6_findForms_83 : decode cX6_findForms 83 = .ok (.aload_n 0, 1) := by decide +kernel
theorem dX6_findForms_84 : decode cX6_findForms 84 = .ok (.getfield 19, 3) := by decide +kernel
theorem dX6_findForms_87 : decode cX6_findForms 87 = .ok (.iload_n 2, 1) := by decide +kernel
theorem dX6_findForms_88 : decode cX6_findForms 88 = .ok (.iaload, 1) := by decide +kernel
theorem dX6_findForms_89 : decode cX6_findForms 89 = .ok (.baload, 1) := by decide +kernel
theorem dX6_findForms_90 : decode cX6_findForms 90 = .ok (.ifCond .eq 7, 3) := by decide +kernel
theorem dX6_findForms_93 : decode cX6_findForms 93 = .ok (.iconst 1, 1) := by decide +kernel
theorem dX6_findForms_94 : decode cX6_findForms 94 = .ok (.goto 4, 3) := by decide +kernel
theorem dX6_findForms_97 : decode cX6_findForms 97 = .ok (.iconst 0, 1) := by decide +kernel
theorem dX6_findForms_98 : decode cX6_findForms 98 = .ok (.bastore, 1) := by decide +kernel
theorem dX6_findForms_99 : decode cX6_findForms 99 = .ok (.iinc 2 1, 3) := by decide +kernel
theorem dX6_findForms_102 : decode cX6_findForms 102 = .ok (.goto (-44), 3) := by decide +kernel
theorem dX6_findForms_105 : decode cX6_findForms 105 = .ok (.iinc 1 1, 3) := by decide +kernel
theorem dX6_findForms_108 : decode cX6_findForms 108 = .ok (.goto (-85), 3) := by decide +kernel
theorem dX6_findForms_111 : decode cX6_findForms 111 = .ok (.iconst 0, 1) := by decide +kernel
theorem dX6_findForms_112 : decode cX6_findForms 112 = .ok (.istore_n 1, 1) := by decide +kernel
theorem dX6_findForms_113 : decode cX6_findForms 113 = .ok (.iload_n 1, 1) := by decide +kernel
theorem dX6_findForms_114 : decode cX6_findForms 114 = .ok (.aload_n 0, 1) := by decide +kernel
theorem dX6_findForms_115 : decode cX6_findForms 115 = .ok (.getfield 75, 3) := by decide +kernel
theorem dX6_findForms_118 : decode cX6_findForms 118 = .ok (.if_icmp .ge 20, 3) := by decide +kernel
theorem dX6_findForms_121 : decode cX6_findForms 121 = .ok (.aload_n 0, 1) := by decide +kernel
theorem dX6_findForms_122 : decode cX6_findForms 122 = .ok (.getfield 69, 3) := by decide +kernel
theorem dX6_findForms_125 : decode cX6_findForms 125 = .ok (.iload_n 1, 1) := by decide +kernel
theorem dX6_findForms_126 : decode cX6_findForms 126 = .ok (.aload_n 0, 1) := by decide +kernel
theorem dX6_findForms_127 : decode cX6_findForms 127 = .ok (.iload_n 1, 1) := by decide +kernel
theorem dX6_findForms_128 : decode cX6_findForms 128 = .ok (.invokevirtual 103, 3) := by decide +kernel
theorem dX6_findForms_131 : decode cX6_findForms 131 = .ok (.iastore, 1) := by decide +kernel
theorem dX6_findForms_132 : decode cX6_findForms 132 = .ok (.iinc 1 1, 3) := by decide +kernel
theorem dX6_findForms_135 : decode cX6_findForms 135 = .ok (.goto (-22), 3) := by decide +kernel
theorem dX6_findForms_138 : decode cX6_findForms 138 = .ok (.return_, 1) := by decide +kernel
set_option maxRecDepth 20000 in
theorem ggX6_canBeEmpty_X6_isExpression : GoodIn wsX6_canBeEmpty wsX6_isExpression := goodIn_r _ [7, 8, 27, 28, 29, 30, 31, 32, 33, 34, 35, 36, 37, 38, 39, 40, 41, 42, 43, 44, 45, 46, 47, 48, 49, 50, 51, 52, 53, 54, 55] (by decide +kernel) (by decide +kernel)
set_option maxRecDepth 20000 in
theorem gX6_canBeEmpty_X6_isExpression : GoodIn wsX6_canBeEmpty (wsV RX6 93 RX6 yX6_isExpression wsX6_isExpression) := goodIn_app (goodIn_of _ (by decide +kernel)) ggX6_canBeEmpty_X6_isExpression
set_option maxRecDepth 20000 in
theorem ggX6_canBeEmpty_X6_findForms : GoodIn wsX6_canBeEmpty wsX6_findForms := goodIn_r _ [12, 13, 8, 2, 14, 15, 16, 17, 18, 6, 19, 20, 21, 22, 23, 24, 25, 26, 27, 28, 29, 30, 31, 32, 33, 34, 35, 36, 37, 38, 39, 40, 41, 42, 43, 44, 45, 46, 47, 48, 49, 50, 51, 52, 53, 54, 55] (by decide +kernel) (by decide +kernel)
set_option maxRecDepth 20000 in
theorem gX6_canBeEmpty_X6_findForms : GoodIn wsX6_canBeEmpty (wsV RX6 106 RX6 yX6_findForms wsX6_findForms) := goodIn_app (goodIn_of _ (by decide +kernel)) ggX6_canBeEmpty_X6_findForms
theorem dX6_canBeEmpty_0 : decode cX6_canBeEmpty 0 = .ok (.aload_n 0, 1) := by decide +kernel
theorem dX6_canBeEmpty_1 : decode cX6_canBeEmpty 1 = .ok (.aload_n 0, 1) := by decide +kernel
theorem dX6_canBeEmpty_2 : decode cX6_canBeEmpty 2 = .ok (.iload_n 1, 1) := by decide +kernel
theorem dX6_canBeEmpty_3 : decode cX6_canBeEmpty 3 = .ok (.invokevirtual 93, 3) := by decide +kernel
theorem dX6_canBeEmpty_6 : decode cX6_canBeEmpty 6 = .ok (.ifCond .eq 7, 3) := by decide +kernel
theorem dX6_canBeEmpty_9 : decode cX6_canBeEmpty 9 = .ok (.iconst 0, 1) := by decide +kernel
theorem dX6_canBeEmpty_10 : decode cX6_canBeEmpty 10 = .ok (.goto 4, 3) := by decide +kernel
theorem dX6_canBeEmpty_13 : decode cX6_canBeEmpty 13 = .ok (.iconst 1, 1) := by decide +kernel
theorem dX6_canBeEmpty_14 : decode cX6_canBeEmpty 14 = .ok (.putfield 72, 3) := by decide +kernel
theorem dX6_canBeEmpty_17 : decode cX6_canBeEmpty 17 = .ok (.aload_n 0, 1) := by decide +kernel
theorem dX6_canBeEmpty_18 : decode cX6_canBeEmpty 18 = .ok (.getfield 72, 3) := by decide +kernel
theorem dX6_canBeEmpty_21 : decode cX6_canBeEmpty 21 = .ok (.ifCond .eq 5, 3) := by decide +kernel
theorem dX6_canBeEmpty_24 : decode cX6_canBeEmpty 24 = .ok (.iconst 0, 1) := by decide +kernel
theorem dX6_canBeEmpty_25 : decode cX6_canBeEmpty 25 = .ok (.ireturn, 1) := by decide +kernel
theorem dX6_canBeEmpty_26 : decode cX6_canBeEmpty 26 = .ok (.aload_n 0, 1) := by decide +kernel
theorem dX6_canBeEmpty_27 : decode cX6_canBeEmpty 27 = .ok (.invokevirtual 106, 3) := by decide +kernel
theorem dX6_canBeEmpty_30 : decode cX6_canBeEmpty 30 = .ok (.aload_n 0, 1) := by decide +kernel
theorem dX6_canBeEmpty_31 : decode cX6_canBeEmpty 31 = .ok (.getfield 66, 3) := by decide +kernel
theorem dX6_canBeEmpty_34 : decode cX6_canBeEmpty 34 = .ok (.iload_n 1, 1) := by decide +kernel
theorem dX6_canBeEmpty_35 : decode cX6_canBeEmpty 35 = .ok (.baload, 1) := by decide +kernel
theorem dX6_canBeEmpty_36 : decode cX6_canBeEmpty 36 = .ok (.ireturn, 1) := by decide +kernel
set_option maxRecDepth 20000 in
theorem ggX6_isLeftRecursive_X6_isRule : GoodIn wsX6_isLeftRecursive wsX6_isRule := goodIn_r _ [7] (by decide +kernel) (by decide +kernel)
set_option maxRecDepth 20000 in
theorem gX6_isLeftRecursive_X6_isRule : GoodIn wsX6_isLeftRecursive (va_wsS RX6 90 yX6_isRule wsX6_isRule) := goodIn_app (goodIn_of _ (by decide +kernel)) ggX6_isLeftRecursive_X6_isRule
set_option maxRecDepth 20000 in
theorem ggX6_isLeftRecursive_X6_findForms : GoodIn wsX6_isLeftRecursive wsX6_findForms := goodIn_r _ [11, 12, 13, 14, 2, 3, 15, 16, 17, 6, 18, 19, 20, 21, 22, 23, 24, 25, 26, 27, 28, 29, 30, 31, 32, 33, 34, 35, 36, 37, 38, 39, 40, 41, 42, 43, 44, 45, 46, 47, 48, 49, 50, 51, 52, 53, 54] (by decide +kernel) (by decide +kernel)
set_option maxRecDepth 20000 in
theorem gX6_isLeftRecursive_X6_findForms : GoodIn wsX6_isLeftRecursive (wsV RX6 106 RX6 yX6_findForms wsX6_findForms) := goodIn_app (goodIn_of _ (by decide +kernel)) ggX6_isLeftRecursive_X6_findForms
theorem dX6_isLeftRecursive_0 : decode cX6_isLeftRecursive 0 = .ok (.aload_n 0, 1) := by decide +kernel
theorem dX6_isLeftRecursive_1 : decode cX6_isLeftRecursive 1 = .ok (.iload_n 1, 1) := by decide +kernel
theorem dX6_isLeftRecursive_2 : decode cX6_isLeftRecursive 2 = .ok (.invokestatic 90, 3) := by decide +kernel
theorem dX6_isLeftRecursive_5 : decode cX6_isLeftRecursive 5 = .ok (.ifCond .eq 7, 3) := by decide +kernel
theorem dX6_isLeftRecursive_8 : decode cX6_isLeftRecursive 8 = .ok (.iconst 0, 1) := by decide +kernel
theorem dX6_isLeftRecursive_9 : decode cX6_isLeftRecursive 9 = .ok (.goto 4, 3) := by decide +kernel
theorem dX6_isLeftRecursive_12 : decode cX6_isLeftRecursive 12 = .ok (.iconst 1, 1) := by decide +kernel
theorem dX6_isLeftRecursive_13 : decode cX6_isLeftRecursive 13 = .ok (.putfield 72, 3) := by decide +kernel
theorem dX6_isLeftRecursive_16 : decode cX6_isLeftRecursive 16 = .ok (.aload_n 0, 1) := by decide +kernel
theorem dX6_isLeftRecursive_17 : decode cX6_isLeftRecursive 17 = .ok (.getfield 72, 3) := by decide +kernel
theorem dX6_isLeftRecursive_20 : decode cX6_isLeftRecursive 20 = .ok (.ifCond .ne 13, 3) := by decide +kernel
theorem dX6_isLeftRecursive_23 : decode cX6_isLeftRecursive 23 = .ok (.aload_n 0, 1) := by decide +kernel
theorem dX6_isLeftRecursive_24 : decode cX6_isLeftRecursive 24 = .ok (.getfield 19, 3) := by decide +kernel
theorem dX6_isLeftRecursive_27 : decode cX6_isLeftRecursive 27 = .ok (.iload_n 1, 1) := by decide +kernel
theorem dX6_isLeftRecursive_28 : decode cX6_isLeftRecursive 28 = .ok (.iaload, 1) := by decide +kernel
theorem dX6_isLeftRecursive_29 : decode cX6_isLeftRecursive 29 = .ok (.iconst (-1), 1) := by decide +kernel
theorem dX6_isLeftRecursive_30 : decode cX6_isLeftRecursive 30 = .ok (.if_icmp .ne 5, 3) := by decide +kernel
theorem dX6_isLeftRecursive_33 : decode cX6_isLeftRecursive 33 = .ok (.iconst 0, 1) := by decide +kernel
theorem dX6_isLeftRecursive_34 : decode cX6_isLeftRecursive 34 = .ok (.ireturn, 1) := by decide +kernel
theorem dX6_isLeftRecursive_35 : decode cX6_isLeftRecursive 35 = .ok (.aload_n 0, 1) := by decide +kernel
theorem dX6_isLeftRecursive_36 : decode cX6_isLeftRecursive 36 = .ok (.invokevirtual 106, 3) := by decide +kernel
theorem dX6_isLeftRecursive_39 : decode cX6_isLeftRecursive 39 = .ok (.aload_n 0, 1) := by decide +kernel
theorem dX6_isLeftRecursive_40 : decode cX6_isLeftRecursive 40 = .ok (.getfield 69, 3) := by decide +kernel
theorem dX6_isLeftRecursive_43 : decode cX6_isLeftRecursive 43 = .ok (.aload_n 0, 1) := by decide +kernel
theorem dX6_isLeftRecursive_44 : decode cX6_isLeftRecursive 44 = .ok (.getfield 19, 3) := by decide +kernel
theorem dX6_isLeftRecursive_47 : decode cX6_isLeftRecursive 47 = .ok (.iload_n 1, 1) := by decide +kernel
theorem dX6_isLeftRecursive_48 : decode cX6_isLeftRecursive 48 = .ok (.iaload, 1) := by decide +kernel
theorem dX6_isLeftRecursive_49 : decode cX6_isLeftRecursive 49 = .ok (.iaload, 1) := by decide +kernel
theorem dX6_isLeftRecursive_50 : decode cX6_isLeftRecursive 50 = .ok (.istore_n 2, 1) := by decide +kernel
theorem dX6_isLeftRecursive_51 : decode cX6_isLeftRecursive 51 = .ok (.iconst 0, 1) := by decide +kernel
theorem dX6_isLeftRecursive_52 : decode cX6_isLeftRecursive 52 = .ok (.istore_n 3, 1) := by decide +kernel
theorem dX6_isLeftRecursive_53 : decode cX6_isLeftRecursive 53 = .ok (.iload_n 3, 1) := by decide +kernel
theorem dX6_isLeftRecursive_54 : decode cX6_isLeftRecursive 54 = .ok (.bipush 10, 2) := by decide +kernel
theorem dX6_isLeftRecursive_56 : decode cX6_isLeftRecursive 56 = .ok (.if_icmp .ge 61, 3) := by decide +kernel
theorem dX6_isLeftRecursive_59 : decode cX6_isLeftRecursive 59 = .ok (.iconst 0, 1) := by decide +kernel
theorem dX6_isLeftRecursive_60 : decode cX6_isLeftRecursive 60 = .ok (.istore 4, 2) := by decide +kernel
theorem dX6_isLeftRecursive_62 : decode cX6_isLeftRecursive 62 = .ok (.iload 4, 2) := by decide +kernel
theorem dX6_isLeftRecursive_64 : decode cX6_isLeftRecursive 64 = .ok (.bipush 10, 2) := by decide +kernel
theorem dX6_isLeftRecursive_66 : decode cX6_isLeftRecursive 66 = .ok (.if_icmp .ge 45, 3) := by decide +kernel
theorem dX6_isLeftRecursive_69 : decode cX6_isLeftRecursive 69 = .ok (.iload_n 2, 1) := by decide +kernel
theorem dX6_isLeftRecursive_70 : decode cX6_isLeftRecursive 70 = .ok (.iload 4, 2) := by decide +kernel
theorem dX6_isLeftRecursive_72 : decode cX6_isLeftRecursive 72 = .ok (.ishr, 1) := by decide +kernel
theorem dX6_isLeftRecursive_73 : decode cX6_isLeftRecursive 73 = .ok (.iconst 1, 1) := by decide +kernel
theorem dX6_isLeftRecursive_74 : decode cX6_isLeftRecursive 74 = .ok (.iand, 1) := by decide +kernel
theorem dX6_isLeftRecursive_75 : decode cX6_isLeftRecursive 75 = .ok (.iconst 1, 1) := by decide +kernel
theorem dX6_isLeftRecursive_76 : decode cX6_isLeftRecursive 76 = .ok (.if_icmp .ne 29, 3) := by decide +kernel
theorem dX6_isLeftRecursive_79 : decode cX6_isLeftRecursive 79 = .ok (.aload_n 0, 1) := by decide +kernel
theorem dX6_isLeftRecursive_80 : decode cX6_isLeftRecursive 80 = .ok (.getfield 19, 3) := by decide +kernel
theorem dX6_isLeftRecursive_83 : decode cX6_isLeftRecursive 83 = .ok (.iload 4, 2) := by decide +kernel
theorem dX6_isLeftRecursive_85 : decode cX6_isLeftRecursive 85 = .ok (.iaload, 1) := by decide +kernel
theorem dX6_isLeftRecursive_86 : decode cX6_isLeftRecursive 86 = .ok (.iconst (-1), 1) := by decide +kernel
theorem dX6_isLeftRecursive_87 : decode cX6_isLeftRecursive 87 = .ok (.if_icmp .eq 18, 3) := by decide +kernel
theorem dX6_isLeftRecursive_90 : decode cX6_isLeftRecursive 90 = .ok (.iload_n 2, 1) := by decide +kernel
theorem dX6_isLeftRecursive_91 : decode cX6_isLeftRecursive 91 = .ok (.aload_n 0, 1) := by decide +kernel
theorem dX6_isLeftRecursive_92 : decode cX6_isLeftRecursive 92 = .ok (.getfield 69, 3) := by decide +kernel
theorem dX6_isLeftRecursive_95 : decode cX6_isLeftRecursive 95 = .ok (.aload_n 0, 1) := by decide +kernel
theorem dX6_isLeftRecursive_96 : decode cX6_isLeftRecursive 96 = .ok (.getfield 19, 3) := by decide +kernel
theorem dX6_isLeftRecursive_99 : decode cX6_isLeftRecursive 99 = .ok (.iload 4, 2) := by decide +kernel
theorem dX6_isLeftRecursive_101 : decode cX6_isLeftRecursive 101 = .ok (.iaload, 1) := by decide +kernel
theorem dX6_isLeftRecursive_102 : decode cX6_isLeftRecursive 102 = .ok (.iaload, 1) := by decide +kernel
theorem dX6_isLeftRecursive_103 : decode cX6_isLeftRecursive 103 = .ok (.ior, 1) := by decide +kernel
end
section
theorem dX6_isLeftRecursive_104 : decode cX6_isLeftRecursive 104 = .ok (.istore_n 2, 1) := by decide +kernel
theorem dX6_isLeftRecursive_105 : decode cX6_isLeftRecursive 105 = .ok (.iinc 4 1, 3) := by decide +kernel
theorem dX6_isLeftRecursive_108 : decode cX6_isLeftRecursive 108 = .ok (.goto (-46), 3) := by decide +kernel
theorem dX6_isLeftRecursive_111 : decode cX6_isLeftRecursive 111 = .ok (.iinc 3 1, 3) := by decide +kernel
theorem dX6_isLeftRecursive_114 : decode cX6_isLeftRecursive 114 = .ok (.goto (-61), 3) := by decide +kernel
theorem dX6_isLeftRecursive_117 : decode cX6_isLeftRecursive 117 = .ok (.iload_n 2, 1) := by decide +kernel
theorem dX6_isLeftRecursive_118 : decode cX6_isLeftRecursive 118 = .ok (.iload_n 1, 1) := by decide +kernel
theorem dX6_isLeftRecursive_119 : decode cX6_isLeftRecursive 119 = .ok (.ishr, 1) := by decide +kernel
theorem dX6_isLeftRecursive_120 : decode cX6_isLeftRecursive 120 = .ok (.iconst 1, 1) := by decide +kernel
theorem dX6_isLeftRecursive_121 : decode cX6_isLeftRecursive 121 = .ok (.iand, 1) := by decide +kernel
theorem dX6_isLeftRecursive_122 : decode cX6_isLeftRecursive 122 = .ok (.iconst 1, 1) := by decide +kernel
theorem dX6_isLeftRecursive_123 : decode cX6_isLeftRecursive 123 = .ok (.if_icmp .ne 7, 3) := by decide +kernel
theorem dX6_isLeftRecursive_126 : decode cX6_isLeftRecursive 126 = .ok (.iconst 1, 1) := by decide +kernel
theorem dX6_isLeftRecursive_127 : decode cX6_isLeftRecursive 127 = .ok (.goto 4, 3) := by decide +kernel
theorem dX6_isLeftRecursive_130 : decode cX6_isLeftRecursive 130 = .ok (.iconst 0, 1) := by decide +kernel
theorem dX6_isLeftRecursive_131 : decode cX6_isLeftRecursive 131 = .ok (.ireturn, 1) := by decide +kernel
theorem dX6_byteOf_0 : decode cX6_byteOf 0 = .ok (.lload_n 0, 1) := by decide +kernel
theorem dX6_byteOf_1 : decode cX6_byteOf 1 = .ok (.bipush 56, 2) := by decide +kernel
theorem dX6_byteOf_3 : decode cX6_byteOf 3 = .ok (.bipush 8, 2) := by decide +kernel
theorem dX6_byteOf_5 : decode cX6_byteOf 5 = .ok (.iload_n 2, 1) := by decide +kernel
theorem dX6_byteOf_6 : decode cX6_byteOf 6 = .ok (.imul, 1) := by decide +kernel
theorem dX6_byteOf_7 : decode cX6_byteOf 7 = .ok (.isub, 1) := by decide +kernel
theorem dX6_byteOf_8 : decode cX6_byteOf 8 = .ok (.lshr, 1) := by decide +kernel
theorem dX6_byteOf_9 : decode cX6_byteOf 9 = .ok (.ldc2_w 109, 3) := by decide +kernel
theorem dX6_byteOf_12 : decode cX6_byteOf 12 = .ok (.land, 1) := by decide +kernel
theorem dX6_byteOf_13 : decode cX6_byteOf 13 = .ok (.l2i, 1) := by decide +kernel
theorem dX6_byteOf_14 : decode cX6_byteOf 14 = .ok (.ireturn, 1) := by decide +kernel
set_option maxRecDepth 20000 in
theorem ggX6_replace_X6_fail : GoodIn wsX6_replace wsX6_fail := goodIn_r _ [9, 1, 26, 27, 28, 29, 30, 31, 32, 33, 34, 35, 36, 37, 38, 39, 40, 41, 42, 43, 44, 45, 46, 47, 48, 49, 50, 51, 52, 53, 54] (by decide +kernel) (by decide +kernel)
set_option maxRecDepth 20000 in
theorem gX6_replace_X6_fail : GoodIn wsX6_replace (wsV RX6 78 RX6 yX6_fail wsX6_fail) := goodIn_app (goodIn_of _ (by decide +kernel)) ggX6_replace_X6_fail
set_option maxRecDepth 20000 in
theorem ggX6_replace_X6_byteOf : GoodIn wsX6_replace wsX6_byteOf := goodIn_r _ [12, 13] (by decide +kernel) (by decide +kernel)
set_option maxRecDepth 20000 in
theorem gX6_replace_X6_byteOf : GoodIn wsX6_replace (va_wsS RX6 114 yX6_byteOf wsX6_byteOf) := goodIn_app (goodIn_of _ (by decide +kernel)) ggX6_replace_X6_byteOf
set_option maxRecDepth 20000 in
theorem ggX6_replace_X6_isByte : GoodIn wsX6_replace wsX6_isByte := goodIn_r _ [16] (by decide +kernel) (by decide +kernel)
set_option maxRecDepth 20000 in
theorem gX6_replace_X6_isByte : GoodIn wsX6_replace (va_wsS RX6 86 yX6_isByte wsX6_isByte) := goodIn_app (goodIn_of _ (by decide +kernel)) ggX6_replace_X6_isByte
set_option maxRecDepth 20000 in
theorem ggX6_replace_X6_keep : GoodIn wsX6_replace wsX6_keep := goodIn_r _ [20, 21, 3, 2, 22, 23, 24, 25, 26, 27, 28, 29, 30, 31, 32, 33, 34, 35, 36, 37, 38, 39, 40, 41, 42, 43, 44, 45, 46, 47, 48, 49, 50, 51, 52, 53, 54] (by decide +kernel) (by decide +kernel)
set_option maxRecDepth 20000 in
theorem gX6_replace_X6_keep : GoodIn wsX6_replace (wsV RX6 118 RX6 yX6_keep wsX6_keep) := goodIn_app (goodIn_of _ (by decide +kernel)) ggX6_replace_X6_keep
theorem dX6_replace_0 : decode cX6_replace 0 = .ok (.aload_n 0, 1) := by decide +kernel
theorem dX6_replace_1 : decode cX6_replace 1 = .ok (.iconst 0, 1) := by decide +kernel
theorem dX6_replace_2 : decode cX6_replace 2 = .ok (.putfield 72, 3) := by decide +kernel
theorem dX6_replace_5 : decode cX6_replace 5 = .ok (.iload_n 1, 1) := by decide +kernel
theorem dX6_replace_6 : decode cX6_replace 6 = .ok (.ifCond .lt 21, 3) := by decide +kernel
theorem dX6_replace_9 : decode cX6_replace 9 = .ok (.iload_n 2, 1) := by decide +kernel
theorem dX6_replace_10 : decode cX6_replace 10 = .ok (.ifCond .lt 17, 3) := by decide +kernel
theorem dX6_replace_13 : decode cX6_replace 13 = .ok (.iload_n 1, 1) := by decide +kernel
theorem dX6_replace_14 : decode cX6_replace 14 = .ok (.i2l, 1) := by decide +kernel
theorem dX6_replace_15 : decode cX6_replace 15 = .ok (.iload_n 2, 1) := by decide +kernel
theorem dX6_replace_16 : decode cX6_replace 16 = .ok (.i2l, 1) := by decide +kernel
theorem dX6_replace_17 : decode cX6_replace 17 = .ok (.ladd, 1) := by decide +kernel
theorem dX6_replace_18 : decode cX6_replace 18 = .ok (.aload_n 0, 1) := by decide +kernel
theorem dX6_replace_19 : decode cX6_replace 19 = .ok (.getfield 111, 3) := by decide +kernel
theorem dX6_replace_22 : decode cX6_replace 22 = .ok (.i2l, 1) := by decide +kernel
theorem dX6_replace_23 : decode cX6_replace 23 = .ok (.lcmp, 1) := by decide +kernel
theorem dX6_replace_24 : decode cX6_replace 24 = .ok (.ifCond .le 9, 3) := by decide +kernel
theorem dX6_replace_27 : decode cX6_replace 27 = .ok (.aload_n 0, 1) := by decide +kernel
theorem dX6_replace_28 : decode cX6_replace 28 = .ok (.iconst 1, 1) := by decide +kernel
theorem dX6_replace_29 : decode cX6_replace 29 = .ok (.invokevirtual 78, 3) := by decide +kernel
theorem dX6_replace_32 : decode cX6_replace 32 = .ok (.ireturn, 1) := by decide +kernel
theorem dX6_replace_33 : decode cX6_replace 33 = .ok (.iconst 0, 1) := by decide +kernel
theorem dX6_replace_34 : decode cX6_replace 34 = .ok (.istore 5, 2) := by decide +kernel
theorem dX6_replace_36 : decode cX6_replace 36 = .ok (.iconst 0, 1) := by decide +kernel
theorem dX6_replace_37 : decode cX6_replace 37 = .ok (.istore 6, 2) := by decide +kernel
theorem dX6_replace_39 : decode cX6_replace 39 = .ok (.iload 6, 2) := by decide +kernel
theorem dX6_replace_41 : decode cX6_replace 41 = .ok (.bipush 8, 2) := by decide +kernel
theorem dX6_replace_43 : decode cX6_replace 43 = .ok (.if_icmp .ge 51, 3) := by decide +kernel
theorem dX6_replace_46 : decode cX6_replace 46 = .ok (.lload_n 3, 1) := by decide +kernel
theorem dX6_replace_47 : decode cX6_replace 47 = .ok (.iload 6, 2) := by decide +kernel
theorem dX6_replace_49 : decode cX6_replace 49 = .ok (.invokestatic 114, 3) := by decide +kernel
theorem dX6_replace_52 : decode cX6_replace 52 = .ok (.istore 7, 2) := by decide +kernel
theorem dX6_replace_54 : decode cX6_replace 54 = .ok (.iload 7, 2) := by decide +kernel
theorem dX6_replace_56 : decode cX6_replace 56 = .ok (.ifCond .eq 17, 3) := by decide +kernel
theorem dX6_replace_59 : decode cX6_replace 59 = .ok (.iload 7, 2) := by decide +kernel
theorem dX6_replace_61 : decode cX6_replace 61 = .ok (.invokestatic 86, 3) := by decide +kernel
theorem dX6_replace_64 : decode cX6_replace 64 = .ok (.ifCond .ne 9, 3) := by decide +kernel
theorem dX6_replace_67 : decode cX6_replace 67 = .ok (.aload_n 0, 1) := by decide +kernel
theorem dX6_replace_68 : decode cX6_replace 68 = .ok (.iconst 2, 1) := by decide +kernel
theorem dX6_replace_69 : decode cX6_replace 69 = .ok (.invokevirtual 78, 3) := by decide +kernel
theorem dX6_replace_72 : decode cX6_replace 72 = .ok (.ireturn, 1) := by decide +kernel
theorem dX6_replace_73 : decode cX6_replace 73 = .ok (.iload 5, 2) := by decide +kernel
theorem dX6_replace_75 : decode cX6_replace 75 = .ok (.iload 7, 2) := by decide +kernel
theorem dX6_replace_77 : decode cX6_replace 77 = .ok (.ifCond .ne 7, 3) := by decide +kernel
theorem dX6_replace_80 : decode cX6_replace 80 = .ok (.iconst 0, 1) := by decide +kernel
theorem dX6_replace_81 : decode cX6_replace 81 = .ok (.goto 4, 3) := by decide +kernel
theorem dX6_replace_84 : decode cX6_replace 84 = .ok (.iconst 1, 1) := by decide +kernel
theorem dX6_replace_85 : decode cX6_replace 85 = .ok (.iadd, 1) := by decide +kernel
theorem dX6_replace_86 : decode cX6_replace 86 = .ok (.istore 5, 2) := by decide +kernel
theorem dX6_replace_88 : decode cX6_replace 88 = .ok (.iinc 6 1, 3) := by decide +kernel
theorem dX6_replace_91 : decode cX6_replace 91 = .ok (.goto (-52), 3) := by decide +kernel
theorem dX6_replace_94 : decode cX6_replace 94 = .ok (.aload_n 0, 1) := by decide +kernel
theorem dX6_replace_95 : decode cX6_replace 95 = .ok (.getfield 111, 3) := by decide +kernel
theorem dX6_replace_98 : decode cX6_replace 98 = .ok (.iload_n 2, 1) := by decide +kernel
theorem dX6_replace_99 : decode cX6_replace 99 = .ok (.isub, 1) := by decide +kernel
theorem dX6_replace_100 : decode cX6_replace 100 = .ok (.iload 5, 2) := by decide +kernel
theorem dX6_replace_102 : decode cX6_replace 102 = .ok (.iadd, 1) := by decide +kernel
theorem dX6_replace_103 : decode cX6_replace 103 = .ok (.bipush 40, 2) := by decide +kernel
theorem dX6_replace_105 : decode cX6_replace 105 = .ok (.if_icmp .le 9, 3) := by decide +kernel
theorem dX6_replace_108 : decode cX6_replace 108 = .ok (.aload_n 0, 1) := by decide +kernel
theorem dX6_replace_109 : decode cX6_replace 109 = .ok (.iconst 3, 1) := by decide +kernel
theorem dX6_replace_110 : decode cX6_replace 110 = .ok (.invokevirtual 78, 3) := by decide +kernel
theorem dX6_replace_113 : decode cX6_replace 113 = .ok (.ireturn, 1) := by decide +kernel
theorem dX6_replace_114 : decode cX6_replace 114 = .ok (.bipush 40, 2) := by decide +kernel
theorem dX6_replace_116 : decode cX6_replace 116 = .ok (.newarray .int, 2) := by decide +kernel
theorem dX6_replace_118 : decode cX6_replace 118 = .ok (.astore 6, 2) := by decide +kernel
theorem dX6_replace_120 : decode cX6_replace 120 = .ok (.iconst 0, 1) := by decide +kernel
theorem dX6_replace_121 : decode cX6_replace 121 = .ok (.istore 7, 2) := by decide +kernel
theorem dX6_replace_123 : decode cX6_replace 123 = .ok (.iload 7, 2) := by decide +kernel
theorem dX6_replace_125 : decode cX6_replace 125 = .ok (.iload_n 1, 1) := by decide +kernel
theorem dX6_replace_126 : decode cX6_replace 126 = .ok (.if_icmp .ge 21, 3) := by decide +kernel
theorem dX6_replace_129 : decode cX6_replace 129 = .ok (.aload 6, 2) := by decide +kernel
theorem dX6_replace_131 : decode cX6_replace 131 = .ok (.iload 7, 2) := by decide +kernel
theorem dX6_replace_133 : decode cX6_replace 133 = .ok (.aload_n 0, 1) := by decide +kernel
theorem dX6_replace_134 : decode cX6_replace 134 = .ok (.getfield 22, 3) := by decide +kernel
theorem dX6_replace_137 : decode cX6_replace 137 = .ok (.iload 7, 2) := by decide +kernel
theorem dX6_replace_139 : decode cX6_replace 139 = .ok (.iaload, 1) := by decide +kernel
theorem dX6_replace_140 : decode cX6_replace 140 = .ok (.iastore, 1) := by decide +kernel
theorem dX6_replace_141 : decode cX6_replace 141 = .ok (.iinc 7 1, 3) := by decide +kernel
theorem dX6_replace_144 : decode cX6_replace 144 = .ok (.goto (-21), 3) := by decide +kernel
theorem dX6_replace_147 : decode cX6_replace 147 = .ok (.iload_n 1, 1) := by decide +kernel
theorem dX6_replace_148 : decode cX6_replace 148 = .ok (.istore 7, 2) := by decide +kernel
theorem dX6_replace_150 : decode cX6_replace 150 = .ok (.iconst 0, 1) := by decide +kernel
theorem dX6_replace_151 : decode cX6_replace 151 = .ok (.istore 8, 2) := by decide +kernel
theorem dX6_replace_153 : decode cX6_replace 153 = .ok (.iload 8, 2) := by decide +kernel
theorem dX6_replace_155 : decode cX6_replace 155 = .ok (.bipush 8, 2) := by decide +kernel
theorem dX6_replace_157 : decode cX6_replace 157 = .ok (.if_icmp .ge 35, 3) := by decide +kernel
theorem dX6_replace_160 : decode cX6_replace 160 = .ok (.lload_n 3, 1) := by decide +kernel
theorem dX6_replace_161 : decode cX6_replace 161 = .ok (.iload 8, 2) := by decide +kernel
theorem dX6_replace_163 : decode cX6_replace 163 = .ok (.invokestatic 114, 3) := by decide +kernel
theorem dX6_replace_166 : decode cX6_replace 166 = .ok (.ifCond .ne 6, 3) := by decide +kernel
theorem dX6_replace_169 : decode cX6_replace 169 = .ok (.goto 17, 3) := by decide +kernel
theorem dX6_replace_172 : decode cX6_replace 172 = .ok (.aload 6, 2) := by decide +kernel
theorem dX6_replace_174 : decode cX6_replace 174 = .ok (.iload 7, 2) := by decide +kernel
theorem dX6_replace_176 : decode cX6_replace 176 = .ok (.lload_n 3, 1) := by decide +kernel
theorem dX6_replace_177 : decode cX6_replace 177 = .ok (.iload 8, 2) := by decide +kernel
theorem dX6_replace_179 : decode cX6_replace 179 = .ok (.invokestatic 114, 3) := by decide +kernel
theorem dX6_replace_182 : decode cX6_replace 182 = .ok (.iastore, 1) := by decide +kernel
theorem dX6_replace_183 : decode cX6_replace 183 = .ok (.iinc 7 1, 3) := by decide +kernel
theorem dX6_replace_186 : decode cX6_replace 186 = .ok (.iinc 8 1, 3) := by decide +kernel
theorem dX6_replace_189 : decode cX6_replace 189 = .ok (.goto (-36), 3) := by decide +kernel
theorem dX6_replace_192 : decode cX6_replace 192 = .ok (.iload_n 1, 1) := by decide +kernel
theorem dX6_replace_193 : decode cX6_replace 193 = .ok (.iload_n 2, 1) := by decide +kernel
theorem dX6_replace_194 : decode cX6_replace 194 = .ok (.iadd, 1) := by decide +kernel
theorem dX6_replace_195 : decode cX6_replace 195 = .ok (.istore 8, 2) := by decide +kernel
theorem dX6_replace_197 : decode cX6_replace 197 = .ok (.iload 8, 2) := by decide +kernel
theorem dX6_replace_199 : decode cX6_replace 199 = .ok (.aload_n 0, 1) := by decide +kernel
theorem dX6_replace_200 : decode cX6_replace 200 = .ok (.getfield 111, 3) := by decide +kernel
theorem dX6_replace_203 : decode cX6_replace 203 = .ok (.if_icmp .ge 26, 3) := by decide +kernel
theorem dX6_replace_206 : decode cX6_replace 206 = .ok (.aload 6, 2) := by decide +kernel
theorem dX6_replace_208 : decode cX6_replace 208 = .ok (.iload 8, 2) := by decide +kernel
theorem dX6_replace_210 : decode cX6_replace 210 = .ok (.iload 5, 2) := by decide +kernel
theorem dX6_replace_212 : decode cX6_replace 212 = .ok (.iadd, 1) := by decide +kernel
theorem dX6_replace_213 : decode cX6_replace 213 = .ok (.iload_n 2, 1) := by decide +kernel
theorem dX6_replace_214 : decode cX6_replace 214 = .ok (.isub, 1) := by decide +kernel
theorem dX6_replace_215 : decode cX6_replace 215 = .ok (.aload_n 0, 1) := by decide +kernel
theorem dX6_replace_216 : decode cX6_replace 216 = .ok (.getfield 22, 3) := by decide +kernel
theorem dX6_replace_219 : decode cX6_replace 219 = .ok (.iload 8, 2) := by decide +kernel
theorem dX6_replace_221 : decode cX6_replace 221 = .ok (.iaload, 1) := by decide +kernel
theorem dX6_replace_222 : decode cX6_replace 222 = .ok (.iastore, 1) := by decide +kernel
theorem dX6_replace_223 : decode cX6_replace 223 = .ok (.iinc 8 1, 3) := by decide +kernel
theorem dX6_replace_226 : decode cX6_replace 226 = .ok (.goto (-29), 3) := by decide +kernel
theorem dX6_replace_229 : decode cX6_replace 229 = .ok (.aload_n 0, 1) := by decide +kernel
theorem dX6_replace_230 : decode cX6_replace 230 = .ok (.aload 6, 2) := by decide +kernel
theorem dX6_replace_232 : decode cX6_replace 232 = .ok (.putfield 22, 3) := by decide +kernel
theorem dX6_replace_235 : decode cX6_replace 235 = .ok (.aload_n 0, 1) := by decide +kernel
theorem dX6_replace_236 : decode cX6_replace 236 = .ok (.iload_n 1, 1) := by decide +kernel
theorem dX6_replace_237 : decode cX6_replace 237 = .ok (.iload_n 2, 1) := by decide +kernel
theorem dX6_replace_238 : decode cX6_replace 238 = .ok (.iload 5, 2) := by decide +kernel
theorem dX6_replace_240 : decode cX6_replace 240 = .ok (.iload_n 2, 1) := by decide +kernel
theorem dX6_replace_241 : decode cX6_replace 241 = .ok (.isub, 1) := by decide +kernel
theorem dX6_replace_242 : decode cX6_replace 242 = .ok (.invokevirtual 118, 3) := by decide +kernel
theorem dX6_replace_245 : decode cX6_replace 245 = .ok (.istore 8, 2) := by decide +kernel
theorem dX6_replace_247 : decode cX6_replace 247 = .ok (.aload_n 0, 1) := by decide +kernel
theorem dX6_replace_248 : decode cX6_replace 248 = .ok (.dup, 1) := by decide +kernel
theorem dX6_replace_249 : decode cX6_replace 249 = .ok (.getfield 111, 3) := by decide +kernel
theorem dX6_replace_252 : decode cX6_replace 252 = .ok (.iload 5, 2) := by decide +kernel
theorem dX6_replace_254 : decode cX6_replace 254 = .ok (.iload_n 2, 1) := by decide +kernel
theorem dX6_replace_255 : decode cX6_replace 255 = .ok (.isub, 1) := by decide +kernel
theorem dX6_replace_256 : decode cX6_replace 256 = .ok (.iadd, 1) := by decide +kernel
theorem dX6_replace_257 : decode cX6_replace 257 = .ok (.putfield 111, 3) := by decide +kernel
theorem dX6_replace_260 : decode cX6_replace 260 = .ok (.iload 8, 2) := by decide +kernel
theorem dX6_replace_262 : decode cX6_replace 262 = .ok (.ireturn, 1) := by decide +kernel
theorem dX6_keep_0 : decode cX6_keep 0 = .ok (.sipush 410, 3) := by decide +kernel
theorem dX6_keep_3 : decode cX6_keep 3 = .ok (.newarray .boolean, 2) := by decide +kernel
theorem dX6_keep_5 : decode cX6_keep 5 = .ok (.astore 4, 2) := by decide +kernel
theorem dX6_keep_7 : decode cX6_keep 7 = .ok (.sipush 410, 3) := by decide +kernel
theorem dX6_keep_10 : decode cX6_keep 10 = .ok (.newarray .int, 2) := by decide +kernel
theorem dX6_keep_12 : decode cX6_keep 12 = .ok (.astore 5, 2) := by decide +kernel
theorem dX6_keep_14 : decode cX6_keep 14 = .ok (.sipush 410, 3) := by decide +kernel
theorem dX6_keep_17 : decode cX6_keep 17 = .ok (.newarray .int, 2) := by decide +kernel
theorem dX6_keep_19 : decode cX6_keep 19 = .ok (.astore 6, 2) := by decide +kernel
theorem dX6_keep_21 : decode cX6_keep 21 = .ok (.sipush 410, 3) := by decide +kernel
theorem dX6_keep_24 : decode cX6_keep 24 = .ok (.newarray .int, 2) := by decide +kernel
theorem dX6_keep_26 : decode cX6_keep 26 = .ok (.astore 7, 2) := by decide +kernel
theorem dX6_keep_28 : decode cX6_keep 28 = .ok (.iconst 0, 1) := by decide +kernel
theorem dX6_keep_29 : decode cX6_keep 29 = .ok (.istore 8, 2) := by decide +kernel
theorem dX6_keep_31 : decode cX6_keep 31 = .ok (.iconst 0, 1) := by decide +kernel
theorem dX6_keep_32 : decode cX6_keep 32 = .ok (.istore 9, 2) := by decide +kernel
theorem dX6_keep_34 : decode cX6_keep 34 = .ok (.iload 9, 2) := by decide +kernel
theorem dX6_keep_36 : decode cX6_keep 36 = .ok (.aload_n 0, 1) := by decide +kernel
theorem dX6_keep_37 : decode cX6_keep 37 = .ok (.getfield 111, 3) := by decide +kernel
theorem dX6_keep_40 : decode cX6_keep 40 = .ok (.if_icmp .gt 188, 3) := by decide +kernel
theorem dX6_keep_43 : decode cX6_keep 43 = .ok (.iconst 0, 1) := by decide +kernel
theorem dX6_keep_44 : decode cX6_keep 44 = .ok (.istore 10, 2) := by decide +kernel
theorem dX6_keep_46 : decode cX6_keep 46 = .ok (.iload 10, 2) := by decide +kernel
theorem dX6_keep_48 : decode cX6_keep 48 = .ok (.bipush 10, 2) := by decide +kernel
theorem dX6_keep_50 : decode cX6_keep 50 = .ok (.if_icmp .ge 172, 3) := by decide +kernel
theorem dX6_keep_53 : decode cX6_keep 53 = .ok (.bipush 41, 2) := by decide +kernel
theorem dX6_keep_55 : decode cX6_keep 55 = .ok (.iload 10, 2) := by decide +kernel
theorem dX6_keep_57 : decode cX6_keep 57 = .ok (.imul, 1) := by decide +kernel
theorem dX6_keep_58 : decode cX6_keep 58 = .ok (.iload 9, 2) := by decide +kernel
theorem dX6_keep_60 : decode cX6_keep 60 = .ok (.iadd, 1) := by decide +kernel
theorem dX6_keep_61 : decode cX6_keep 61 = .ok (.istore 11, 2) := by decide +kernel
theorem dX6_keep_63 : decode cX6_keep 63 = .ok (.aload_n 0, 1) := by decide +kernel
theorem dX6_keep_64 : decode cX6_keep 64 = .ok (.getfield 25, 3) := by decide +kernel
theorem dX6_keep_67 : decode cX6_keep 67 = .ok (.iload 11, 2) := by decide +kernel
theorem dX6_keep_69 : decode cX6_keep 69 = .ok (.baload, 1) := by decide +kernel
theorem dX6_keep_70 : decode cX6_keep 70 = .ok (.ifCond .ne 6, 3) := by decide +kernel
theorem dX6_keep_73 : decode cX6_keep 73 = .ok (.goto 143, 3) := by decide +kernel
theorem dX6_keep_76 : decode cX6_keep 76 = .ok (.iload 9, 2) := by decide +kernel
theorem dX6_keep_78 : decode cX6_keep 78 = .ok (.iload_n 1, 1) := by decide +kernel
theorem dX6_keep_79 : decode cX6_keep 79 = .ok (.iload_n 2, 1) := by decide +kernel
theorem dX6_keep_80 : decode cX6_keep 80 = .ok (.iadd, 1) := by decide +kernel
theorem dX6_keep_81 : decode cX6_keep 81 = .ok (.if_icmp .lt 7, 3) := by decide +kernel
theorem dX6_keep_84 : decode cX6_keep 84 = .ok (.iconst 1, 1) := by decide +kernel
theorem dX6_keep_85 : decode cX6_keep 85 = .ok (.goto 4, 3) := by decide +kernel
theorem dX6_keep_88 : decode cX6_keep 88 = .ok (.iconst 0, 1) := by decide +kernel
theorem dX6_keep_89 : decode cX6_keep 89 = .ok (.istore 12, 2) := by decide +kernel
theorem dX6_keep_91 : decode cX6_keep 91 = .ok (.iload 12, 2) := by decide +kernel
theorem dX6_keep_93 : decode cX6_keep 93 = .ok (.ifCond .ne 20, 3) := by decide +kernel
theorem dX6_keep_96 : decode cX6_keep 96 = .ok (.aload_n 0, 1) := by decide +kernel
theorem dX6_keep_97 : decode cX6_keep 97 = .ok (.getfield 32, 3) := by decide +kernel
theorem dX6_keep_100 : decode cX6_keep 100 = .ok (.iload 11, 2) := by decide +kernel
theorem dX6_keep_102 : decode cX6_keep 102 = .ok (.iaload, 1) := by decide +kernel
theorem dX6_keep_103 : decode cX6_keep 103 = .ok (.iload_n 1, 1) := by decide +kernel
theorem dX6_keep_104 : decode cX6_keep 104 = .ok (.if_icmp .le 9, 3) := by decide +kernel
theorem dX6_keep_107 : decode cX6_keep 107 = .ok (.iinc 8 1, 3) := by decide +kernel
theorem dX6_keep_110 : decode cX6_keep 110 = .ok (.goto 106, 3) := by decide +kernel
theorem dX6_keep_113 : decode cX6_keep 113 = .ok (.iload 12, 2) := by decide +kernel
theorem dX6_keep_115 : decode cX6_keep 115 = .ok (.ifCond .eq 10, 3) := by decide +kernel
theorem dX6_keep_118 : decode cX6_keep 118 = .ok (.iload 11, 2) := by decide +kernel
theorem dX6_keep_120 : decode cX6_keep 120 = .ok (.iload_n 3, 1) := by decide +kernel
theorem dX6_keep_121 : decode cX6_keep 121 = .ok (.iadd, 1) := by decide +kernel
theorem dX6_keep_122 : decode cX6_keep 122 = .ok (.goto 5, 3) := by decide +kernel
theorem dX6_keep_125 : decode cX6_keep 125 = .ok (.iload 11, 2) := by decide +kernel
theorem dX6_keep_127 : decode cX6_keep 127 = .ok (.istore 13, 2) := by decide +kernel
theorem dX6_keep_129 : decode cX6_keep 129 = .ok (.aload 4, 2) := by decide +kernel
theorem dX6_keep_131 : decode cX6_keep 131 = .ok (.iload 13, 2) := by decide +kernel
theorem dX6_keep_133 : decode cX6_keep 133 = .ok (.iconst 1, 1) := by decide +kernel
theorem dX6_keep_134 : decode cX6_keep 134 = .ok (.bastore, 1) := by decide +kernel
theorem dX6_keep_135 : decode cX6_keep 135 = .ok (.aload 5, 2) := by decide +kernel
theorem dX6_keep_137 : decode cX6_keep 137 = .ok (.iload 13, 2) := by decide +kernel
theorem dX6_keep_139 : decode cX6_keep 139 = .ok (.iload 12, 2) := by decide +kernel
theorem dX6_keep_141 : decode cX6_keep 141 = .ok (.ifCond .eq 26, 3) := by decide +kernel
theorem dX6_keep_144 : decode cX6_keep 144 = .ok (.aload_n 0, 1) := by decide +kernel
theorem dX6_keep_145 : decode cX6_keep 145 = .ok (.getfield 29, 3) := by decide +kernel
theorem dX6_keep_148 : decode cX6_keep 148 = .ok (.iload 11, 2) := by decide +kernel
theorem dX6_keep_150 : decode cX6_keep 150 = .ok (.iaload, 1) := by decide +kernel
theorem dX6_keep_151 : decode cX6_keep 151 = .ok (.iconst (-1), 1) := by decide +kernel
theorem dX6_keep_152 : decode cX6_keep 152 = .ok (.if_icmp .eq 15, 3) := by decide +kernel
theorem dX6_keep_155 : decode cX6_keep 155 = .ok (.aload_n 0, 1) := by decide +kernel
theorem dX6_keep_156 : decode cX6_keep 156 = .ok (.getfield 29, 3) := by decide +kernel
theorem dX6_keep_159 : decode cX6_keep 159 = .ok (.iload 11, 2) := by decide +kernel
theorem dX6_keep_161 : decode cX6_keep 161 = .ok (.iaload, 1) := by decide +kernel
theorem dX6_keep_162 : decode cX6_keep 162 = .ok (.iload_n 3, 1) := by decide +kernel
theorem dX6_keep_163 : decode cX6_keep 163 = .ok (.iadd, 1) := by decide +kernel
theorem dX6_keep_164 : decode cX6_keep 164 = .ok (.goto 10, 3) := by decide +kernel
theorem dX6_keep_167 : decode cX6_keep 167 = .ok (.aload_n 0, 1) := by decide +kernel
theorem dX6_keep_168 : decode cX6_keep 168 = .ok (.getfield 29, 3) := by decide +kernel
theorem dX6_keep_171 : decode cX6_keep 171 = .ok (.iload 11, 2) := by decide +kernel
theorem dX6_keep_173 : decode cX6_keep 173 = .ok (.iaload, 1) := by decide +kernel
theorem dX6_keep_174 : decode cX6_keep 174 = .ok (.iastore, 1) := by decide +kernel
theorem dX6_keep_175 : decode cX6_keep 175 = .ok (.aload 6, 2) := by decide +kernel
theorem dX6_keep_177 : decode cX6_keep 177 = .ok (.iload 13, 2) := by decide +kernel
theorem dX6_keep_179 : decode cX6_keep 179 = .ok (.iload 12, 2) := by decide +kernel
theorem dX6_keep_181 : decode cX6_keep 181 = .ok (.ifCond .eq 15, 3) := by decide +kernel
theorem dX6_keep_184 : decode cX6_keep 184 = .ok (.aload_n 0, 1) := by decide +kernel
theorem dX6_keep_185 : decode cX6_keep 185 = .ok (.getfield 32, 3) := by decide +kernel
theorem dX6_keep_188 : decode cX6_keep 188 = .ok (.iload 11, 2) := by decide +kernel
theorem dX6_keep_190 : decode cX6_keep 190 = .ok (.iaload, 1) := by decide +kernel
theorem dX6_keep_191 : decode cX6_keep 191 = .ok (.iload_n 3, 1) := by decide +kernel
theorem dX6_keep_192 : decode cX6_keep 192 = .ok (.iadd, 1) := by decide +kernel
theorem dX6_keep_193 : decode cX6_keep 193 = .ok (.goto 10, 3) := by decide +kernel
theorem dX6_keep_196 : decode cX6_keep 196 = .ok (.aload_n 0, 1) := by decide +kernel
theorem dX6_keep_197 : decode cX6_keep 197 = .ok (.getfield 32, 3) := by decide +kernel
theorem dX6_keep_200 : decode cX6_keep 200 = .ok (.iload 11, 2) := by decide +kernel
theorem dX6_keep_202 : decode cX6_keep 202 = .ok (.iaload, 1) := by decide +kernel
theorem dX6_keep_203 : decode cX6_keep 203 = .ok (.iastore, 1) := by decide +kernel
theorem dX6_keep_204 : decode cX6_keep 204 = .ok (.aload 7, 2) := by decide +kernel
theorem dX6_keep_206 : decode cX6_keep 206 = .ok (.iload 13, 2) := by decide +kernel
theorem dX6_keep_208 : decode cX6_keep 208 = .ok (.aload_n 0, 1) := by decide +kernel
theorem dX6_keep_209 : decode cX6_keep 209 = .ok (.getfield 35, 3) := by decide +kernel
theorem dX6_keep_212 : decode cX6_keep 212 = .ok (.iload 11, 2) := by decide +kernel
theorem dX6_keep_214 : decode cX6_keep 214 = .ok (.iaload, 1) := by decide +kernel
theorem dX6_keep_215 : decode cX6_keep 215 = .ok (.iastore, 1) := by decide +kernel
theorem dX6_keep_216 : decode cX6_keep 216 = .ok (.iinc 10 1, 3) := by decide +kernel
theorem dX6_keep_219 : decode cX6_keep 219 = .ok (.goto (-173), 3) := by decide +kernel
theorem dX6_keep_222 : decode cX6_keep 222 = .ok (.iinc 9 1, 3) := by decide +kernel
theorem dX6_keep_225 : decode cX6_keep 225 = .ok (.goto (-191), 3) := by decide +kernel
theorem dX6_keep_228 : decode cX6_keep 228 = .ok (.aload_n 0, 1) := by decide +kernel
theorem dX6_keep_229 : decode cX6_keep 229 = .ok (.aload 4, 2) := by decide +kernel
theorem dX6_keep_231 : decode cX6_keep 231 = .ok (.putfield 25, 3) := by decide +kernel
theorem dX6_keep_234 : decode cX6_keep 234 = .ok (.aload_n 0, 1) := by decide +kernel
theorem dX6_keep_235 : decode cX6_keep 235 = .ok (.aload 5, 2) := by decide +kernel
theorem dX6_keep_237 : decode cX6_keep 237 = .ok (.putfield 29, 3) := by decide +kernel
theorem dX6_keep_240 : decode cX6_keep 240 = .ok (.aload_n 0, 1) := by decide +kernel
theorem dX6_keep_241 : decode cX6_keep 241 = .ok (.aload 6, 2) := by decide +kernel
theorem dX6_keep_243 : decode cX6_keep 243 = .ok (.putfield 32, 3) := by decide +kernel
theorem dX6_keep_246 : decode cX6_keep 246 = .ok (.aload_n 0, 1) := by decide +kernel
theorem dX6_keep_247 : decode cX6_keep 247 = .ok (.aload 7, 2) := by decide +kernel
theorem dX6_keep_249 : decode cX6_keep 249 = .ok (.putfield 35, 3) := by decide +kernel
theorem dX6_keep_252 : decode cX6_keep 252 = .ok (.iload 8, 2) := by decide +kernel
theorem dX6_keep_254 : decode cX6_keep 254 = .ok (.ireturn, 1) := by decide +kernel
theorem dX6_size_0 : decode cX6_size 0 = .ok (.aload_n 0, 1) := by decide +kernel
theorem dX6_size_1 : decode cX6_size 1 = .ok (.iconst 0, 1) := by decide +kernel
theorem dX6_size_2 : decode cX6_size 2 = .ok (.putfield 72, 3) := by decide +kernel
theorem dX6_size_5 : decode cX6_size 5 = .ok (.aload_n 0, 1) := by decide +kernel
theorem dX6_size_6 : decode cX6_size 6 = .ok (.getfield 111, 3) := by decide +kernel
theorem dX6_size_9 : decode cX6_size 9 = .ok (.ireturn, 1) := by decide +kernel
set_option maxRecDepth 20000 in
theorem ggX6_byteAt_X6_fail : GoodIn wsX6_byteAt wsX6_fail := goodIn_r _ [8, 1, 9, 10, 11, 12, 13, 14, 15, 16, 17, 18, 19, 20, 21, 22, 23, 24, 25, 26, 27, 28, 29, 30, 31, 32, 33, 34, 35, 36, 37] (by decide +kernel) (by decide +kernel)
set_option maxRecDepth 20000 in
theorem gX6_byteAt_X6_fail : GoodIn wsX6_byteAt (wsV RX6 78 RX6 yX6_fail wsX6_fail) := goodIn_app (goodIn_of _ (by decide +kernel)) ggX6_byteAt_X6_fail
theorem dX6_byteAt_0 : decode cX6_byteAt 0 = .ok (.aload_n 0, 1) := by decide +kernel
theorem dX6_byteAt_1 : decode cX6_byteAt 1 = .ok (.iconst 0, 1) := by decide +kernel
theorem dX6_byteAt_2 : decode cX6_byteAt 2 = .ok (.putfield 72, 3) := by decide +kernel
theorem dX6_byteAt_5 : decode cX6_byteAt 5 = .ok (.iload_n 1, 1) := by decide +kernel
theorem dX6_byteAt_6 : decode cX6_byteAt 6 = .ok (.ifCond .lt 20, 3) := by decide +kernel
theorem dX6_byteAt_9 : decode cX6_byteAt 9 = .ok (.iload_n 1, 1) := by decide +kernel
theorem dX6_byteAt_10 : decode cX6_byteAt 10 = .ok (.aload_n 0, 1) := by decide +kernel
theorem dX6_byteAt_11 : decode cX6_byteAt 11 = .ok (.getfield 111, 3) := by decide +kernel
theorem dX6_byteAt_14 : decode cX6_byteAt 14 = .ok (.if_icmp .ge 12, 3) := by decide +kernel
theorem dX6_byteAt_17 : decode cX6_byteAt 17 = .ok (.aload_n 0, 1) := by decide +kernel
theorem dX6_byteAt_18 : decode cX6_byteAt 18 = .ok (.getfield 22, 3) := by decide +kernel
theorem dX6_byteAt_21 : decode cX6_byteAt 21 = .ok (.iload_n 1, 1) := by decide +kernel
theorem dX6_byteAt_22 : decode cX6_byteAt 22 = .ok (.iaload, 1) := by decide +kernel
theorem dX6_byteAt_23 : decode cX6_byteAt 23 = .ok (.goto 8, 3) := by decide +kernel
theorem dX6_byteAt_26 : decode cX6_byteAt 26 = .ok (.aload_n 0, 1) := by decide +kernel
theorem dX6_byteAt_27 : decode cX6_byteAt 27 = .ok (.iconst 1, 1) := by decide +kernel
theorem dX6_byteAt_28 : decode cX6_byteAt 28 = .ok (.invokevirtual 78, 3) := by decide +kernel
theorem dX6_byteAt_31 : decode cX6_byteAt 31 = .ok (.ireturn, 1) := by decide +kernel
theorem dX6_succeed_0 : decode cX6_succeed 0 = .ok (.aload_n 0, 1) := by decide +kernel
theorem dX6_succeed_1 : decode cX6_succeed 1 = .ok (.iconst 0, 1) := by decide +kernel
theorem dX6_succeed_2 : decode cX6_succeed 2 = .ok (.putfield 121, 3) := by decide +kernel
theorem dX6_succeed_5 : decode cX6_succeed 5 = .ok (.iload_n 1, 1) := by decide +kernel
theorem dX6_succeed_6 : decode cX6_succeed 6 = .ok (.ireturn, 1) := by decide +kernel
theorem dX6_miss_0 : decode cX6_miss 0 = .ok (.aload_n 0, 1) := by decide +kernel
theorem dX6_miss_1 : decode cX6_miss 1 = .ok (.iload_n 1, 1) := by decide +kernel
theorem dX6_miss_2 : decode cX6_miss 2 = .ok (.putfield 121, 3) := by decide +kernel
theorem dX6_miss_5 : decode cX6_miss 5 = .ok (.iconst (-1), 1) := by decide +kernel
theorem dX6_miss_6 : decode cX6_miss 6 = .ok (.ireturn, 1) := by decide +kernel
set_option maxRecDepth 20000 in
theorem ggX6_look_X6_miss : GoodIn wsX6_look wsX6_miss := goodIn_r _ [11, 5, 69, 70, 71, 72, 73, 74, 75, 76, 77, 78, 79, 80, 81, 82, 83, 84, 85, 86, 87, 88, 89, 90, 91, 92, 93, 94, 95, 96, 97] (by decide +kernel) (by decide +kernel)
set_option maxRecDepth 20000 in
theorem gX6_look_X6_miss : GoodIn wsX6_look (wsV RX6 131 RX6 yX6_miss wsX6_miss) := goodIn_app (goodIn_of _ (by decide +kernel)) ggX6_look_X6_miss
set_option maxRecDepth 20000 in
theorem ggX6_look_X6_succeed : GoodIn wsX6_look wsX6_succeed := goodIn_r _ [15, 5, 69, 70, 71, 72, 73, 74, 75, 76, 77, 78, 79, 80, 81, 82, 83, 84, 85, 86, 87, 88, 89, 90, 91, 92, 93, 94, 95, 96, 97] (by decide +kernel) (by decide +kernel)
set_option maxRecDepth 20000 in
theorem gX6_look_X6_succeed : GoodIn wsX6_look (wsV RX6 135 RX6 yX6_succeed wsX6_succeed) := goodIn_app (goodIn_of _ (by decide +kernel)) ggX6_look_X6_succeed
set_option maxRecDepth 20000 in
theorem ggX6_look_X6_lookAt : GoodIn wsX6_look wsX6_lookAt := goodIn_r _ [19, 20, 21, 22, 23, 24, 25, 26, 27, 28, 12, 13, 14, 10, 15, 5, 7, 8, 9, 11, 69, 70, 71, 72, 73, 74, 75, 76, 77, 78, 79, 80, 81, 82, 83, 84, 85, 86, 87, 88, 89, 90, 91, 92, 93, 94, 95, 96, 97] (by decide +kernel) (by decide +kernel)
set_option maxRecDepth 20000 in
theorem gX6_look_X6_lookAt : GoodIn wsX6_look (wsV RX6 138 RX6 yX6_lookAt wsX6_lookAt) := goodIn_app (goodIn_of _ (by decide +kernel)) ggX6_look_X6_lookAt
set_option maxRecDepth 20000 in
theorem ggX6_look_X6_lookRule : GoodIn wsX6_look wsX6_lookRule := goodIn_r _ [39, 40, 41, 42, 43, 20, 21, 44, 22, 23, 24, 25, 45, 46, 47, 48, 49, 50, 51, 1, 52, 53, 54, 55, 10, 56, 57, 58, 59, 60, 61, 62, 63, 64, 65, 66, 67, 68, 32, 33, 34, 0, 2, 3, 4, 5, 6, 7, 8, 9, 11, 12, 13, 14, 15, 16, 17, 18, 19, 26, 27, 28, 29, 30, 31, 35, 36, 37, 38, 69, 70, 71, 72, 73, 74, 75, 76, 77, 78, 79, 80, 81, 82, 83, 84, 85, 86, 87, 88, 89, 90, 91, 92, 93, 94, 95, 96, 97] (by decide +kernel) (by decide +kernel)
set_option maxRecDepth 20000 in
theorem gX6_look_X6_lookRule : GoodIn wsX6_look (wsV RX6 141 RX6 yX6_lookRule wsX6_lookRule) := goodIn_app (goodIn_of _ (by decide +kernel)) ggX6_look_X6_lookRule
set_option maxRecDepth 20000 in
theorem ggX6_look_X6_look : GoodIn wsX6_look wsX6_look := goodIn_r _ [0, 1, 2, 3, 4, 5, 6, 7, 8, 9, 10, 11, 12, 13, 14, 15, 16, 17, 18, 19, 20, 21, 22, 23, 24, 25, 26, 27, 28, 29, 30, 31, 32, 33, 34, 35, 36, 37, 38, 39, 40, 41, 42, 43, 44, 45, 46, 47, 48, 49, 50, 51, 52, 53, 54, 55, 56, 57, 58, 59, 60, 61, 62, 63, 64, 65, 66, 67, 68, 69, 70, 71, 72, 73, 74, 75, 76, 77, 78, 79, 80, 81, 82, 83, 84, 85, 86, 87, 88, 89, 90, 91, 92, 93, 94, 95, 96, 97] (by decide +kernel) (by decide +kernel)
set_option maxRecDepth 20000 in
theorem gX6_look_X6_look : GoodIn wsX6_look (wsV RX6 144 RX6 yX6_look wsX6_look) := goodIn_app (goodIn_of _ (by decide +kernel)) ggX6_look_X6_look
set_option maxRecDepth 20000 in
theorem ggX6_look_X6_lookAgain : GoodIn wsX6_look wsX6_lookAgain := goodIn_r _ [38, 1, 5, 32, 33, 34, 10, 7, 8, 9, 11, 12, 13, 14, 15, 0, 2, 3, 4, 6, 16, 17, 18, 19, 20, 21, 22, 23, 24, 25, 26, 27, 28, 29, 30, 31, 35, 36, 37, 39, 40, 41, 42, 43, 44, 45, 46, 47, 48, 49, 50, 51, 52, 53, 54, 55, 56, 57, 58, 59, 60, 61, 62, 63, 64, 65, 66, 67, 68, 69, 70, 71, 72, 73, 74, 75, 76, 77, 78, 79, 80, 81, 82, 83, 84, 85, 86, 87, 88, 89, 90, 91, 92, 93, 94, 95, 96, 97] (by decide +kernel) (by decide +kernel)
set_option maxRecDepth 20000 in
theorem gX6_look_X6_lookAgain : GoodIn wsX6_look (wsV RX6 147 RX6 yX6_lookAgain wsX6_lookAgain) := goodIn_app (goodIn_of _ (by decide +kernel)) ggX6_look_X6_lookAgain
theorem dX6_look_0 : decode cX6_look 0 = .ok (.aload_n 0, 1) := by decide +kernel
theorem dX6_look_1 : decode cX6_look 1 = .ok (.getfield 125, 3) := by decide +kernel
theorem dX6_look_4 : decode cX6_look 4 = .ok (.ifCond .ne 19, 3) := by decide +kernel
theorem dX6_look_7 : decode cX6_look 7 = .ok (.aload_n 0, 1) := by decide +kernel
theorem dX6_look_8 : decode cX6_look 8 = .ok (.getfield 128, 3) := by decide +kernel
theorem dX6_look_11 : decode cX6_look 11 = .ok (.sipush 5000, 3) := by decide +kernel
theorem dX6_look_14 : decode cX6_look 14 = .ok (.if_icmp .eq 9, 3) := by decide +kernel
theorem dX6_look_17 : decode cX6_look 17 = .ok (.iload_n 3, 1) := by decide +kernel
theorem dX6_look_18 : decode cX6_look 18 = .ok (.bipush 100, 2) := by decide +kernel
theorem dX6_look_20 : decode cX6_look 20 = .ok (.if_icmp .le 14, 3) := by decide +kernel
theorem dX6_look_23 : decode cX6_look 23 = .ok (.aload_n 0, 1) := by decide +kernel
theorem dX6_look_24 : decode cX6_look 24 = .ok (.iconst 1, 1) := by decide +kernel
theorem dX6_look_25 : decode cX6_look 25 = .ok (.putfield 125, 3) := by decide +kernel
theorem dX6_look_28 : decode cX6_look 28 = .ok (.aload_n 0, 1) := by decide +kernel
theorem dX6_look_29 : decode cX6_look 29 = .ok (.iconst 0, 1) := by decide +kernel
theorem dX6_look_30 : decode cX6_look 30 = .ok (.invokevirtual 131, 3) := by decide +kernel
theorem dX6_look_33 : decode cX6_look 33 = .ok (.ireturn, 1) := by decide +kernel
theorem dX6_look_34 : decode cX6_look 34 = .ok (.aload_n 0, 1) := by decide +kernel
theorem dX6_look_35 : decode cX6_look 35 = .ok (.dup, 1) := by decide +kernel
theorem dX6_look_36 : decode cX6_look 36 = .ok (.getfield 128, 3) := by decide +kernel
theorem dX6_look_39 : decode cX6_look 39 = .ok (.iconst 1, 1) := by decide +kernel
theorem dX6_look_40 : decode cX6_look 40 = .ok (.iadd, 1) := by decide +kernel
theorem dX6_look_41 : decode cX6_look 41 = .ok (.putfield 128, 3) := by decide +kernel
theorem dX6_look_44 : decode cX6_look 44 = .ok (.aload_n 0, 1) := by decide +kernel
theorem dX6_look_45 : decode cX6_look 45 = .ok (.getfield 13, 3) := by decide +kernel
theorem dX6_look_48 : decode cX6_look 48 = .ok (.iload_n 1, 1) := by decide +kernel
theorem dX6_look_49 : decode cX6_look 49 = .ok (.iaload, 1) := by decide +kernel
theorem dX6_look_50 : decode cX6_look 50 = .ok (.istore 4, 2) := by decide +kernel
theorem dX6_look_52 : decode cX6_look 52 = .ok (.aload_n 0, 1) := by decide +kernel
theorem dX6_look_53 : decode cX6_look 53 = .ok (.getfield 9, 3) := by decide +kernel
theorem dX6_look_56 : decode cX6_look 56 = .ok (.iload_n 1, 1) := by decide +kernel
theorem dX6_look_57 : decode cX6_look 57 = .ok (.iaload, 1) := by decide +kernel
theorem dX6_look_58 : decode cX6_look 58 = .ok (.tableswitch 257 0 7 #[46, 52, 59, 73, 91, 163, 212, 221], 46) := by decide +kernel
theorem dX6_look_104 : decode cX6_look 104 = .ok (.aload_n 0, 1) := by decide +kernel
theorem dX6_look_105 : decode cX6_look 105 = .ok (.iload_n 2, 1) := by decide +kernel
theorem dX6_look_106 : decode cX6_look 106 = .ok (.invokevirtual 135, 3) := by decide +kernel
theorem dX6_look_109 : decode cX6_look 109 = .ok (.ireturn, 1) := by decide +kernel
theorem dX6_look_110 : decode cX6_look 110 = .ok (.aload_n 0, 1) := by decide +kernel
theorem dX6_look_111 : decode cX6_look 111 = .ok (.iconst 1, 1) := by decide +kernel
theorem dX6_look_112 : decode cX6_look 112 = .ok (.putfield 121, 3) := by decide +kernel
theorem dX6_look_115 : decode cX6_look 115 = .ok (.iload_n 2, 1) := by decide +kernel
theorem dX6_look_116 : decode cX6_look 116 = .ok (.ireturn, 1) := by decide +kernel
theorem dX6_look_117 : decode cX6_look 117 = .ok (.aload_n 0, 1) := by decide +kernel
theorem dX6_look_118 : decode cX6_look 118 = .ok (.iload 4, 2) := by decide +kernel
theorem dX6_look_120 : decode cX6_look 120 = .ok (.aload_n 0, 1) := by decide +kernel
theorem dX6_look_121 : decode cX6_look 121 = .ok (.getfield 16, 3) := by decide +kernel
theorem dX6_look_124 : decode cX6_look 124 = .ok (.iload_n 1, 1) := by decide +kernel
theorem dX6_look_125 : decode cX6_look 125 = .ok (.iaload, 1) := by decide +kernel
theorem dX6_look_126 : decode cX6_look 126 = .ok (.iload_n 2, 1) := by decide +kernel
theorem dX6_look_127 : decode cX6_look 127 = .ok (.invokevirtual 138, 3) := by decide +kernel
theorem dX6_look_130 : decode cX6_look 130 = .ok (.ireturn, 1) := by decide +kernel
theorem dX6_look_131 : decode cX6_look 131 = .ok (.aload_n 0, 1) := by decide +kernel
theorem dX6_look_132 : decode cX6_look 132 = .ok (.iload 4, 2) := by decide +kernel
theorem dX6_look_134 : decode cX6_look 134 = .ok (.iload_n 2, 1) := by decide +kernel
theorem dX6_look_135 : decode cX6_look 135 = .ok (.iload_n 3, 1) := by decide +kernel
theorem dX6_look_136 : decode cX6_look 136 = .ok (.invokevirtual 141, 3) := by decide +kernel
theorem dX6_look_139 : decode cX6_look 139 = .ok (.istore 5, 2) := by decide +kernel
theorem dX6_look_141 : decode cX6_look 141 = .ok (.aload_n 0, 1) := by decide +kernel
theorem dX6_look_142 : decode cX6_look 142 = .ok (.iconst 0, 1) := by decide +kernel
theorem dX6_look_143 : decode cX6_look 143 = .ok (.putfield 121, 3) := by decide +kernel
theorem dX6_look_146 : decode cX6_look 146 = .ok (.iload 5, 2) := by decide +kernel
theorem dX6_look_148 : decode cX6_look 148 = .ok (.ireturn, 1) := by decide +kernel
theorem dX6_look_149 : decode cX6_look 149 = .ok (.aload_n 0, 1) := by decide +kernel
theorem dX6_look_150 : decode cX6_look 150 = .ok (.iload 4, 2) := by decide +kernel
theorem dX6_look_152 : decode cX6_look 152 = .ok (.iload_n 2, 1) := by decide +kernel
theorem dX6_look_153 : decode cX6_look 153 = .ok (.iload_n 3, 1) := by decide +kernel
theorem dX6_look_154 : decode cX6_look 154 = .ok (.iconst 1, 1) := by decide +kernel
theorem dX6_look_155 : decode cX6_look 155 = .ok (.iadd, 1) := by decide +kernel
theorem dX6_look_156 : decode cX6_look 156 = .ok (.invokevirtual 144, 3) := by decide +kernel
theorem dX6_look_159 : decode cX6_look 159 = .ok (.istore 5, 2) := by decide +kernel
theorem dX6_look_161 : decode cX6_look 161 = .ok (.aload_n 0, 1) := by decide +kernel
theorem dX6_look_162 : decode cX6_look 162 = .ok (.getfield 121, 3) := by decide +kernel
theorem dX6_look_165 : decode cX6_look 165 = .ok (.istore 6, 2) := by decide +kernel
theorem dX6_look_167 : decode cX6_look 167 = .ok (.iload 5, 2) := by decide +kernel
theorem dX6_look_169 : decode cX6_look 169 = .ok (.iconst (-1), 1) := by decide +kernel
theorem dX6_look_170 : decode cX6_look 170 = .ok (.if_icmp .ne 10, 3) := by decide +kernel
theorem dX6_look_173 : decode cX6_look 173 = .ok (.aload_n 0, 1) := by decide +kernel
theorem dX6_look_174 : decode cX6_look 174 = .ok (.iload 6, 2) := by decide +kernel
theorem dX6_look_176 : decode cX6_look 176 = .ok (.invokevirtual 131, 3) := by decide +kernel
theorem dX6_look_179 : decode cX6_look 179 = .ok (.ireturn, 1) := by decide +kernel
theorem dX6_look_180 : decode cX6_look 180 = .ok (.aload_n 0, 1) := by decide +kernel
theorem dX6_look_181 : decode cX6_look 181 = .ok (.aload_n 0, 1) := by decide +kernel
theorem dX6_look_182 : decode cX6_look 182 = .ok (.getfield 16, 3) := by decide +kernel
theorem dX6_look_185 : decode cX6_look 185 = .ok (.iload_n 1, 1) := by decide +kernel
theorem dX6_look_186 : decode cX6_look 186 = .ok (.iaload, 1) := by decide +kernel
theorem dX6_look_187 : decode cX6_look 187 = .ok (.iload 5, 2) := by decide +kernel
theorem dX6_look_189 : decode cX6_look 189 = .ok (.iload_n 3, 1) := by decide +kernel
theorem dX6_look_190 : decode cX6_look 190 = .ok (.iconst 1, 1) := by decide +kernel
theorem dX6_look_191 : decode cX6_look 191 = .ok (.iadd, 1) := by decide +kernel
theorem dX6_look_192 : decode cX6_look 192 = .ok (.invokevirtual 144, 3) := by decide +kernel
theorem dX6_look_195 : decode cX6_look 195 = .ok (.istore 5, 2) := by decide +kernel
theorem dX6_look_197 : decode cX6_look 197 = .ok (.aload_n 0, 1) := by decide +kernel
theorem dX6_look_198 : decode cX6_look 198 = .ok (.aload_n 0, 1) := by decide +kernel
theorem dX6_look_199 : decode cX6_look 199 = .ok (.getfield 121, 3) := by decide +kernel
theorem dX6_look_202 : decode cX6_look 202 = .ok (.ifCond .ne 8, 3) := by decide +kernel
theorem dX6_look_205 : decode cX6_look 205 = .ok (.iload 6, 2) := by decide +kernel
theorem dX6_look_207 : decode cX6_look 207 = .ok (.ifCond .eq 7, 3) := by decide +kernel
theorem dX6_look_210 : decode cX6_look 210 = .ok (.iconst 1, 1) := by decide +kernel
theorem dX6_look_211 : decode cX6_look 211 = .ok (.goto 4, 3) := by decide +kernel
theorem dX6_look_214 : decode cX6_look 214 = .ok (.iconst 0, 1) := by decide +kernel
theorem dX6_look_215 : decode cX6_look 215 = .ok (.putfield 121, 3) := by decide +kernel
theorem dX6_look_218 : decode cX6_look 218 = .ok (.iload 5, 2) := by decide +kernel
theorem dX6_look_220 : decode cX6_look 220 = .ok (.ireturn, 1) := by decide +kernel
theorem dX6_look_221 : decode cX6_look 221 = .ok (.aload_n 0, 1) := by decide +kernel
theorem dX6_look_222 : decode cX6_look 222 = .ok (.iload 4, 2) := by decide +kernel
theorem dX6_look_224 : decode cX6_look 224 = .ok (.iload_n 2, 1) := by decide +kernel
theorem dX6_look_225 : decode cX6_look 225 = .ok (.iload_n 3, 1) := by decide +kernel
theorem dX6_look_226 : decode cX6_look 226 = .ok (.iconst 1, 1) := by decide +kernel
theorem dX6_look_227 : decode cX6_look 227 = .ok (.iadd, 1) := by decide +kernel
theorem dX6_look_228 : decode cX6_look 228 = .ok (.invokevirtual 144, 3) := by decide +kernel
theorem dX6_look_231 : decode cX6_look 231 = .ok (.istore 5, 2) := by decide +kernel
theorem dX6_look_233 : decode cX6_look 233 = .ok (.iload 5, 2) := by decide +kernel
theorem dX6_look_235 : decode cX6_look 235 = .ok (.iconst (-1), 1) := by decide +kernel
theorem dX6_look_236 : decode cX6_look 236 = .ok (.if_icmp .ne 26, 3) := by decide +kernel
theorem dX6_look_239 : decode cX6_look 239 = .ok (.aload_n 0, 1) := by decide +kernel
theorem dX6_look_240 : decode cX6_look 240 = .ok (.getfield 121, 3) := by decide +kernel
theorem dX6_look_243 : decode cX6_look 243 = .ok (.ifCond .ne 19, 3) := by decide +kernel
theorem dX6_look_246 : decode cX6_look 246 = .ok (.aload_n 0, 1) := by decide +kernel
theorem dX6_look_247 : decode cX6_look 247 = .ok (.aload_n 0, 1) := by decide +kernel
theorem dX6_look_248 : decode cX6_look 248 = .ok (.getfield 16, 3) := by decide +kernel
theorem dX6_look_251 : decode cX6_look 251 = .ok (.iload_n 1, 1) := by decide +kernel
theorem dX6_look_252 : decode cX6_look 252 = .ok (.iaload, 1) := by decide +kernel
theorem dX6_look_253 : decode cX6_look 253 = .ok (.iload_n 2, 1) := by decide +kernel
theorem dX6_look_254 : decode cX6_look 254 = .ok (.iload_n 3, 1) := by decide +kernel
theorem dX6_look_255 : decode cX6_look 255 = .ok (.iconst 1, 1) := by decide +kernel
theorem dX6_look_256 : decode cX6_look 256 = .ok (.iadd, 1) := by decide +kernel
theorem dX6_look_257 : decode cX6_look 257 = .ok (.invokevirtual 144, 3) := by decide +kernel
theorem dX6_look_260 : decode cX6_look 260 = .ok (.istore 5, 2) := by decide +kernel
theorem dX6_look_262 : decode cX6_look 262 = .ok (.aload_n 0, 1) := by decide +kernel
theorem dX6_look_263 : decode cX6_look 263 = .ok (.iconst 0, 1) := by decide +kernel
theorem dX6_look_264 : decode cX6_look 264 = .ok (.putfield 121, 3) := by decide +kernel
theorem dX6_look_267 : decode cX6_look 267 = .ok (.iload 5, 2) := by decide +kernel
theorem dX6_look_269 : decode cX6_look 269 = .ok (.ireturn, 1) := by decide +kernel
theorem dX6_look_270 : decode cX6_look 270 = .ok (.aload_n 0, 1) := by decide +kernel
theorem dX6_look_271 : decode cX6_look 271 = .ok (.iload 4, 2) := by decide +kernel
theorem dX6_look_273 : decode cX6_look 273 = .ok (.iload_n 2, 1) := by decide +kernel
theorem dX6_look_274 : decode cX6_look 274 = .ok (.iload_n 3, 1) := by decide +kernel
theorem dX6_look_275 : decode cX6_look 275 = .ok (.invokevirtual 147, 3) := by decide +kernel
theorem dX6_look_278 : decode cX6_look 278 = .ok (.ireturn, 1) := by decide +kernel
theorem dX6_look_279 : decode cX6_look 279 = .ok (.aload_n 0, 1) := by decide +kernel
theorem dX6_look_280 : decode cX6_look 280 = .ok (.iload 4, 2) := by decide +kernel
theorem dX6_look_282 : decode cX6_look 282 = .ok (.iload_n 2, 1) := by decide +kernel
theorem dX6_look_283 : decode cX6_look 283 = .ok (.iload_n 3, 1) := by decide +kernel
theorem dX6_look_284 : decode cX6_look 284 = .ok (.iconst 1, 1) := by decide +kernel
theorem dX6_look_285 : decode cX6_look 285 = .ok (.iadd, 1) := by decide +kernel
theorem dX6_look_286 : decode cX6_look 286 = .ok (.invokevirtual 144, 3) := by decide +kernel
theorem dX6_look_289 : decode cX6_look 289 = .ok (.istore 5, 2) := by decide +kernel
theorem dX6_look_291 : decode cX6_look 291 = .ok (.iload 5, 2) := by decide +kernel
theorem dX6_look_293 : decode cX6_look 293 = .ok (.iconst (-1), 1) := by decide +kernel
theorem dX6_look_294 : decode cX6_look 294 = .ok (.if_icmp .ne 13, 3) := by decide +kernel
theorem dX6_look_297 : decode cX6_look 297 = .ok (.aload_n 0, 1) := by decide +kernel
theorem dX6_look_298 : decode cX6_look 298 = .ok (.getfield 121, 3) := by decide +kernel
theorem dX6_look_301 : decode cX6_look 301 = .ok (.ifCond .ne 6, 3) := by decide +kernel
theorem dX6_look_304 : decode cX6_look 304 = .ok (.iload_n 2, 1) := by decide +kernel
theorem dX6_look_305 : decode cX6_look 305 = .ok (.istore 5, 2) := by decide +kernel
theorem dX6_look_307 : decode cX6_look 307 = .ok (.aload_n 0, 1) := by decide +kernel
theorem dX6_look_308 : decode cX6_look 308 = .ok (.iconst 0, 1) := by decide +kernel
theorem dX6_look_309 : decode cX6_look 309 = .ok (.putfield 121, 3) := by decide +kernel
theorem dX6_look_312 : decode cX6_look 312 = .ok (.iload 5, 2) := by decide +kernel
theorem dX6_look_314 : decode cX6_look 314 = .ok (.ireturn, 1) := by decide +kernel
theorem dX6_look_315 : decode cX6_look 315 = .ok (.aload_n 0, 1) := by decide +kernel
theorem dX6_look_316 : decode cX6_look 316 = .ok (.iload 4, 2) := by decide +kernel
theorem dX6_look_318 : decode cX6_look 318 = .ok (.iload_n 2, 1) := by decide +kernel
theorem dX6_look_319 : decode cX6_look 319 = .ok (.iload_n 3, 1) := by decide +kernel
theorem dX6_look_320 : decode cX6_look 320 = .ok (.iconst 1, 1) := by decide +kernel
theorem dX6_look_321 : decode cX6_look 321 = .ok (.iadd, 1) := by decide +kernel
theorem dX6_look_322 : decode cX6_look 322 = .ok (.invokevirtual 144, 3) := by decide +kernel
theorem dX6_look_325 : decode cX6_look 325 = .ok (.istore 5, 2) := by decide +kernel
theorem dX6_look_327 : decode cX6_look 327 = .ok (.iload 5, 2) := by decide +kernel
theorem dX6_look_329 : decode cX6_look 329 = .ok (.iconst (-1), 1) := by decide +kernel
theorem dX6_look_330 : decode cX6_look 330 = .ok (.if_icmp .eq 7, 3) := by decide +kernel
theorem dX6_look_333 : decode cX6_look 333 = .ok (.iconst 1, 1) := by decide +kernel
theorem dX6_look_334 : decode cX6_look 334 = .ok (.goto 4, 3) := by decide +kernel
theorem dX6_look_337 : decode cX6_look 337 = .ok (.iconst 0, 1) := by decide +kernel
theorem dX6_look_338 : decode cX6_look 338 = .ok (.aload_n 0, 1) := by decide +kernel
theorem dX6_look_339 : decode cX6_look 339 = .ok (.getfield 9, 3) := by decide +kernel
theorem dX6_look_342 : decode cX6_look 342 = .ok (.iload_n 1, 1) := by decide +kernel
theorem dX6_look_343 : decode cX6_look 343 = .ok (.iaload, 1) := by decide +kernel
theorem dX6_look_344 : decode cX6_look 344 = .ok (.bipush 8, 2) := by decide +kernel
theorem dX6_look_346 : decode cX6_look 346 = .ok (.if_icmp .ne 7, 3) := by decide +kernel
theorem dX6_look_349 : decode cX6_look 349 = .ok (.iconst 1, 1) := by decide +kernel
theorem dX6_look_350 : decode cX6_look 350 = .ok (.goto 4, 3) := by decide +kernel
theorem dX6_look_353 : decode cX6_look 353 = .ok (.iconst 0, 1) := by decide +kernel
theorem dX6_look_354 : decode cX6_look 354 = .ok (.if_icmp .ne 11, 3) := by decide +kernel
theorem dX6_look_357 : decode cX6_look 357 = .ok (.aload_n 0, 1) := by decide +kernel
theorem dX6_look_358 : decode cX6_look 358 = .ok (.iload_n 2, 1) := by decide +kernel
theorem dX6_look_359 : decode cX6_look 359 = .ok (.invokevirtual 135, 3) := by decide +kernel
theorem dX6_look_362 : decode cX6_look 362 = .ok (.goto 8, 3) := by decide +kernel
theorem dX6_look_365 : decode cX6_look 365 = .ok (.aload_n 0, 1) := by decide +kernel
theorem dX6_look_366 : decode cX6_look 366 = .ok (.iconst 0, 1) := by decide +kernel
theorem dX6_look_367 : decode cX6_look 367 = .ok (.invokevirtual 131, 3) := by decide +kernel
theorem dX6_look_370 : decode cX6_look 370 = .ok (.ireturn, 1) := by decide +kernel
set_option maxRecDepth 20000 in
theorem ggX6_lookAt_X6_succeed : GoodIn wsX6_lookAt wsX6_succeed := goodIn_r _ [14, 15, 20, 21, 22, 23, 24, 25, 26, 27, 28, 29, 30, 31, 32, 33, 34, 35, 36, 37, 38, 39, 40, 41, 42, 43, 44, 45, 46, 47, 48] (by decide +kernel) (by decide +kernel)
set_option maxRecDepth 20000 in
theorem gX6_lookAt_X6_succeed : GoodIn wsX6_lookAt (wsV RX6 135 RX6 yX6_succeed wsX6_succeed) := goodIn_app (goodIn_of _ (by decide +kernel)) ggX6_lookAt_X6_succeed
set_option maxRecDepth 20000 in
theorem ggX6_lookAt_X6_miss : GoodIn wsX6_lookAt wsX6_miss := goodIn_r _ [19, 15, 20, 21, 22, 23, 24, 25, 26, 27, 28, 29, 30, 31, 32, 33, 34, 35, 36, 37, 38, 39, 40, 41, 42, 43, 44, 45, 46, 47, 48] (by decide +kernel) (by decide +kernel)
set_option maxRecDepth 20000 in
theorem gX6_lookAt_X6_miss : GoodIn wsX6_lookAt (wsV RX6 131 RX6 yX6_miss wsX6_miss) := goodIn_app (goodIn_of _ (by decide +kernel)) ggX6_lookAt_X6_miss
theorem dX6_lookAt_0 : decode cX6_lookAt 0 = .ok (.iconst 0, 1) := by decide +kernel
theorem dX6_lookAt_1 : decode cX6_lookAt 1 = .ok (.istore 4, 2) := by decide +kernel
theorem dX6_lookAt_3 : decode cX6_lookAt 3 = .ok (.iload 4, 2) := by decide +kernel
theorem dX6_lookAt_5 : decode cX6_lookAt 5 = .ok (.aload_n 0, 1) := by decide +kernel
theorem dX6_lookAt_6 : decode cX6_lookAt 6 = .ok (.getfield 150, 3) := by decide +kernel
theorem dX6_lookAt_9 : decode cX6_lookAt 9 = .ok (.if_icmp .ge 29, 3) := by decide +kernel
theorem dX6_lookAt_12 : decode cX6_lookAt 12 = .ok (.aload_n 0, 1) := by decide +kernel
theorem dX6_lookAt_13 : decode cX6_lookAt 13 = .ok (.getfield 53, 3) := by decide +kernel
theorem dX6_lookAt_16 : decode cX6_lookAt 16 = .ok (.iload 4, 2) := by decide +kernel
theorem dX6_lookAt_18 : decode cX6_lookAt 18 = .ok (.aload_n 0, 1) := by decide +kernel
theorem dX6_lookAt_19 : decode cX6_lookAt 19 = .ok (.getfield 53, 3) := by decide +kernel
theorem dX6_lookAt_22 : decode cX6_lookAt 22 = .ok (.iload 4, 2) := by decide +kernel
theorem dX6_lookAt_24 : decode cX6_lookAt 24 = .ok (.iaload, 1) := by decide +kernel
theorem dX6_lookAt_25 : decode cX6_lookAt 25 = .ok (.iload_n 3, 1) := by decide +kernel
theorem dX6_lookAt_26 : decode cX6_lookAt 26 = .ok (.iconst 1, 1) := by decide +kernel
theorem dX6_lookAt_27 : decode cX6_lookAt 27 = .ok (.iadd, 1) := by decide +kernel
theorem dX6_lookAt_28 : decode cX6_lookAt 28 = .ok (.invokestatic 153, 3) := by decide +kernel
theorem dX6_lookAt_31 : decode cX6_lookAt 31 = .ok (.iastore, 1) := by decide +kernel
theorem dX6_lookAt_32 : decode cX6_lookAt 32 = .ok (.iinc 4 1, 3) := by decide +kernel
theorem dX6_lookAt_35 : decode cX6_lookAt 35 = .ok (.goto (-32), 3) := by decide +kernel
theorem dX6_lookAt_38 : decode cX6_lookAt 38 = .ok (.iload_n 3, 1) := by decide +kernel
theorem dX6_lookAt_39 : decode cX6_lookAt 39 = .ok (.aload_n 0, 1) := by decide +kernel
theorem dX6_lookAt_40 : decode cX6_lookAt 40 = .ok (.getfield 111, 3) := by decide +kernel
theorem dX6_lookAt_43 : decode cX6_lookAt 43 = .ok (.if_icmp .ge 31, 3) := by decide +kernel
theorem dX6_lookAt_46 : decode cX6_lookAt 46 = .ok (.aload_n 0, 1) := by decide +kernel
theorem dX6_lookAt_47 : decode cX6_lookAt 47 = .ok (.getfield 22, 3) := by decide +kernel
theorem dX6_lookAt_50 : decode cX6_lookAt 50 = .ok (.iload_n 3, 1) := by decide +kernel
theorem dX6_lookAt_51 : decode cX6_lookAt 51 = .ok (.iaload, 1) := by decide +kernel
theorem dX6_lookAt_52 : decode cX6_lookAt 52 = .ok (.iload_n 1, 1) := by decide +kernel
theorem dX6_lookAt_53 : decode cX6_lookAt 53 = .ok (.if_icmp .lt 21, 3) := by decide +kernel
theorem dX6_lookAt_56 : decode cX6_lookAt 56 = .ok (.aload_n 0, 1) := by decide +kernel
theorem dX6_lookAt_57 : decode cX6_lookAt 57 = .ok (.getfield 22, 3) := by decide +kernel
theorem dX6_lookAt_60 : decode cX6_lookAt 60 = .ok (.iload_n 3, 1) := by decide +kernel
theorem dX6_lookAt_61 : decode cX6_lookAt 61 = .ok (.iaload, 1) := by decide +kernel
theorem dX6_lookAt_62 : decode cX6_lookAt 62 = .ok (.iload_n 2, 1) := by decide +kernel
theorem dX6_lookAt_63 : decode cX6_lookAt 63 = .ok (.if_icmp .gt 11, 3) := by decide +kernel
theorem dX6_lookAt_66 : decode cX6_lookAt 66 = .ok (.aload_n 0, 1) := by decide +kernel
theorem dX6_lookAt_67 : decode cX6_lookAt 67 = .ok (.iload_n 3, 1) := by decide +kernel
theorem dX6_lookAt_68 : decode cX6_lookAt 68 = .ok (.iconst 1, 1) := by decide +kernel
theorem dX6_lookAt_69 : decode cX6_lookAt 69 = .ok (.iadd, 1) := by decide +kernel
theorem dX6_lookAt_70 : decode cX6_lookAt 70 = .ok (.invokevirtual 135, 3) := by decide +kernel
theorem dX6_lookAt_73 : decode cX6_lookAt 73 = .ok (.ireturn, 1) := by decide +kernel
theorem dX6_lookAt_74 : decode cX6_lookAt 74 = .ok (.aload_n 0, 1) := by decide +kernel
theorem dX6_lookAt_75 : decode cX6_lookAt 75 = .ok (.aload_n 0, 1) := by decide +kernel
theorem dX6_lookAt_76 : decode cX6_lookAt 76 = .ok (.getfield 59, 3) := by decide +kernel
theorem dX6_lookAt_79 : decode cX6_lookAt 79 = .ok (.iload_n 3, 1) := by decide +kernel
theorem dX6_lookAt_80 : decode cX6_lookAt 80 = .ok (.invokestatic 153, 3) := by decide +kernel
theorem dX6_lookAt_83 : decode cX6_lookAt 83 = .ok (.putfield 59, 3) := by decide +kernel
theorem dX6_lookAt_86 : decode cX6_lookAt 86 = .ok (.aload_n 0, 1) := by decide +kernel
theorem dX6_lookAt_87 : decode cX6_lookAt 87 = .ok (.iconst 0, 1) := by decide +kernel
theorem dX6_lookAt_88 : decode cX6_lookAt 88 = .ok (.invokevirtual 131, 3) := by decide +kernel
theorem dX6_lookAt_91 : decode cX6_lookAt 91 = .ok (.ireturn, 1) := by decide +kernel
set_option maxRecDepth 20000 in
theorem ggX6_lookAgain_X6_look : GoodIn wsX6_lookAgain wsX6_look := goodIn_r _ [15, 1, 16, 17, 18, 2, 19, 7, 8, 9, 6, 10, 11, 12, 13, 14, 20, 21, 22, 23, 24, 25, 26, 27, 28, 29, 30, 31, 32, 33, 34, 35, 3, 4, 5, 36, 37, 38, 0, 39, 40, 41, 42, 43, 44, 45, 46, 47, 48, 49, 50, 51, 52, 53, 54, 55, 56, 57, 58, 59, 60, 61, 62, 63, 64, 65, 66, 67, 68, 69, 70, 71, 72, 73, 74, 75, 76, 77, 78, 79, 80, 81, 82, 83, 84, 85, 86, 87, 88, 89, 90, 91, 92, 93, 94, 95, 96, 97] (by decide +kernel) (by decide +kernel)
set_option maxRecDepth 20000 in
theorem gX6_lookAgain_X6_look : GoodIn wsX6_lookAgain (wsV RX6 144 RX6 yX6_look wsX6_look) := goodIn_app (goodIn_of _ (by decide +kernel)) ggX6_lookAgain_X6_look
set_option maxRecDepth 20000 in
theorem ggX6_lookAgain_X6_miss : GoodIn wsX6_lookAgain wsX6_miss := goodIn_r _ [10, 2, 69, 70, 71, 72, 73, 74, 75, 76, 77, 78, 79, 80, 81, 82, 83, 84, 85, 86, 87, 88, 89, 90, 91, 92, 93, 94, 95, 96, 97] (by decide +kernel) (by decide +kernel)
set_option maxRecDepth 20000 in
theorem gX6_lookAgain_X6_miss : GoodIn wsX6_lookAgain (wsV RX6 131 RX6 yX6_miss wsX6_miss) := goodIn_app (goodIn_of _ (by decide +kernel)) ggX6_lookAgain_X6_miss
set_option maxRecDepth 20000 in
theorem ggX6_lookAgain_X6_succeed : GoodIn wsX6_lookAgain wsX6_succeed := goodIn_r _ [14, 2, 69, 70, 71, 72, 73, 74, 75, 76, 77, 78, 79, 80, 81, 82, 83, 84, 85, 86, 87, 88, 89, 90, 91, 92, 93, 94, 95, 96, 97] (by decide +kernel) (by decide +kernel)
set_option maxRecDepth 20000 in
theorem gX6_lookAgain_X6_succeed : GoodIn wsX6_lookAgain (wsV RX6 135 RX6 yX6_succeed wsX6_succeed) := goodIn_app (goodIn_of _ (by decide +kernel)) ggX6_lookAgain_X6_succeed
theorem dX6_lookAgain_0 : decode cX6_lookAgain 0 = .ok (.iload_n 2, 1) := by decide +kernel
theorem dX6_lookAgain_1 : decode cX6_lookAgain 1 = .ok (.istore 4, 2) := by decide +kernel
theorem dX6_lookAgain_3 : decode cX6_lookAgain 3 = .ok (.aload_n 0, 1) := by decide +kernel
theorem dX6_lookAgain_4 : decode cX6_lookAgain 4 = .ok (.getfield 125, 3) := by decide +kernel
theorem dX6_lookAgain_7 : decode cX6_lookAgain 7 = .ok (.ifCond .ne 61, 3) := by decide +kernel
theorem dX6_lookAgain_10 : decode cX6_lookAgain 10 = .ok (.aload_n 0, 1) := by decide +kernel
theorem dX6_lookAgain_11 : decode cX6_lookAgain 11 = .ok (.iload_n 1, 1) := by decide +kernel
theorem dX6_lookAgain_12 : decode cX6_lookAgain 12 = .ok (.iload 4, 2) := by decide +kernel
theorem dX6_lookAgain_14 : decode cX6_lookAgain 14 = .ok (.iload_n 3, 1) := by decide +kernel
theorem dX6_lookAgain_15 : decode cX6_lookAgain 15 = .ok (.iconst 1, 1) := by decide +kernel
theorem dX6_lookAgain_16 : decode cX6_lookAgain 16 = .ok (.iadd, 1) := by decide +kernel
theorem dX6_lookAgain_17 : decode cX6_lookAgain 17 = .ok (.invokevirtual 144, 3) := by decide +kernel
theorem dX6_lookAgain_20 : decode cX6_lookAgain 20 = .ok (.istore 5, 2) := by decide +kernel
theorem dX6_lookAgain_22 : decode cX6_lookAgain 22 = .ok (.iload 5, 2) := by decide +kernel
theorem dX6_lookAgain_24 : decode cX6_lookAgain 24 = .ok (.iconst (-1), 1) := by decide +kernel
theorem dX6_lookAgain_25 : decode cX6_lookAgain 25 = .ok (.if_icmp .ne 16, 3) := by decide +kernel
theorem dX6_lookAgain_28 : decode cX6_lookAgain 28 = .ok (.aload_n 0, 1) := by decide +kernel
theorem dX6_lookAgain_29 : decode cX6_lookAgain 29 = .ok (.getfield 121, 3) := by decide +kernel
theorem dX6_lookAgain_32 : decode cX6_lookAgain 32 = .ok (.ifCond .eq 9, 3) := by decide +kernel
theorem dX6_lookAgain_35 : decode cX6_lookAgain 35 = .ok (.aload_n 0, 1) := by decide +kernel
theorem dX6_lookAgain_36 : decode cX6_lookAgain 36 = .ok (.iconst 0, 1) := by decide +kernel
theorem dX6_lookAgain_37 : decode cX6_lookAgain 37 = .ok (.invokevirtual 131, 3) := by decide +kernel
theorem dX6_lookAgain_40 : decode cX6_lookAgain 40 = .ok (.ireturn, 1) := by decide +kernel
theorem dX6_lookAgain_41 : decode cX6_lookAgain 41 = .ok (.iload 5, 2) := by decide +kernel
theorem dX6_lookAgain_43 : decode cX6_lookAgain 43 = .ok (.iconst (-1), 1) := by decide +kernel
theorem dX6_lookAgain_44 : decode cX6_lookAgain 44 = .ok (.if_icmp .eq 10, 3) := by decide +kernel
theorem dX6_lookAgain_47 : decode cX6_lookAgain 47 = .ok (.iload 5, 2) := by decide +kernel
theorem dX6_lookAgain_49 : decode cX6_lookAgain 49 = .ok (.iload 4, 2) := by decide +kernel
theorem dX6_lookAgain_51 : decode cX6_lookAgain 51 = .ok (.if_icmp .ne 10, 3) := by decide +kernel
theorem dX6_lookAgain_54 : decode cX6_lookAgain 54 = .ok (.aload_n 0, 1) := by decide +kernel
theorem dX6_lookAgain_55 : decode cX6_lookAgain 55 = .ok (.iload 4, 2) := by decide +kernel
theorem dX6_lookAgain_57 : decode cX6_lookAgain 57 = .ok (.invokevirtual 135, 3) := by decide +kernel
theorem dX6_lookAgain_60 : decode cX6_lookAgain 60 = .ok (.ireturn, 1) := by decide +kernel
theorem dX6_lookAgain_61 : decode cX6_lookAgain 61 = .ok (.iload 5, 2) := by decide +kernel
theorem dX6_lookAgain_63 : decode cX6_lookAgain 63 = .ok (.istore 4, 2) := by decide +kernel
theorem dX6_lookAgain_65 : decode cX6_lookAgain 65 = .ok (.goto (-62), 3) := by decide +kernel
theorem dX6_lookAgain_68 : decode cX6_lookAgain 68 = .ok (.aload_n 0, 1) := by decide +kernel
theorem dX6_lookAgain_69 : decode cX6_lookAgain 69 = .ok (.iconst 0, 1) := by decide +kernel
theorem dX6_lookAgain_70 : decode cX6_lookAgain 70 = .ok (.invokevirtual 131, 3) := by decide +kernel
theorem dX6_lookAgain_73 : decode cX6_lookAgain 73 = .ok (.ireturn, 1) := by decide +kernel
theorem dX6_isInProgress_0 : decode cX6_isInProgress 0 = .ok (.iconst 0, 1) := by decide +kernel
theorem dX6_isInProgress_1 : decode cX6_isInProgress 1 = .ok (.istore_n 3, 1) := by decide +kernel
theorem dX6_isInProgress_2 : decode cX6_isInProgress 2 = .ok (.iconst 0, 1) := by decide +kernel
theorem dX6_isInProgress_3 : decode cX6_isInProgress 3 = .ok (.istore 4, 2) := by decide +kernel
theorem dX6_isInProgress_5 : decode cX6_isInProgress 5 = .ok (.iload 4, 2) := by decide +kernel
theorem dX6_isInProgress_7 : decode cX6_isInProgress 7 = .ok (.aload_n 0, 1) := by decide +kernel
theorem dX6_isInProgress_8 : decode cX6_isInProgress 8 = .ok (.getfield 150, 3) := by decide +kernel
theorem dX6_isInProgress_11 : decode cX6_isInProgress 11 = .ok (.if_icmp .ge 41, 3) := by decide +kernel
theorem dX6_isInProgress_14 : decode cX6_isInProgress 14 = .ok (.iload_n 3, 1) := by decide +kernel
theorem dX6_isInProgress_15 : decode cX6_isInProgress 15 = .ok (.ifCond .ne 25, 3) := by decide +kernel
theorem dX6_isInProgress_18 : decode cX6_isInProgress 18 = .ok (.aload_n 0, 1) := by decide +kernel
theorem dX6_isInProgress_19 : decode cX6_isInProgress 19 = .ok (.getfield 38, 3) := by decide +kernel
theorem dX6_isInProgress_22 : decode cX6_isInProgress 22 = .ok (.iload 4, 2) := by decide +kernel
theorem dX6_isInProgress_24 : decode cX6_isInProgress 24 = .ok (.iaload, 1) := by decide +kernel
theorem dX6_isInProgress_25 : decode cX6_isInProgress 25 = .ok (.iload_n 1, 1) := by decide +kernel
theorem dX6_isInProgress_26 : decode cX6_isInProgress 26 = .ok (.if_icmp .ne 18, 3) := by decide +kernel
theorem dX6_isInProgress_29 : decode cX6_isInProgress 29 = .ok (.aload_n 0, 1) := by decide +kernel
theorem dX6_isInProgress_30 : decode cX6_isInProgress 30 = .ok (.getfield 41, 3) := by decide +kernel
theorem dX6_isInProgress_33 : decode cX6_isInProgress 33 = .ok (.iload 4, 2) := by decide +kernel
theorem dX6_isInProgress_35 : decode cX6_isInProgress 35 = .ok (.iaload, 1) := by decide +kernel
theorem dX6_isInProgress_36 : decode cX6_isInProgress 36 = .ok (.iload_n 2, 1) := by decide +kernel
theorem dX6_isInProgress_37 : decode cX6_isInProgress 37 = .ok (.if_icmp .ne 7, 3) := by decide +kernel
theorem dX6_isInProgress_40 : decode cX6_isInProgress 40 = .ok (.iconst 1, 1) := by decide +kernel
theorem dX6_isInProgress_41 : decode cX6_isInProgress 41 = .ok (.goto 4, 3) := by decide +kernel
theorem dX6_isInProgress_44 : decode cX6_isInProgress 44 = .ok (.iconst 0, 1) := by decide +kernel
theorem dX6_isInProgress_45 : decode cX6_isInProgress 45 = .ok (.istore_n 3, 1) := by decide +kernel
theorem dX6_isInProgress_46 : decode cX6_isInProgress 46 = .ok (.iinc 4 1, 3) := by decide +kernel
theorem dX6_isInProgress_49 : decode cX6_isInProgress 49 = .ok (.goto (-44), 3) := by decide +kernel
theorem dX6_isInProgress_52 : decode cX6_isInProgress 52 = .ok (.iload_n 3, 1) := by decide +kernel
theorem dX6_isInProgress_53 : decode cX6_isInProgress 53 = .ok (.ireturn, 1) := by decide +kernel
end
section
set_option maxRecDepth 20000 in
theorem ggX6_isShut_X6_isInProgress : GoodIn wsX6_isShut wsX6_isInProgress := goodIn_r _ [6, 7, 8, 9, 10, 11, 12, 13, 14, 15, 16, 17, 18, 19, 20, 21, 22, 23, 24, 25, 26, 27, 28, 29, 30, 31, 32, 33, 34, 35, 36, 37, 38] (by decide +kernel) (by decide +kernel)
set_option maxRecDepth 20000 in
theorem gX6_isShut_X6_isInProgress : GoodIn wsX6_isShut (wsV RX6 159 RX6 yX6_isInProgress wsX6_isInProgress) := goodIn_app (goodIn_of _ (by decide +kernel)) ggX6_isShut_X6_isInProgress
theorem dX6_isShut_0 : decode cX6_isShut 0 = .ok (.iconst 0, 1) := by decide +kernel
theorem dX6_isShut_1 : decode cX6_isShut 1 = .ok (.istore_n 3, 1) := by decide +kernel
theorem dX6_isShut_2 : decode cX6_isShut 2 = .ok (.iconst 0, 1) := by decide +kernel
theorem dX6_isShut_3 : decode cX6_isShut 3 = .ok (.istore 4, 2) := by decide +kernel
theorem dX6_isShut_5 : decode cX6_isShut 5 = .ok (.iload 4, 2) := by decide +kernel
theorem dX6_isShut_7 : decode cX6_isShut 7 = .ok (.bipush 10, 2) := by decide +kernel
theorem dX6_isShut_9 : decode cX6_isShut 9 = .ok (.if_icmp .ge 44, 3) := by decide +kernel
theorem dX6_isShut_12 : decode cX6_isShut 12 = .ok (.iload_n 3, 1) := by decide +kernel
theorem dX6_isShut_13 : decode cX6_isShut 13 = .ok (.ifCond .ne 28, 3) := by decide +kernel
theorem dX6_isShut_16 : decode cX6_isShut 16 = .ok (.aload_n 0, 1) := by decide +kernel
theorem dX6_isShut_17 : decode cX6_isShut 17 = .ok (.getfield 35, 3) := by decide +kernel
theorem dX6_isShut_20 : decode cX6_isShut 20 = .ok (.iload_n 1, 1) := by decide +kernel
theorem dX6_isShut_21 : decode cX6_isShut 21 = .ok (.iaload, 1) := by decide +kernel
theorem dX6_isShut_22 : decode cX6_isShut 22 = .ok (.iload 4, 2) := by decide +kernel
theorem dX6_isShut_24 : decode cX6_isShut 24 = .ok (.ishr, 1) := by decide +kernel
theorem dX6_isShut_25 : decode cX6_isShut 25 = .ok (.iconst 1, 1) := by decide +kernel
theorem dX6_isShut_26 : decode cX6_isShut 26 = .ok (.iand, 1) := by decide +kernel
theorem dX6_isShut_27 : decode cX6_isShut 27 = .ok (.iconst 1, 1) := by decide +kernel
theorem dX6_isShut_28 : decode cX6_isShut 28 = .ok (.if_icmp .ne 17, 3) := by decide +kernel
theorem dX6_isShut_31 : decode cX6_isShut 31 = .ok (.aload_n 0, 1) := by decide +kernel
theorem dX6_isShut_32 : decode cX6_isShut 32 = .ok (.iload 4, 2) := by decide +kernel
theorem dX6_isShut_34 : decode cX6_isShut 34 = .ok (.iload_n 2, 1) := by decide +kernel
theorem dX6_isShut_35 : decode cX6_isShut 35 = .ok (.invokevirtual 159, 3) := by decide +kernel
theorem dX6_isShut_38 : decode cX6_isShut 38 = .ok (.ifCond .eq 7, 3) := by decide +kernel
theorem dX6_isShut_41 : decode cX6_isShut 41 = .ok (.iconst 1, 1) := by decide +kernel
theorem dX6_isShut_42 : decode cX6_isShut 42 = .ok (.goto 4, 3) := by decide +kernel
theorem dX6_isShut_45 : decode cX6_isShut 45 = .ok (.iconst 0, 1) := by decide +kernel
theorem dX6_isShut_46 : decode cX6_isShut 46 = .ok (.istore_n 3, 1) := by decide +kernel
theorem dX6_isShut_47 : decode cX6_isShut 47 = .ok (.iinc 4 1, 3) := by decide +kernel
theorem dX6_isShut_50 : decode cX6_isShut 50 = .ok (.goto (-45), 3) := by decide +kernel
theorem dX6_isShut_53 : decode cX6_isShut 53 = .ok (.iload_n 3, 1) := by decide +kernel
theorem dX6_isShut_54 : decode cX6_isShut 54 = .ok (.ireturn, 1) := by decide +kernel
theorem dX6_name_0 : decode cX6_name 0 = .ok (.iconst 0, 1) := by decide +kernel
theorem dX6_name_1 : decode cX6_name 1 = .ok (.istore_n 3, 1) := by decide +kernel
theorem dX6_name_2 : decode cX6_name 2 = .ok (.iload_n 3, 1) := by decide +kernel
theorem dX6_name_3 : decode cX6_name 3 = .ok (.aload_n 0, 1) := by decide +kernel
theorem dX6_name_4 : decode cX6_name 4 = .ok (.getfield 150, 3) := by decide +kernel
theorem dX6_name_7 : decode cX6_name 7 = .ok (.if_icmp .ge 29, 3) := by decide +kernel
theorem dX6_name_10 : decode cX6_name 10 = .ok (.aload_n 0, 1) := by decide +kernel
theorem dX6_name_11 : decode cX6_name 11 = .ok (.getfield 41, 3) := by decide +kernel
theorem dX6_name_14 : decode cX6_name 14 = .ok (.iload_n 3, 1) := by decide +kernel
theorem dX6_name_15 : decode cX6_name 15 = .ok (.iaload, 1) := by decide +kernel
theorem dX6_name_16 : decode cX6_name 16 = .ok (.iload_n 2, 1) := by decide +kernel
theorem dX6_name_17 : decode cX6_name 17 = .ok (.if_icmp .ne 13, 3) := by decide +kernel
theorem dX6_name_20 : decode cX6_name 20 = .ok (.aload_n 0, 1) := by decide +kernel
theorem dX6_name_21 : decode cX6_name 21 = .ok (.getfield 56, 3) := by decide +kernel
theorem dX6_name_24 : decode cX6_name 24 = .ok (.iload_n 3, 1) := by decide +kernel
theorem dX6_name_25 : decode cX6_name 25 = .ok (.dup2, 1) := by decide +kernel
theorem dX6_name_26 : decode cX6_name 26 = .ok (.iaload, 1) := by decide +kernel
theorem dX6_name_27 : decode cX6_name 27 = .ok (.iload_n 1, 1) := by decide +kernel
theorem dX6_name_28 : decode cX6_name 28 = .ok (.ior, 1) := by decide +kernel
theorem dX6_name_29 : decode cX6_name 29 = .ok (.iastore, 1) := by decide +kernel
theorem dX6_name_30 : decode cX6_name 30 = .ok (.iinc 3 1, 3) := by decide +kernel
theorem dX6_name_33 : decode cX6_name 33 = .ok (.goto (-31), 3) := by decide +kernel
theorem dX6_name_36 : decode cX6_name 36 = .ok (.return_, 1) := by decide +kernel
set_option maxRecDepth 20000 in
theorem ggX6_lookRule_X6_isShut : GoodIn wsX6_lookRule wsX6_isShut := goodIn_r _ [25, 4, 26, 27, 28, 24, 29, 5, 13, 14, 69, 70, 71, 72, 73, 74, 75, 76, 77, 78, 79, 80, 81, 82, 83, 84, 85, 86, 87, 88, 89, 90, 91, 92, 93, 94, 95, 96, 97] (by decide +kernel) (by decide +kernel)
set_option maxRecDepth 20000 in
theorem gX6_lookRule_X6_isShut : GoodIn wsX6_lookRule (wsV RX6 163 RX6 yX6_isShut wsX6_isShut) := goodIn_app (goodIn_of _ (by decide +kernel)) ggX6_lookRule_X6_isShut
set_option maxRecDepth 20000 in
theorem ggX6_lookRule_X6_name : GoodIn wsX6_lookRule wsX6_name := goodIn_r _ [33, 5, 14, 18, 69, 70, 71, 72, 73, 74, 75, 76, 77, 78, 79, 80, 81, 82, 83, 84, 85, 86, 87, 88, 89, 90, 91, 92, 93, 94, 95, 96, 97] (by decide +kernel) (by decide +kernel)
set_option maxRecDepth 20000 in
theorem gX6_lookRule_X6_name : GoodIn wsX6_lookRule (wsV RX6 169 RX6 yX6_name wsX6_name) := goodIn_app (goodIn_of _ (by decide +kernel)) ggX6_lookRule_X6_name
set_option maxRecDepth 20000 in
theorem ggX6_lookRule_X6_ask : GoodIn wsX6_lookRule wsX6_ask := goodIn_r _ [37, 16, 5, 17, 15, 69, 70, 71, 72, 73, 74, 75, 76, 77, 78, 79, 80, 81, 82, 83, 84, 85, 86, 87, 88, 89, 90, 91, 92, 93, 94, 95, 96, 97] (by decide +kernel) (by decide +kernel)
set_option maxRecDepth 20000 in
theorem gX6_lookRule_X6_ask : GoodIn wsX6_lookRule (wsV RX6 173 RX6 yX6_ask wsX6_ask) := goodIn_app (goodIn_of _ (by decide +kernel)) ggX6_lookRule_X6_ask
set_option maxRecDepth 20000 in
theorem ggX6_lookRule_X6_look : GoodIn wsX6_lookRule wsX6_look := goodIn_r _ [41, 19, 42, 43, 44, 45, 46, 47, 48, 49, 24, 50, 51, 52, 53, 54, 55, 56, 57, 58, 5, 6, 8, 9, 10, 11, 59, 60, 61, 62, 63, 64, 38, 39, 40, 65, 66, 67, 68, 0, 1, 2, 3, 4, 7, 12, 13, 14, 15, 16, 17, 18, 20, 21, 22, 23, 25, 26, 27, 28, 29, 30, 31, 32, 33, 34, 35, 36, 37, 69, 70, 71, 72, 73, 74, 75, 76, 77, 78, 79, 80, 81, 82, 83, 84, 85, 86, 87, 88, 89, 90, 91, 92, 93, 94, 95, 96, 97] (by decide +kernel) (by decide +kernel)
set_option maxRecDepth 20000 in
theorem gX6_lookRule_X6_look : GoodIn wsX6_lookRule (wsV RX6 144 RX6 yX6_look wsX6_look) := goodIn_app (goodIn_of _ (by decide +kernel)) ggX6_lookRule_X6_look
theorem dX6_lookRule_0 : decode cX6_lookRule 0 = .ok (.aload_n 0, 1) := by decide +kernel
theorem dX6_lookRule_1 : decode cX6_lookRule 1 = .ok (.getfield 19, 3) := by decide +kernel
theorem dX6_lookRule_4 : decode cX6_lookRule 4 = .ok (.iload_n 1, 1) := by decide +kernel
theorem dX6_lookRule_5 : decode cX6_lookRule 5 = .ok (.iaload, 1) := by decide +kernel
theorem dX6_lookRule_6 : decode cX6_lookRule 6 = .ok (.iconst (-1), 1) := by decide +kernel
theorem dX6_lookRule_7 : decode cX6_lookRule 7 = .ok (.if_icmp .ne 5, 3) := by decide +kernel
theorem dX6_lookRule_10 : decode cX6_lookRule 10 = .ok (.iconst (-1), 1) := by decide +kernel
theorem dX6_lookRule_11 : decode cX6_lookRule 11 = .ok (.ireturn, 1) := by decide +kernel
theorem dX6_lookRule_12 : decode cX6_lookRule 12 = .ok (.bipush 41, 2) := by decide +kernel
theorem dX6_lookRule_14 : decode cX6_lookRule 14 = .ok (.iload_n 1, 1) := by decide +kernel
theorem dX6_lookRule_15 : decode cX6_lookRule 15 = .ok (.imul, 1) := by decide +kernel
theorem dX6_lookRule_16 : decode cX6_lookRule 16 = .ok (.iload_n 2, 1) := by decide +kernel
theorem dX6_lookRule_17 : decode cX6_lookRule 17 = .ok (.iadd, 1) := by decide +kernel
theorem dX6_lookRule_18 : decode cX6_lookRule 18 = .ok (.istore 4, 2) := by decide +kernel
theorem dX6_lookRule_20 : decode cX6_lookRule 20 = .ok (.aload_n 0, 1) := by decide +kernel
theorem dX6_lookRule_21 : decode cX6_lookRule 21 = .ok (.getfield 25, 3) := by decide +kernel
theorem dX6_lookRule_24 : decode cX6_lookRule 24 = .ok (.iload 4, 2) := by decide +kernel
theorem dX6_lookRule_26 : decode cX6_lookRule 26 = .ok (.baload, 1) := by decide +kernel
theorem dX6_lookRule_27 : decode cX6_lookRule 27 = .ok (.ifCond .eq 85, 3) := by decide +kernel
theorem dX6_lookRule_30 : decode cX6_lookRule 30 = .ok (.aload_n 0, 1) := by decide +kernel
theorem dX6_lookRule_31 : decode cX6_lookRule 31 = .ok (.iload 4, 2) := by decide +kernel
theorem dX6_lookRule_33 : decode cX6_lookRule 33 = .ok (.iload_n 2, 1) := by decide +kernel
theorem dX6_lookRule_34 : decode cX6_lookRule 34 = .ok (.invokevirtual 163, 3) := by decide +kernel
theorem dX6_lookRule_37 : decode cX6_lookRule 37 = .ok (.ifCond .ne 75, 3) := by decide +kernel
theorem dX6_lookRule_40 : decode cX6_lookRule 40 = .ok (.aload_n 0, 1) := by decide +kernel
theorem dX6_lookRule_41 : decode cX6_lookRule 41 = .ok (.dup, 1) := by decide +kernel
theorem dX6_lookRule_42 : decode cX6_lookRule 42 = .ok (.getfield 166, 3) := by decide +kernel
theorem dX6_lookRule_45 : decode cX6_lookRule 45 = .ok (.iconst 1, 1) := by decide +kernel
theorem dX6_lookRule_46 : decode cX6_lookRule 46 = .ok (.iadd, 1) := by decide +kernel
theorem dX6_lookRule_47 : decode cX6_lookRule 47 = .ok (.putfield 166, 3) := by decide +kernel
theorem dX6_lookRule_50 : decode cX6_lookRule 50 = .ok (.aload_n 0, 1) := by decide +kernel
theorem dX6_lookRule_51 : decode cX6_lookRule 51 = .ok (.aload_n 0, 1) := by decide +kernel
theorem dX6_lookRule_52 : decode cX6_lookRule 52 = .ok (.getfield 35, 3) := by decide +kernel
theorem dX6_lookRule_55 : decode cX6_lookRule 55 = .ok (.iload 4, 2) := by decide +kernel
theorem dX6_lookRule_57 : decode cX6_lookRule 57 = .ok (.iaload, 1) := by decide +kernel
theorem dX6_lookRule_58 : decode cX6_lookRule 58 = .ok (.iload_n 2, 1) := by decide +kernel
theorem dX6_lookRule_59 : decode cX6_lookRule 59 = .ok (.invokevirtual 169, 3) := by decide +kernel
theorem dX6_lookRule_62 : decode cX6_lookRule 62 = .ok (.iconst 0, 1) := by decide +kernel
theorem dX6_lookRule_63 : decode cX6_lookRule 63 = .ok (.istore 5, 2) := by decide +kernel
theorem dX6_lookRule_65 : decode cX6_lookRule 65 = .ok (.iload 5, 2) := by decide +kernel
theorem dX6_lookRule_67 : decode cX6_lookRule 67 = .ok (.aload_n 0, 1) := by decide +kernel
theorem dX6_lookRule_68 : decode cX6_lookRule 68 = .ok (.getfield 150, 3) := by decide +kernel
theorem dX6_lookRule_71 : decode cX6_lookRule 71 = .ok (.if_icmp .ge 33, 3) := by decide +kernel
theorem dX6_lookRule_74 : decode cX6_lookRule 74 = .ok (.aload_n 0, 1) := by decide +kernel
theorem dX6_lookRule_75 : decode cX6_lookRule 75 = .ok (.getfield 53, 3) := by decide +kernel
theorem dX6_lookRule_78 : decode cX6_lookRule 78 = .ok (.iload 5, 2) := by decide +kernel
theorem dX6_lookRule_80 : decode cX6_lookRule 80 = .ok (.aload_n 0, 1) := by decide +kernel
theorem dX6_lookRule_81 : decode cX6_lookRule 81 = .ok (.getfield 53, 3) := by decide +kernel
theorem dX6_lookRule_84 : decode cX6_lookRule 84 = .ok (.iload 5, 2) := by decide +kernel
theorem dX6_lookRule_86 : decode cX6_lookRule 86 = .ok (.iaload, 1) := by decide +kernel
theorem dX6_lookRule_87 : decode cX6_lookRule 87 = .ok (.aload_n 0, 1) := by decide +kernel
theorem dX6_lookRule_88 : decode cX6_lookRule 88 = .ok (.getfield 32, 3) := by decide +kernel
theorem dX6_lookRule_91 : decode cX6_lookRule 91 = .ok (.iload 4, 2) := by decide +kernel
theorem dX6_lookRule_93 : decode cX6_lookRule 93 = .ok (.iaload, 1) := by decide +kernel
theorem dX6_lookRule_94 : decode cX6_lookRule 94 = .ok (.invokestatic 153, 3) := by decide +kernel
theorem dX6_lookRule_97 : decode cX6_lookRule 97 = .ok (.iastore, 1) := by decide +kernel
theorem dX6_lookRule_98 : decode cX6_lookRule 98 = .ok (.iinc 5 1, 3) := by decide +kernel
theorem dX6_lookRule_101 : decode cX6_lookRule 101 = .ok (.goto (-36), 3) := by decide +kernel
theorem dX6_lookRule_104 : decode cX6_lookRule 104 = .ok (.aload_n 0, 1) := by decide +kernel
theorem dX6_lookRule_105 : decode cX6_lookRule 105 = .ok (.getfield 29, 3) := by decide +kernel
theorem dX6_lookRule_108 : decode cX6_lookRule 108 = .ok (.iload 4, 2) := by decide +kernel
theorem dX6_lookRule_110 : decode cX6_lookRule 110 = .ok (.iaload, 1) := by decide +kernel
theorem dX6_lookRule_111 : decode cX6_lookRule 111 = .ok (.ireturn, 1) := by decide +kernel
theorem dX6_lookRule_112 : decode cX6_lookRule 112 = .ok (.iconst 0, 1) := by decide +kernel
theorem dX6_lookRule_113 : decode cX6_lookRule 113 = .ok (.istore 5, 2) := by decide +kernel
theorem dX6_lookRule_115 : decode cX6_lookRule 115 = .ok (.iload 5, 2) := by decide +kernel
theorem dX6_lookRule_117 : decode cX6_lookRule 117 = .ok (.aload_n 0, 1) := by decide +kernel
theorem dX6_lookRule_118 : decode cX6_lookRule 118 = .ok (.getfield 150, 3) := by decide +kernel
theorem dX6_lookRule_121 : decode cX6_lookRule 121 = .ok (.if_icmp .ge 38, 3) := by decide +kernel
theorem dX6_lookRule_124 : decode cX6_lookRule 124 = .ok (.aload_n 0, 1) := by decide +kernel
theorem dX6_lookRule_125 : decode cX6_lookRule 125 = .ok (.getfield 38, 3) := by decide +kernel
theorem dX6_lookRule_128 : decode cX6_lookRule 128 = .ok (.iload 5, 2) := by decide +kernel
theorem dX6_lookRule_130 : decode cX6_lookRule 130 = .ok (.iaload, 1) := by decide +kernel
theorem dX6_lookRule_131 : decode cX6_lookRule 131 = .ok (.iload_n 1, 1) := by decide +kernel
theorem dX6_lookRule_132 : decode cX6_lookRule 132 = .ok (.if_icmp .ne 21, 3) := by decide +kernel
theorem dX6_lookRule_135 : decode cX6_lookRule 135 = .ok (.aload_n 0, 1) := by decide +kernel
theorem dX6_lookRule_136 : decode cX6_lookRule 136 = .ok (.getfield 41, 3) := by decide +kernel
theorem dX6_lookRule_139 : decode cX6_lookRule 139 = .ok (.iload 5, 2) := by decide +kernel
theorem dX6_lookRule_141 : decode cX6_lookRule 141 = .ok (.iaload, 1) := by decide +kernel
theorem dX6_lookRule_142 : decode cX6_lookRule 142 = .ok (.iload_n 2, 1) := by decide +kernel
theorem dX6_lookRule_143 : decode cX6_lookRule 143 = .ok (.if_icmp .ne 10, 3) := by decide +kernel
theorem dX6_lookRule_146 : decode cX6_lookRule 146 = .ok (.aload_n 0, 1) := by decide +kernel
theorem dX6_lookRule_147 : decode cX6_lookRule 147 = .ok (.iload 5, 2) := by decide +kernel
theorem dX6_lookRule_149 : decode cX6_lookRule 149 = .ok (.invokevirtual 173, 3) := by decide +kernel
theorem dX6_lookRule_152 : decode cX6_lookRule 152 = .ok (.ireturn, 1) := by decide +kernel
theorem dX6_lookRule_153 : decode cX6_lookRule 153 = .ok (.iinc 5 1, 3) := by decide +kernel
theorem dX6_lookRule_156 : decode cX6_lookRule 156 = .ok (.goto (-41), 3) := by decide +kernel
theorem dX6_lookRule_159 : decode cX6_lookRule 159 = .ok (.aload_n 0, 1) := by decide +kernel
theorem dX6_lookRule_160 : decode cX6_lookRule 160 = .ok (.getfield 150, 3) := by decide +kernel
theorem dX6_lookRule_163 : decode cX6_lookRule 163 = .ok (.istore 5, 2) := by decide +kernel
theorem dX6_lookRule_165 : decode cX6_lookRule 165 = .ok (.aload_n 0, 1) := by decide +kernel
theorem dX6_lookRule_166 : decode cX6_lookRule 166 = .ok (.dup, 1) := by decide +kernel
theorem dX6_lookRule_167 : decode cX6_lookRule 167 = .ok (.getfield 150, 3) := by decide +kernel
theorem dX6_lookRule_170 : decode cX6_lookRule 170 = .ok (.iconst 1, 1) := by decide +kernel
theorem dX6_lookRule_171 : decode cX6_lookRule 171 = .ok (.iadd, 1) := by decide +kernel
theorem dX6_lookRule_172 : decode cX6_lookRule 172 = .ok (.putfield 150, 3) := by decide +kernel
theorem dX6_lookRule_175 : decode cX6_lookRule 175 = .ok (.aload_n 0, 1) := by decide +kernel
theorem dX6_lookRule_176 : decode cX6_lookRule 176 = .ok (.getfield 38, 3) := by decide +kernel
theorem dX6_lookRule_179 : decode cX6_lookRule 179 = .ok (.iload 5, 2) := by decide +kernel
theorem dX6_lookRule_181 : decode cX6_lookRule 181 = .ok (.iload_n 1, 1) := by decide +kernel
theorem dX6_lookRule_182 : decode cX6_lookRule 182 = .ok (.iastore, 1) := by decide +kernel
theorem dX6_lookRule_183 : decode cX6_lookRule 183 = .ok (.aload_n 0, 1) := by decide +kernel
theorem dX6_lookRule_184 : decode cX6_lookRule 184 = .ok (.getfield 41, 3) := by decide +kernel
theorem dX6_lookRule_187 : decode cX6_lookRule 187 = .ok (.iload 5, 2) := by decide +kernel
theorem dX6_lookRule_189 : decode cX6_lookRule 189 = .ok (.iload_n 2, 1) := by decide +kernel
theorem dX6_lookRule_190 : decode cX6_lookRule 190 = .ok (.iastore, 1) := by decide +kernel
theorem dX6_lookRule_191 : decode cX6_lookRule 191 = .ok (.aload_n 0, 1) := by decide +kernel
theorem dX6_lookRule_192 : decode cX6_lookRule 192 = .ok (.getfield 44, 3) := by decide +kernel
theorem dX6_lookRule_195 : decode cX6_lookRule 195 = .ok (.iload 5, 2) := by decide +kernel
theorem dX6_lookRule_197 : decode cX6_lookRule 197 = .ok (.iconst (-1), 1) := by decide +kernel
theorem dX6_lookRule_198 : decode cX6_lookRule 198 = .ok (.iastore, 1) := by decide +kernel
theorem dX6_lookRule_199 : decode cX6_lookRule 199 = .ok (.aload_n 0, 1) := by decide +kernel
theorem dX6_lookRule_200 : decode cX6_lookRule 200 = .ok (.getfield 47, 3) := by decide +kernel
theorem dX6_lookRule_203 : decode cX6_lookRule 203 = .ok (.iload 5, 2) := by decide +kernel
theorem dX6_lookRule_205 : decode cX6_lookRule 205 = .ok (.iconst 0, 1) := by decide +kernel
theorem dX6_lookRule_206 : decode cX6_lookRule 206 = .ok (.bastore, 1) := by decide +kernel
theorem dX6_lookRule_207 : decode cX6_lookRule 207 = .ok (.aload_n 0, 1) := by decide +kernel
theorem dX6_lookRule_208 : decode cX6_lookRule 208 = .ok (.getfield 50, 3) := by decide +kernel
theorem dX6_lookRule_211 : decode cX6_lookRule 211 = .ok (.iload 5, 2) := by decide +kernel
theorem dX6_lookRule_213 : decode cX6_lookRule 213 = .ok (.iconst 0, 1) := by decide +kernel
theorem dX6_lookRule_214 : decode cX6_lookRule 214 = .ok (.bastore, 1) := by decide +kernel
theorem dX6_lookRule_215 : decode cX6_lookRule 215 = .ok (.aload_n 0, 1) := by decide +kernel
theorem dX6_lookRule_216 : decode cX6_lookRule 216 = .ok (.getfield 53, 3) := by decide +kernel
theorem dX6_lookRule_219 : decode cX6_lookRule 219 = .ok (.iload 5, 2) := by decide +kernel
theorem dX6_lookRule_221 : decode cX6_lookRule 221 = .ok (.iload_n 2, 1) := by decide +kernel
theorem dX6_lookRule_222 : decode cX6_lookRule 222 = .ok (.iastore, 1) := by decide +kernel
theorem dX6_lookRule_223 : decode cX6_lookRule 223 = .ok (.aload_n 0, 1) := by decide +kernel
theorem dX6_lookRule_224 : decode cX6_lookRule 224 = .ok (.getfield 56, 3) := by decide +kernel
theorem dX6_lookRule_227 : decode cX6_lookRule 227 = .ok (.iload 5, 2) := by decide +kernel
theorem dX6_lookRule_229 : decode cX6_lookRule 229 = .ok (.iconst 0, 1) := by decide +kernel
theorem dX6_lookRule_230 : decode cX6_lookRule 230 = .ok (.iastore, 1) := by decide +kernel
theorem dX6_lookRule_231 : decode cX6_lookRule 231 = .ok (.aload_n 0, 1) := by decide +kernel
theorem dX6_lookRule_232 : decode cX6_lookRule 232 = .ok (.iconst 1, 1) := by decide +kernel
theorem dX6_lookRule_233 : decode cX6_lookRule 233 = .ok (.iload_n 1, 1) := by decide +kernel
theorem dX6_lookRule_234 : decode cX6_lookRule 234 = .ok (.ishl, 1) := by decide +kernel
theorem dX6_lookRule_235 : decode cX6_lookRule 235 = .ok (.iload_n 2, 1) := by decide +kernel
theorem dX6_lookRule_236 : decode cX6_lookRule 236 = .ok (.invokevirtual 169, 3) := by decide +kernel
theorem dX6_lookRule_239 : decode cX6_lookRule 239 = .ok (.aload_n 0, 1) := by decide +kernel
theorem dX6_lookRule_240 : decode cX6_lookRule 240 = .ok (.aload_n 0, 1) := by decide +kernel
theorem dX6_lookRule_241 : decode cX6_lookRule 241 = .ok (.getfield 19, 3) := by decide +kernel
theorem dX6_lookRule_244 : decode cX6_lookRule 244 = .ok (.iload_n 1, 1) := by decide +kernel
theorem dX6_lookRule_245 : decode cX6_lookRule 245 = .ok (.iaload, 1) := by decide +kernel
theorem dX6_lookRule_246 : decode cX6_lookRule 246 = .ok (.iload_n 2, 1) := by decide +kernel
theorem dX6_lookRule_247 : decode cX6_lookRule 247 = .ok (.iload_n 3, 1) := by decide +kernel
theorem dX6_lookRule_248 : decode cX6_lookRule 248 = .ok (.iconst 1, 1) := by decide +kernel
theorem dX6_lookRule_249 : decode cX6_lookRule 249 = .ok (.iadd, 1) := by decide +kernel
theorem dX6_lookRule_250 : decode cX6_lookRule 250 = .ok (.invokevirtual 144, 3) := by decide +kernel
theorem dX6_lookRule_253 : decode cX6_lookRule 253 = .ok (.istore 6, 2) := by decide +kernel
theorem dX6_lookRule_255 : decode cX6_lookRule 255 = .ok (.aload_n 0, 1) := by decide +kernel
theorem dX6_lookRule_256 : decode cX6_lookRule 256 = .ok (.getfield 47, 3) := by decide +kernel
theorem dX6_lookRule_259 : decode cX6_lookRule 259 = .ok (.iload 5, 2) := by decide +kernel
theorem dX6_lookRule_261 : decode cX6_lookRule 261 = .ok (.baload, 1) := by decide +kernel
theorem dX6_lookRule_262 : decode cX6_lookRule 262 = .ok (.ifCond .eq 86, 3) := by decide +kernel
theorem dX6_lookRule_265 : decode cX6_lookRule 265 = .ok (.iload 6, 2) := by decide +kernel
theorem dX6_lookRule_267 : decode cX6_lookRule 267 = .ok (.iconst (-1), 1) := by decide +kernel
theorem dX6_lookRule_268 : decode cX6_lookRule 268 = .ok (.if_icmp .eq 71, 3) := by decide +kernel
theorem dX6_lookRule_271 : decode cX6_lookRule 271 = .ok (.aload_n 0, 1) := by decide +kernel
theorem dX6_lookRule_272 : decode cX6_lookRule 272 = .ok (.getfield 125, 3) := by decide +kernel
theorem dX6_lookRule_275 : decode cX6_lookRule 275 = .ok (.ifCond .ne 64, 3) := by decide +kernel
theorem dX6_lookRule_278 : decode cX6_lookRule 278 = .ok (.aload_n 0, 1) := by decide +kernel
theorem dX6_lookRule_279 : decode cX6_lookRule 279 = .ok (.getfield 44, 3) := by decide +kernel
theorem dX6_lookRule_282 : decode cX6_lookRule 282 = .ok (.iload 5, 2) := by decide +kernel
theorem dX6_lookRule_284 : decode cX6_lookRule 284 = .ok (.iaload, 1) := by decide +kernel
theorem dX6_lookRule_285 : decode cX6_lookRule 285 = .ok (.iconst (-1), 1) := by decide +kernel
theorem dX6_lookRule_286 : decode cX6_lookRule 286 = .ok (.if_icmp .eq 15, 3) := by decide +kernel
theorem dX6_lookRule_289 : decode cX6_lookRule 289 = .ok (.aload_n 0, 1) := by decide +kernel
theorem dX6_lookRule_290 : decode cX6_lookRule 290 = .ok (.getfield 44, 3) := by decide +kernel
theorem dX6_lookRule_293 : decode cX6_lookRule 293 = .ok (.iload 5, 2) := by decide +kernel
theorem dX6_lookRule_295 : decode cX6_lookRule 295 = .ok (.iaload, 1) := by decide +kernel
theorem dX6_lookRule_296 : decode cX6_lookRule 296 = .ok (.iload 6, 2) := by decide +kernel
theorem dX6_lookRule_298 : decode cX6_lookRule 298 = .ok (.if_icmp .ge 41, 3) := by decide +kernel
theorem dX6_lookRule_301 : decode cX6_lookRule 301 = .ok (.aload_n 0, 1) := by decide +kernel
theorem dX6_lookRule_302 : decode cX6_lookRule 302 = .ok (.getfield 44, 3) := by decide +kernel
theorem dX6_lookRule_305 : decode cX6_lookRule 305 = .ok (.iload 5, 2) := by decide +kernel
theorem dX6_lookRule_307 : decode cX6_lookRule 307 = .ok (.iload 6, 2) := by decide +kernel
theorem dX6_lookRule_309 : decode cX6_lookRule 309 = .ok (.iastore, 1) := by decide +kernel
theorem dX6_lookRule_310 : decode cX6_lookRule 310 = .ok (.aload_n 0, 1) := by decide +kernel
theorem dX6_lookRule_311 : decode cX6_lookRule 311 = .ok (.dup, 1) := by decide +kernel
theorem dX6_lookRule_312 : decode cX6_lookRule 312 = .ok (.getfield 176, 3) := by decide +kernel
theorem dX6_lookRule_315 : decode cX6_lookRule 315 = .ok (.iconst 1, 1) := by decide +kernel
theorem dX6_lookRule_316 : decode cX6_lookRule 316 = .ok (.iadd, 1) := by decide +kernel
theorem dX6_lookRule_317 : decode cX6_lookRule 317 = .ok (.putfield 176, 3) := by decide +kernel
theorem dX6_lookRule_320 : decode cX6_lookRule 320 = .ok (.aload_n 0, 1) := by decide +kernel
theorem dX6_lookRule_321 : decode cX6_lookRule 321 = .ok (.aload_n 0, 1) := by decide +kernel
theorem dX6_lookRule_322 : decode cX6_lookRule 322 = .ok (.getfield 19, 3) := by decide +kernel
theorem dX6_lookRule_325 : decode cX6_lookRule 325 = .ok (.iload_n 1, 1) := by decide +kernel
theorem dX6_lookRule_326 : decode cX6_lookRule 326 = .ok (.iaload, 1) := by decide +kernel
theorem dX6_lookRule_327 : decode cX6_lookRule 327 = .ok (.iload_n 2, 1) := by decide +kernel
theorem dX6_lookRule_328 : decode cX6_lookRule 328 = .ok (.iload_n 3, 1) := by decide +kernel
theorem dX6_lookRule_329 : decode cX6_lookRule 329 = .ok (.iconst 1, 1) := by decide +kernel
theorem dX6_lookRule_330 : decode cX6_lookRule 330 = .ok (.iadd, 1) := by decide +kernel
theorem dX6_lookRule_331 : decode cX6_lookRule 331 = .ok (.invokevirtual 144, 3) := by decide +kernel
theorem dX6_lookRule_334 : decode cX6_lookRule 334 = .ok (.istore 6, 2) := by decide +kernel
theorem dX6_lookRule_336 : decode cX6_lookRule 336 = .ok (.goto (-71), 3) := by decide +kernel
theorem dX6_lookRule_339 : decode cX6_lookRule 339 = .ok (.aload_n 0, 1) := by decide +kernel
theorem dX6_lookRule_340 : decode cX6_lookRule 340 = .ok (.getfield 44, 3) := by decide +kernel
theorem dX6_lookRule_343 : decode cX6_lookRule 343 = .ok (.iload 5, 2) := by decide +kernel
theorem dX6_lookRule_345 : decode cX6_lookRule 345 = .ok (.iaload, 1) := by decide +kernel
theorem dX6_lookRule_346 : decode cX6_lookRule 346 = .ok (.istore 6, 2) := by decide +kernel
theorem dX6_lookRule_348 : decode cX6_lookRule 348 = .ok (.aload_n 0, 1) := by decide +kernel
theorem dX6_lookRule_349 : decode cX6_lookRule 349 = .ok (.iload 5, 2) := by decide +kernel
theorem dX6_lookRule_351 : decode cX6_lookRule 351 = .ok (.putfield 150, 3) := by decide +kernel
theorem dX6_lookRule_354 : decode cX6_lookRule 354 = .ok (.aload_n 0, 1) := by decide +kernel
theorem dX6_lookRule_355 : decode cX6_lookRule 355 = .ok (.getfield 50, 3) := by decide +kernel
theorem dX6_lookRule_358 : decode cX6_lookRule 358 = .ok (.iload 5, 2) := by decide +kernel
theorem dX6_lookRule_360 : decode cX6_lookRule 360 = .ok (.baload, 1) := by decide +kernel
theorem dX6_lookRule_361 : decode cX6_lookRule 361 = .ok (.ifCond .ne 55, 3) := by decide +kernel
theorem dX6_lookRule_364 : decode cX6_lookRule 364 = .ok (.aload_n 0, 1) := by decide +kernel
theorem dX6_lookRule_365 : decode cX6_lookRule 365 = .ok (.getfield 125, 3) := by decide +kernel
theorem dX6_lookRule_368 : decode cX6_lookRule 368 = .ok (.ifCond .ne 48, 3) := by decide +kernel
theorem dX6_lookRule_371 : decode cX6_lookRule 371 = .ok (.aload_n 0, 1) := by decide +kernel
theorem dX6_lookRule_372 : decode cX6_lookRule 372 = .ok (.getfield 25, 3) := by decide +kernel
theorem dX6_lookRule_375 : decode cX6_lookRule 375 = .ok (.iload 4, 2) := by decide +kernel
theorem dX6_lookRule_377 : decode cX6_lookRule 377 = .ok (.iconst 1, 1) := by decide +kernel
theorem dX6_lookRule_378 : decode cX6_lookRule 378 = .ok (.bastore, 1) := by decide +kernel
theorem dX6_lookRule_379 : decode cX6_lookRule 379 = .ok (.aload_n 0, 1) := by decide +kernel
theorem dX6_lookRule_380 : decode cX6_lookRule 380 = .ok (.getfield 29, 3) := by decide +kernel
theorem dX6_lookRule_383 : decode cX6_lookRule 383 = .ok (.iload 4, 2) := by decide +kernel
theorem dX6_lookRule_385 : decode cX6_lookRule 385 = .ok (.iload 6, 2) := by decide +kernel
theorem dX6_lookRule_387 : decode cX6_lookRule 387 = .ok (.iastore, 1) := by decide +kernel
theorem dX6_lookRule_388 : decode cX6_lookRule 388 = .ok (.aload_n 0, 1) := by decide +kernel
theorem dX6_lookRule_389 : decode cX6_lookRule 389 = .ok (.getfield 32, 3) := by decide +kernel
theorem dX6_lookRule_392 : decode cX6_lookRule 392 = .ok (.iload 4, 2) := by decide +kernel
theorem dX6_lookRule_394 : decode cX6_lookRule 394 = .ok (.aload_n 0, 1) := by decide +kernel
theorem dX6_lookRule_395 : decode cX6_lookRule 395 = .ok (.getfield 53, 3) := by decide +kernel
theorem dX6_lookRule_398 : decode cX6_lookRule 398 = .ok (.iload 5, 2) := by decide +kernel
theorem dX6_lookRule_400 : decode cX6_lookRule 400 = .ok (.iaload, 1) := by decide +kernel
theorem dX6_lookRule_401 : decode cX6_lookRule 401 = .ok (.iastore, 1) := by decide +kernel
theorem dX6_lookRule_402 : decode cX6_lookRule 402 = .ok (.aload_n 0, 1) := by decide +kernel
theorem dX6_lookRule_403 : decode cX6_lookRule 403 = .ok (.getfield 35, 3) := by decide +kernel
theorem dX6_lookRule_406 : decode cX6_lookRule 406 = .ok (.iload 4, 2) := by decide +kernel
theorem dX6_lookRule_408 : decode cX6_lookRule 408 = .ok (.aload_n 0, 1) := by decide +kernel
theorem dX6_lookRule_409 : decode cX6_lookRule 409 = .ok (.getfield 56, 3) := by decide +kernel
theorem dX6_lookRule_412 : decode cX6_lookRule 412 = .ok (.iload 5, 2) := by decide +kernel
theorem dX6_lookRule_414 : decode cX6_lookRule 414 = .ok (.iaload, 1) := by decide +kernel
theorem dX6_lookRule_415 : decode cX6_lookRule 415 = .ok (.iastore, 1) := by decide +kernel
theorem dX6_lookRule_416 : decode cX6_lookRule 416 = .ok (.iload 6, 2) := by decide +kernel
theorem dX6_lookRule_418 : decode cX6_lookRule 418 = .ok (.ireturn, 1) := by decide +kernel
theorem dX6_ask_0 : decode cX6_ask 0 = .ok (.aload_n 0, 1) := by decide +kernel
theorem dX6_ask_1 : decode cX6_ask 1 = .ok (.getfield 47, 3) := by decide +kernel
theorem dX6_ask_4 : decode cX6_ask 4 = .ok (.iload_n 1, 1) := by decide +kernel
theorem dX6_ask_5 : decode cX6_ask 5 = .ok (.iconst 1, 1) := by decide +kernel
theorem dX6_ask_6 : decode cX6_ask 6 = .ok (.bastore, 1) := by decide +kernel
theorem dX6_ask_7 : decode cX6_ask 7 = .ok (.iload_n 1, 1) := by decide +kernel
theorem dX6_ask_8 : decode cX6_ask 8 = .ok (.iconst 1, 1) := by decide +kernel
theorem dX6_ask_9 : decode cX6_ask 9 = .ok (.iadd, 1) := by decide +kernel
theorem dX6_ask_10 : decode cX6_ask 10 = .ok (.istore_n 2, 1) := by decide +kernel
theorem dX6_ask_11 : decode cX6_ask 11 = .ok (.iload_n 2, 1) := by decide +kernel
theorem dX6_ask_12 : decode cX6_ask 12 = .ok (.aload_n 0, 1) := by decide +kernel
theorem dX6_ask_13 : decode cX6_ask 13 = .ok (.getfield 150, 3) := by decide +kernel
theorem dX6_ask_16 : decode cX6_ask 16 = .ok (.if_icmp .ge 16, 3) := by decide +kernel
theorem dX6_ask_19 : decode cX6_ask 19 = .ok (.aload_n 0, 1) := by decide +kernel
theorem dX6_ask_20 : decode cX6_ask 20 = .ok (.getfield 50, 3) := by decide +kernel
theorem dX6_ask_23 : decode cX6_ask 23 = .ok (.iload_n 2, 1) := by decide +kernel
theorem dX6_ask_24 : decode cX6_ask 24 = .ok (.iconst 1, 1) := by decide +kernel
theorem dX6_ask_25 : decode cX6_ask 25 = .ok (.bastore, 1) := by decide +kernel
theorem dX6_ask_26 : decode cX6_ask 26 = .ok (.iinc 2 1, 3) := by decide +kernel
theorem dX6_ask_29 : decode cX6_ask 29 = .ok (.goto (-18), 3) := by decide +kernel
theorem dX6_ask_32 : decode cX6_ask 32 = .ok (.aload_n 0, 1) := by decide +kernel
theorem dX6_ask_33 : decode cX6_ask 33 = .ok (.getfield 44, 3) := by decide +kernel
theorem dX6_ask_36 : decode cX6_ask 36 = .ok (.iload_n 1, 1) := by decide +kernel
theorem dX6_ask_37 : decode cX6_ask 37 = .ok (.iaload, 1) := by decide +kernel
theorem dX6_ask_38 : decode cX6_ask 38 = .ok (.ireturn, 1) := by decide +kernel
theorem dX6_isPlace_0 : decode cX6_isPlace 0 = .ok (.iload_n 1, 1) := by decide +kernel
theorem dX6_isPlace_1 : decode cX6_isPlace 1 = .ok (.ifCond .lt 15, 3) := by decide +kernel
theorem dX6_isPlace_4 : decode cX6_isPlace 4 = .ok (.iload_n 1, 1) := by decide +kernel
theorem dX6_isPlace_5 : decode cX6_isPlace 5 = .ok (.aload_n 0, 1) := by decide +kernel
theorem dX6_isPlace_6 : decode cX6_isPlace 6 = .ok (.getfield 111, 3) := by decide +kernel
theorem dX6_isPlace_9 : decode cX6_isPlace 9 = .ok (.if_icmp .gt 7, 3) := by decide +kernel
theorem dX6_isPlace_12 : decode cX6_isPlace 12 = .ok (.iconst 1, 1) := by decide +kernel
theorem dX6_isPlace_13 : decode cX6_isPlace 13 = .ok (.goto 4, 3) := by decide +kernel
theorem dX6_isPlace_16 : decode cX6_isPlace 16 = .ok (.iconst 0, 1) := by decide +kernel
theorem dX6_isPlace_17 : decode cX6_isPlace 17 = .ok (.ireturn, 1) := by decide +kernel
set_option maxRecDepth 20000 in
theorem ggX6_parse_X6_isRule : GoodIn wsX6_parse wsX6_isRule := goodIn_r _ [11] (by decide +kernel) (by decide +kernel)
set_option maxRecDepth 20000 in
theorem gX6_parse_X6_isRule : GoodIn wsX6_parse (va_wsS RX6 90 yX6_isRule wsX6_isRule) := goodIn_app (goodIn_of _ (by decide +kernel)) ggX6_parse_X6_isRule
set_option maxRecDepth 20000 in
theorem ggX6_parse_X6_isPlace : GoodIn wsX6_parse wsX6_isPlace := goodIn_r _ [15, 16, 90, 91, 92, 93, 94, 95, 96, 97, 98, 99, 100, 101, 102, 103, 104, 105, 106, 107, 108, 109, 110, 111, 112, 113, 114, 115, 116, 117, 118] (by decide +kernel) (by decide +kernel)
set_option maxRecDepth 20000 in
theorem gX6_parse_X6_isPlace : GoodIn wsX6_parse (wsV RX6 179 RX6 yX6_isPlace wsX6_isPlace) := goodIn_app (goodIn_of _ (by decide +kernel)) ggX6_parse_X6_isPlace
set_option maxRecDepth 20000 in
theorem ggX6_parse_X6_fail : GoodIn wsX6_parse wsX6_fail := goodIn_r _ [20, 1, 90, 91, 92, 93, 94, 95, 96, 97, 98, 99, 100, 101, 102, 103, 104, 105, 106, 107, 108, 109, 110, 111, 112, 113, 114, 115, 116, 117, 118] (by decide +kernel) (by decide +kernel)
set_option maxRecDepth 20000 in
theorem gX6_parse_X6_fail : GoodIn wsX6_parse (wsV RX6 78 RX6 yX6_fail wsX6_fail) := goodIn_app (goodIn_of _ (by decide +kernel)) ggX6_parse_X6_fail
set_option maxRecDepth 20000 in
theorem ggX6_parse_X6_lookRule : GoodIn wsX6_parse wsX6_lookRule := goodIn_r _ [24, 25, 26, 3, 27, 7, 28, 29, 30, 31, 32, 33, 34, 35, 36, 37, 38, 39, 40, 6, 4, 41, 42, 43, 10, 44, 45, 46, 47, 48, 49, 50, 51, 52, 53, 54, 55, 56, 57, 58, 59, 60, 2, 61, 62, 63, 64, 65, 66, 67, 68, 69, 70, 71, 72, 73, 74, 75, 76, 16, 77, 5, 21, 22, 23, 78, 79, 80, 81, 90, 91, 92, 93, 94, 95, 96, 97, 98, 99, 100, 101, 102, 103, 104, 105, 106, 107, 108, 109, 110, 111, 112, 113, 114, 115, 116, 117, 118] (by decide +kernel) (by decide +kernel)
set_option maxRecDepth 20000 in
theorem gX6_parse_X6_lookRule : GoodIn wsX6_parse (wsV RX6 141 RX6 yX6_lookRule wsX6_lookRule) := goodIn_app (goodIn_of _ (by decide +kernel)) ggX6_parse_X6_lookRule
set_option maxRecDepth 20000 in
theorem ggX6_parse_X6_forgetAll : GoodIn wsX6_parse wsX6_forgetAll := goodIn_r _ [85, 26, 86, 87, 88, 10, 89, 90, 91, 92, 93, 94, 95, 96, 97, 98, 99, 100, 101, 102, 103, 104, 105, 106, 107, 108, 109, 110, 111, 112, 113, 114, 115, 116, 117, 118] (by decide +kernel) (by decide +kernel)
set_option maxRecDepth 20000 in
theorem gX6_parse_X6_forgetAll : GoodIn wsX6_parse (wsV RX6 96 RX6 yX6_forgetAll wsX6_forgetAll) := goodIn_app (goodIn_of _ (by decide +kernel)) ggX6_parse_X6_forgetAll
theorem dX6_parse_0 : decode cX6_parse 0 = .ok (.aload_n 0, 1) := by decide +kernel
theorem dX6_parse_1 : decode cX6_parse 1 = .ok (.iconst 0, 1) := by decide +kernel
theorem dX6_parse_2 : decode cX6_parse 2 = .ok (.putfield 72, 3) := by decide +kernel
theorem dX6_parse_5 : decode cX6_parse 5 = .ok (.iload_n 1, 1) := by decide +kernel
theorem dX6_parse_6 : decode cX6_parse 6 = .ok (.invokestatic 90, 3) := by decide +kernel
theorem dX6_parse_9 : decode cX6_parse 9 = .ok (.ifCond .eq 11, 3) := by decide +kernel
theorem dX6_parse_12 : decode cX6_parse 12 = .ok (.aload_n 0, 1) := by decide +kernel
theorem dX6_parse_13 : decode cX6_parse 13 = .ok (.iload_n 2, 1) := by decide +kernel
theorem dX6_parse_14 : decode cX6_parse 14 = .ok (.invokevirtual 179, 3) := by decide +kernel
theorem dX6_parse_17 : decode cX6_parse 17 = .ok (.ifCond .ne 9, 3) := by decide +kernel
theorem dX6_parse_20 : decode cX6_parse 20 = .ok (.aload_n 0, 1) := by decide +kernel
theorem dX6_parse_21 : decode cX6_parse 21 = .ok (.iconst 1, 1) := by decide +kernel
theorem dX6_parse_22 : decode cX6_parse 22 = .ok (.invokevirtual 78, 3) := by decide +kernel
theorem dX6_parse_25 : decode cX6_parse 25 = .ok (.ireturn, 1) := by decide +kernel
theorem dX6_parse_26 : decode cX6_parse 26 = .ok (.aload_n 0, 1) := by decide +kernel
theorem dX6_parse_27 : decode cX6_parse 27 = .ok (.iconst 0, 1) := by decide +kernel
theorem dX6_parse_28 : decode cX6_parse 28 = .ok (.putfield 128, 3) := by decide +kernel
theorem dX6_parse_31 : decode cX6_parse 31 = .ok (.aload_n 0, 1) := by decide +kernel
theorem dX6_parse_32 : decode cX6_parse 32 = .ok (.iconst 0, 1) := by decide +kernel
theorem dX6_parse_33 : decode cX6_parse 33 = .ok (.putfield 166, 3) := by decide +kernel
theorem dX6_parse_36 : decode cX6_parse 36 = .ok (.aload_n 0, 1) := by decide +kernel
theorem dX6_parse_37 : decode cX6_parse 37 = .ok (.iconst 0, 1) := by decide +kernel
theorem dX6_parse_38 : decode cX6_parse 38 = .ok (.putfield 176, 3) := by decide +kernel
theorem dX6_parse_41 : decode cX6_parse 41 = .ok (.aload_n 0, 1) := by decide +kernel
theorem dX6_parse_42 : decode cX6_parse 42 = .ok (.iconst (-1), 1) := by decide +kernel
theorem dX6_parse_43 : decode cX6_parse 43 = .ok (.putfield 59, 3) := by decide +kernel
theorem dX6_parse_46 : decode cX6_parse 46 = .ok (.aload_n 0, 1) := by decide +kernel
theorem dX6_parse_47 : decode cX6_parse 47 = .ok (.iconst 0, 1) := by decide +kernel
theorem dX6_parse_48 : decode cX6_parse 48 = .ok (.putfield 125, 3) := by decide +kernel
theorem dX6_parse_51 : decode cX6_parse 51 = .ok (.aload_n 0, 1) := by decide +kernel
theorem dX6_parse_52 : decode cX6_parse 52 = .ok (.iconst 0, 1) := by decide +kernel
theorem dX6_parse_53 : decode cX6_parse 53 = .ok (.putfield 150, 3) := by decide +kernel
theorem dX6_parse_56 : decode cX6_parse 56 = .ok (.aload_n 0, 1) := by decide +kernel
theorem dX6_parse_57 : decode cX6_parse 57 = .ok (.iload_n 1, 1) := by decide +kernel
theorem dX6_parse_58 : decode cX6_parse 58 = .ok (.iload_n 2, 1) := by decide +kernel
theorem dX6_parse_59 : decode cX6_parse 59 = .ok (.iconst 0, 1) := by decide +kernel
theorem dX6_parse_60 : decode cX6_parse 60 = .ok (.invokevirtual 141, 3) := by decide +kernel
theorem dX6_parse_63 : decode cX6_parse 63 = .ok (.istore_n 3, 1) := by decide +kernel
theorem dX6_parse_64 : decode cX6_parse 64 = .ok (.aload_n 0, 1) := by decide +kernel
theorem dX6_parse_65 : decode cX6_parse 65 = .ok (.getfield 125, 3) := by decide +kernel
theorem dX6_parse_68 : decode cX6_parse 68 = .ok (.ifCond .ne 5, 3) := by decide +kernel
theorem dX6_parse_71 : decode cX6_parse 71 = .ok (.iload_n 3, 1) := by decide +kernel
theorem dX6_parse_72 : decode cX6_parse 72 = .ok (.ireturn, 1) := by decide +kernel
theorem dX6_parse_73 : decode cX6_parse 73 = .ok (.aload_n 0, 1) := by decide +kernel
theorem dX6_parse_74 : decode cX6_parse 74 = .ok (.invokevirtual 96, 3) := by decide +kernel
theorem dX6_parse_77 : decode cX6_parse 77 = .ok (.pop, 1) := by decide +kernel
theorem dX6_parse_78 : decode cX6_parse 78 = .ok (.bipush (-2), 2) := by decide +kernel
theorem dX6_parse_80 : decode cX6_parse 80 = .ok (.ireturn, 1) := by decide +kernel
theorem dX6_work_0 : decode cX6_work 0 = .ok (.aload_n 0, 1) := by decide +kernel
theorem dX6_work_1 : decode cX6_work 1 = .ok (.iconst 0, 1) := by decide +kernel
theorem dX6_work_2 : decode cX6_work 2 = .ok (.putfield 72, 3) := by decide +kernel
theorem dX6_work_5 : decode cX6_work 5 = .ok (.aload_n 0, 1) := by decide +kernel
theorem dX6_work_6 : decode cX6_work 6 = .ok (.getfield 128, 3) := by decide +kernel
theorem dX6_work_9 : decode cX6_work 9 = .ok (.ireturn, 1) := by decide +kernel
theorem dX6_hits_0 : decode cX6_hits 0 = .ok (.aload_n 0, 1) := by decide +kernel
theorem dX6_hits_1 : decode cX6_hits 1 = .ok (.iconst 0, 1) := by decide +kernel
theorem dX6_hits_2 : decode cX6_hits 2 = .ok (.putfield 72, 3) := by decide +kernel
theorem dX6_hits_5 : decode cX6_hits 5 = .ok (.aload_n 0, 1) := by decide +kernel
theorem dX6_hits_6 : decode cX6_hits 6 = .ok (.getfield 166, 3) := by decide +kernel
theorem dX6_hits_9 : decode cX6_hits 9 = .ok (.ireturn, 1) := by decide +kernel
theorem dX6_growths_0 : decode cX6_growths 0 = .ok (.aload_n 0, 1) := by decide +kernel
theorem dX6_growths_1 : decode cX6_growths 1 = .ok (.iconst 0, 1) := by decide +kernel
theorem dX6_growths_2 : decode cX6_growths 2 = .ok (.putfield 72, 3) := by decide +kernel
theorem dX6_growths_5 : decode cX6_growths 5 = .ok (.aload_n 0, 1) := by decide +kernel
theorem dX6_growths_6 : decode cX6_growths 6 = .ok (.getfield 176, 3) := by decide +kernel
theorem dX6_growths_9 : decode cX6_growths 9 = .ok (.ireturn, 1) := by decide +kernel
theorem dX6_farthest_0 : decode cX6_farthest 0 = .ok (.aload_n 0, 1) := by decide +kernel
theorem dX6_farthest_1 : decode cX6_farthest 1 = .ok (.iconst 0, 1) := by decide +kernel
theorem dX6_farthest_2 : decode cX6_farthest 2 = .ok (.putfield 72, 3) := by decide +kernel
theorem dX6_farthest_5 : decode cX6_farthest 5 = .ok (.aload_n 0, 1) := by decide +kernel
theorem dX6_farthest_6 : decode cX6_farthest 6 = .ok (.getfield 59, 3) := by decide +kernel
theorem dX6_farthest_9 : decode cX6_farthest 9 = .ok (.ireturn, 1) := by decide +kernel
theorem dX6_countAll_0 : decode cX6_countAll 0 = .ok (.iconst 0, 1) := by decide +kernel
theorem dX6_countAll_1 : decode cX6_countAll 1 = .ok (.istore_n 1, 1) := by decide +kernel
theorem dX6_countAll_2 : decode cX6_countAll 2 = .ok (.iconst 0, 1) := by decide +kernel
theorem dX6_countAll_3 : decode cX6_countAll 3 = .ok (.istore_n 2, 1) := by decide +kernel
theorem dX6_countAll_4 : decode cX6_countAll 4 = .ok (.iload_n 2, 1) := by decide +kernel
theorem dX6_countAll_5 : decode cX6_countAll 5 = .ok (.sipush 410, 3) := by decide +kernel
theorem dX6_countAll_8 : decode cX6_countAll 8 = .ok (.if_icmp .ge 26, 3) := by decide +kernel
theorem dX6_countAll_11 : decode cX6_countAll 11 = .ok (.iload_n 1, 1) := by decide +kernel
theorem dX6_countAll_12 : decode cX6_countAll 12 = .ok (.aload_n 0, 1) := by decide +kernel
theorem dX6_countAll_13 : decode cX6_countAll 13 = .ok (.getfield 25, 3) := by decide +kernel
theorem dX6_countAll_16 : decode cX6_countAll 16 = .ok (.iload_n 2, 1) := by decide +kernel
theorem dX6_countAll_17 : decode cX6_countAll 17 = .ok (.baload, 1) := by decide +kernel
theorem dX6_countAll_18 : decode cX6_countAll 18 = .ok (.ifCond .eq 7, 3) := by decide +kernel
theorem dX6_countAll_21 : decode cX6_countAll 21 = .ok (.iconst 1, 1) := by decide +kernel
theorem dX6_countAll_22 : decode cX6_countAll 22 = .ok (.goto 4, 3) := by decide +kernel
theorem dX6_countAll_25 : decode cX6_countAll 25 = .ok (.iconst 0, 1) := by decide +kernel
theorem dX6_countAll_26 : decode cX6_countAll 26 = .ok (.iadd, 1) := by decide +kernel
theorem dX6_countAll_27 : decode cX6_countAll 27 = .ok (.istore_n 1, 1) := by decide +kernel
theorem dX6_countAll_28 : decode cX6_countAll 28 = .ok (.iinc 2 1, 3) := by decide +kernel
theorem dX6_countAll_31 : decode cX6_countAll 31 = .ok (.goto (-27), 3) := by decide +kernel
theorem dX6_countAll_34 : decode cX6_countAll 34 = .ok (.iload_n 1, 1) := by decide +kernel
theorem dX6_countAll_35 : decode cX6_countAll 35 = .ok (.ireturn, 1) := by decide +kernel
set_option maxRecDepth 20000 in
theorem ggX6_forgetAll_X6_countAll : GoodIn wsX6_forgetAll wsX6_countAll := goodIn_r _ [6, 1, 7, 8, 9, 10, 11, 12, 13, 14, 15, 16, 17, 18, 19, 20, 21, 22, 23, 24, 25, 26, 27, 28, 29, 30, 31, 32, 33, 34, 35] (by decide +kernel) (by decide +kernel)
set_option maxRecDepth 20000 in
theorem gX6_forgetAll_X6_countAll : GoodIn wsX6_forgetAll (wsV RX6 182 RX6 yX6_countAll wsX6_countAll) := goodIn_app (goodIn_of _ (by decide +kernel)) ggX6_forgetAll_X6_countAll
theorem dX6_forgetAll_0 : decode cX6_forgetAll 0 = .ok (.aload_n 0, 1) := by decide +kernel
theorem dX6_forgetAll_1 : decode cX6_forgetAll 1 = .ok (.invokevirtual 182, 3) := by decide +kernel
theorem dX6_forgetAll_4 : decode cX6_forgetAll 4 = .ok (.istore_n 1, 1) := by decide +kernel
theorem dX6_forgetAll_5 : decode cX6_forgetAll 5 = .ok (.iconst 0, 1) := by decide +kernel
theorem dX6_forgetAll_6 : decode cX6_forgetAll 6 = .ok (.istore_n 2, 1) := by decide +kernel
theorem dX6_forgetAll_7 : decode cX6_forgetAll 7 = .ok (.iload_n 2, 1) := by decide +kernel
theorem dX6_forgetAll_8 : decode cX6_forgetAll 8 = .ok (.sipush 410, 3) := by decide +kernel
theorem dX6_forgetAll_11 : decode cX6_forgetAll 11 = .ok (.if_icmp .ge 16, 3) := by decide +kernel
theorem dX6_forgetAll_14 : decode cX6_forgetAll 14 = .ok (.aload_n 0, 1) := by decide +kernel
theorem dX6_forgetAll_15 : decode cX6_forgetAll 15 = .ok (.getfield 25, 3) := by decide +kernel
theorem dX6_forgetAll_18 : decode cX6_forgetAll 18 = .ok (.iload_n 2, 1) := by decide +kernel
theorem dX6_forgetAll_19 : decode cX6_forgetAll 19 = .ok (.iconst 0, 1) := by decide +kernel
theorem dX6_forgetAll_20 : decode cX6_forgetAll 20 = .ok (.bastore, 1) := by decide +kernel
theorem dX6_forgetAll_21 : decode cX6_forgetAll 21 = .ok (.iinc 2 1, 3) := by decide +kernel
theorem dX6_forgetAll_24 : decode cX6_forgetAll 24 = .ok (.goto (-17), 3) := by decide +kernel
theorem dX6_forgetAll_27 : decode cX6_forgetAll 27 = .ok (.iload_n 1, 1) := by decide +kernel
theorem dX6_forgetAll_28 : decode cX6_forgetAll 28 = .ok (.ireturn, 1) := by decide +kernel
set_option maxRecDepth 20000 in
theorem ggX6_remembered_X6_countAll : GoodIn wsX6_remembered wsX6_countAll := goodIn_r _ [6, 7, 8, 9, 10, 11, 12, 13, 14, 15, 16, 17, 18, 19, 20, 21, 22, 23, 24, 25, 26, 27, 28, 29, 30, 31, 32, 33, 34, 35, 36] (by decide +kernel) (by decide +kernel)
set_option maxRecDepth 20000 in
theorem gX6_remembered_X6_countAll : GoodIn wsX6_remembered (wsV RX6 182 RX6 yX6_countAll wsX6_countAll) := goodIn_app (goodIn_of _ (by decide +kernel)) ggX6_remembered_X6_countAll
theorem dX6_remembered_0 : decode cX6_remembered 0 = .ok (.aload_n 0, 1) := by decide +kernel
theorem dX6_remembered_1 : decode cX6_remembered 1 = .ok (.iconst 0, 1) := by decide +kernel
theorem dX6_remembered_2 : decode cX6_remembered 2 = .ok (.putfield 72, 3) := by decide +kernel
theorem dX6_remembered_5 : decode cX6_remembered 5 = .ok (.aload_n 0, 1) := by decide +kernel
theorem dX6_remembered_6 : decode cX6_remembered 6 = .ok (.invokevirtual 182, 3) := by decide +kernel
theorem dX6_remembered_9 : decode cX6_remembered 9 = .ok (.ireturn, 1) := by decide +kernel
set_option maxRecDepth 20000 in
theorem ggX6_result_X6_isRule : GoodIn wsX6_result wsX6_isRule := goodIn_r _ [7] (by decide +kernel) (by decide +kernel)
set_option maxRecDepth 20000 in
theorem gX6_result_X6_isRule : GoodIn wsX6_result (va_wsS RX6 90 yX6_isRule wsX6_isRule) := goodIn_app (goodIn_of _ (by decide +kernel)) ggX6_result_X6_isRule
set_option maxRecDepth 20000 in
theorem ggX6_result_X6_isPlace : GoodIn wsX6_result wsX6_isPlace := goodIn_r _ [11, 12, 17, 18, 19, 20, 21, 22, 23, 24, 25, 26, 27, 28, 29, 30, 31, 32, 33, 34, 35, 36, 37, 38, 39, 40, 41, 42, 43, 44, 45] (by decide +kernel) (by decide +kernel)
set_option maxRecDepth 20000 in
theorem gX6_result_X6_isPlace : GoodIn wsX6_result (wsV RX6 179 RX6 yX6_isPlace wsX6_isPlace) := goodIn_app (goodIn_of _ (by decide +kernel)) ggX6_result_X6_isPlace
set_option maxRecDepth 20000 in
theorem ggX6_result_X6_fail : GoodIn wsX6_result wsX6_fail := goodIn_r _ [16, 1, 17, 18, 19, 20, 21, 22, 23, 24, 25, 26, 27, 28, 29, 30, 31, 32, 33, 34, 35, 36, 37, 38, 39, 40, 41, 42, 43, 44, 45] (by decide +kernel) (by decide +kernel)
set_option maxRecDepth 20000 in
theorem gX6_result_X6_fail : GoodIn wsX6_result (wsV RX6 78 RX6 yX6_fail wsX6_fail) := goodIn_app (goodIn_of _ (by decide +kernel)) ggX6_result_X6_fail
theorem dX6_result_0 : decode cX6_result 0 = .ok (.aload_n 0, 1) := by decide +kernel
theorem dX6_result_1 : decode cX6_result 1 = .ok (.iconst 0, 1) := by decide +kernel
theorem dX6_result_2 : decode cX6_result 2 = .ok (.putfield 72, 3) := by decide +kernel
theorem dX6_result_5 : decode cX6_result 5 = .ok (.iload_n 1, 1) := by decide +kernel
theorem dX6_result_6 : decode cX6_result 6 = .ok (.invokestatic 90, 3) := by decide +kernel
theorem dX6_result_9 : decode cX6_result 9 = .ok (.ifCond .eq 11, 3) := by decide +kernel
theorem dX6_result_12 : decode cX6_result 12 = .ok (.aload_n 0, 1) := by decide +kernel
theorem dX6_result_13 : decode cX6_result 13 = .ok (.iload_n 2, 1) := by decide +kernel
theorem dX6_result_14 : decode cX6_result 14 = .ok (.invokevirtual 179, 3) := by decide +kernel
theorem dX6_result_17 : decode cX6_result 17 = .ok (.ifCond .ne 9, 3) := by decide +kernel
theorem dX6_result_20 : decode cX6_result 20 = .ok (.aload_n 0, 1) := by decide +kernel
theorem dX6_result_21 : decode cX6_result 21 = .ok (.iconst 1, 1) := by decide +kernel
theorem dX6_result_22 : decode cX6_result 22 = .ok (.invokevirtual 78, 3) := by decide +kernel
theorem dX6_result_25 : decode cX6_result 25 = .ok (.ireturn, 1) := by decide +kernel
theorem dX6_result_26 : decode cX6_result 26 = .ok (.aload_n 0, 1) := by decide +kernel
theorem dX6_result_27 : decode cX6_result 27 = .ok (.getfield 25, 3) := by decide +kernel
theorem dX6_result_30 : decode cX6_result 30 = .ok (.bipush 41, 2) := by decide +kernel
theorem dX6_result_32 : decode cX6_result 32 = .ok (.iload_n 1, 1) := by decide +kernel
theorem dX6_result_33 : decode cX6_result 33 = .ok (.imul, 1) := by decide +kernel
theorem dX6_result_34 : decode cX6_result 34 = .ok (.iload_n 2, 1) := by decide +kernel
theorem dX6_result_35 : decode cX6_result 35 = .ok (.iadd, 1) := by decide +kernel
theorem dX6_result_36 : decode cX6_result 36 = .ok (.baload, 1) := by decide +kernel
theorem dX6_result_37 : decode cX6_result 37 = .ok (.ifCond .eq 17, 3) := by decide +kernel
theorem dX6_result_40 : decode cX6_result 40 = .ok (.aload_n 0, 1) := by decide +kernel
theorem dX6_result_41 : decode cX6_result 41 = .ok (.getfield 29, 3) := by decide +kernel
theorem dX6_result_44 : decode cX6_result 44 = .ok (.bipush 41, 2) := by decide +kernel
theorem dX6_result_46 : decode cX6_result 46 = .ok (.iload_n 1, 1) := by decide +kernel
theorem dX6_result_47 : decode cX6_result 47 = .ok (.imul, 1) := by decide +kernel
theorem dX6_result_48 : decode cX6_result 48 = .ok (.iload_n 2, 1) := by decide +kernel
theorem dX6_result_49 : decode cX6_result 49 = .ok (.iadd, 1) := by decide +kernel
theorem dX6_result_50 : decode cX6_result 50 = .ok (.iaload, 1) := by decide +kernel
theorem dX6_result_51 : decode cX6_result 51 = .ok (.goto 5, 3) := by decide +kernel
theorem dX6_result_54 : decode cX6_result 54 = .ok (.bipush (-3), 2) := by decide +kernel
theorem dX6_result_56 : decode cX6_result 56 = .ok (.ireturn, 1) := by decide +kernel
set_option maxRecDepth 20000 in
theorem ggX6_reach_X6_isRule : GoodIn wsX6_reach wsX6_isRule := goodIn_r _ [7] (by decide +kernel) (by decide +kernel)
set_option maxRecDepth 20000 in
theorem gX6_reach_X6_isRule : GoodIn wsX6_reach (va_wsS RX6 90 yX6_isRule wsX6_isRule) := goodIn_app (goodIn_of _ (by decide +kernel)) ggX6_reach_X6_isRule
set_option maxRecDepth 20000 in
theorem ggX6_reach_X6_isPlace : GoodIn wsX6_reach wsX6_isPlace := goodIn_r _ [11, 12, 17, 18, 19, 20, 21, 22, 23, 24, 25, 26, 27, 28, 29, 30, 31, 32, 33, 34, 35, 36, 37, 38, 39, 40, 41, 42, 43, 44, 45] (by decide +kernel) (by decide +kernel)
set_option maxRecDepth 20000 in
theorem gX6_reach_X6_isPlace : GoodIn wsX6_reach (wsV RX6 179 RX6 yX6_isPlace wsX6_isPlace) := goodIn_app (goodIn_of _ (by decide +kernel)) ggX6_reach_X6_isPlace
set_option maxRecDepth 20000 in
theorem ggX6_reach_X6_fail : GoodIn wsX6_reach wsX6_fail := goodIn_r _ [16, 1, 17, 18, 19, 20, 21, 22, 23, 24, 25, 26, 27, 28, 29, 30, 31, 32, 33, 34, 35, 36, 37, 38, 39, 40, 41, 42, 43, 44, 45] (by decide +kernel) (by decide +kernel)
set_option maxRecDepth 20000 in
theorem gX6_reach_X6_fail : GoodIn wsX6_reach (wsV RX6 78 RX6 yX6_fail wsX6_fail) := goodIn_app (goodIn_of _ (by decide +kernel)) ggX6_reach_X6_fail
theorem dX6_reach_0 : decode cX6_reach 0 = .ok (.aload_n 0, 1) := by decide +kernel
theorem dX6_reach_1 : decode cX6_reach 1 = .ok (.iconst 0, 1) := by decide +kernel
theorem dX6_reach_2 : decode cX6_reach 2 = .ok (.putfield 72, 3) := by decide +kernel
theorem dX6_reach_5 : decode cX6_reach 5 = .ok (.iload_n 1, 1) := by decide +kernel
theorem dX6_reach_6 : decode cX6_reach 6 = .ok (.invokestatic 90, 3) := by decide +kernel
theorem dX6_reach_9 : decode cX6_reach 9 = .ok (.ifCond .eq 11, 3) := by decide +kernel
theorem dX6_reach_12 : decode cX6_reach 12 = .ok (.aload_n 0, 1) := by decide +kernel
theorem dX6_reach_13 : decode cX6_reach 13 = .ok (.iload_n 2, 1) := by decide +kernel
theorem dX6_reach_14 : decode cX6_reach 14 = .ok (.invokevirtual 179, 3) := by decide +kernel
theorem dX6_reach_17 : decode cX6_reach 17 = .ok (.ifCond .ne 9, 3) := by decide +kernel
theorem dX6_reach_20 : decode cX6_reach 20 = .ok (.aload_n 0, 1) := by decide +kernel
theorem dX6_reach_21 : decode cX6_reach 21 = .ok (.iconst 1, 1) := by decide +kernel
theorem dX6_reach_22 : decode cX6_reach 22 = .ok (.invokevirtual 78, 3) := by decide +kernel
theorem dX6_reach_25 : decode cX6_reach 25 = .ok (.ireturn, 1) := by decide +kernel
theorem dX6_reach_26 : decode cX6_reach 26 = .ok (.aload_n 0, 1) := by decide +kernel
theorem dX6_reach_27 : decode cX6_reach 27 = .ok (.getfield 25, 3) := by decide +kernel
theorem dX6_reach_30 : decode cX6_reach 30 = .ok (.bipush 41, 2) := by decide +kernel
theorem dX6_reach_32 : decode cX6_reach 32 = .ok (.iload_n 1, 1) := by decide +kernel
theorem dX6_reach_33 : decode cX6_reach 33 = .ok (.imul, 1) := by decide +kernel
theorem dX6_reach_34 : decode cX6_reach 34 = .ok (.iload_n 2, 1) := by decide +kernel
theorem dX6_reach_35 : decode cX6_reach 35 = .ok (.iadd, 1) := by decide +kernel
theorem dX6_reach_36 : decode cX6_reach 36 = .ok (.baload, 1) := by decide +kernel
theorem dX6_reach_37 : decode cX6_reach 37 = .ok (.ifCond .eq 17, 3) := by decide +kernel
theorem dX6_reach_40 : decode cX6_reach 40 = .ok (.aload_n 0, 1) := by decide +kernel
theorem dX6_reach_41 : decode cX6_reach 41 = .ok (.getfield 32, 3) := by decide +kernel
theorem dX6_reach_44 : decode cX6_reach 44 = .ok (.bipush 41, 2) := by decide +kernel
theorem dX6_reach_46 : decode cX6_reach 46 = .ok (.iload_n 1, 1) := by decide +kernel
theorem dX6_reach_47 : decode cX6_reach 47 = .ok (.imul, 1) := by decide +kernel
theorem dX6_reach_48 : decode cX6_reach 48 = .ok (.iload_n 2, 1) := by decide +kernel
theorem dX6_reach_49 : decode cX6_reach 49 = .ok (.iadd, 1) := by decide +kernel
theorem dX6_reach_50 : decode cX6_reach 50 = .ok (.iaload, 1) := by decide +kernel
theorem dX6_reach_51 : decode cX6_reach 51 = .ok (.goto 4, 3) := by decide +kernel
theorem dX6_reach_54 : decode cX6_reach 54 = .ok (.iconst (-1), 1) := by decide +kernel
theorem dX6_reach_55 : decode cX6_reach 55 = .ok (.ireturn, 1) := by decide +kernel
set_option maxRecDepth 20000 in
theorem ggX6_forget_X6_forgetAll : GoodIn wsX6_forget wsX6_forgetAll := goodIn_r _ [6, 7, 8, 9, 10, 5, 11, 12, 13, 14, 15, 16, 17, 18, 19, 20, 21, 22, 23, 24, 25, 26, 27, 28, 29, 30, 31, 32, 33, 34, 35, 36, 37, 38, 39, 40] (by decide +kernel) (by decide +kernel)
set_option maxRecDepth 20000 in
theorem gX6_forget_X6_forgetAll : GoodIn wsX6_forget (wsV RX6 96 RX6 yX6_forgetAll wsX6_forgetAll) := goodIn_app (goodIn_of _ (by decide +kernel)) ggX6_forget_X6_forgetAll
theorem dX6_forget_0 : decode cX6_forget 0 = .ok (.aload_n 0, 1) := by decide +kernel
theorem dX6_forget_1 : decode cX6_forget 1 = .ok (.iconst 0, 1) := by decide +kernel
theorem dX6_forget_2 : decode cX6_forget 2 = .ok (.putfield 72, 3) := by decide +kernel
theorem dX6_forget_5 : decode cX6_forget 5 = .ok (.aload_n 0, 1) := by decide +kernel
theorem dX6_forget_6 : decode cX6_forget 6 = .ok (.invokevirtual 96, 3) := by decide +kernel
theorem dX6_forget_9 : decode cX6_forget 9 = .ok (.ireturn, 1) := by decide +kernel
theorem dX6_digest_0 : decode cX6_digest 0 = .ok (.aload_n 0, 1) := by decide +kernel
theorem dX6_digest_1 : decode cX6_digest 1 = .ok (.iconst 0, 1) := by decide +kernel
theorem dX6_digest_2 : decode cX6_digest 2 = .ok (.putfield 72, 3) := by decide +kernel
theorem dX6_digest_5 : decode cX6_digest 5 = .ok (.ldc2_w 185, 3) := by decide +kernel
theorem dX6_digest_8 : decode cX6_digest 8 = .ok (.aload_n 0, 1) := by decide +kernel
theorem dX6_digest_9 : decode cX6_digest 9 = .ok (.getfield 75, 3) := by decide +kernel
theorem dX6_digest_12 : decode cX6_digest 12 = .ok (.i2l, 1) := by decide +kernel
theorem dX6_digest_13 : decode cX6_digest 13 = .ok (.ladd, 1) := by decide +kernel
theorem dX6_digest_14 : decode cX6_digest 14 = .ok (.lstore_n 1, 1) := by decide +kernel
theorem dX6_digest_15 : decode cX6_digest 15 = .ok (.iconst 0, 1) := by decide +kernel
theorem dX6_digest_16 : decode cX6_digest 16 = .ok (.istore_n 3, 1) := by decide +kernel
theorem dX6_digest_17 : decode cX6_digest 17 = .ok (.iload_n 3, 1) := by decide +kernel
theorem dX6_digest_18 : decode cX6_digest 18 = .ok (.bipush 10, 2) := by decide +kernel
theorem dX6_digest_20 : decode cX6_digest 20 = .ok (.if_icmp .ge 23, 3) := by decide +kernel
theorem dX6_digest_23 : decode cX6_digest 23 = .ok (.lload_n 1, 1) := by decide +kernel
theorem dX6_digest_24 : decode cX6_digest 24 = .ok (.ldc2_w 187, 3) := by decide +kernel
theorem dX6_digest_27 : decode cX6_digest 27 = .ok (.lmul, 1) := by decide +kernel
theorem dX6_digest_28 : decode cX6_digest 28 = .ok (.aload_n 0, 1) := by decide +kernel
theorem dX6_digest_29 : decode cX6_digest 29 = .ok (.getfield 19, 3) := by decide +kernel
theorem dX6_digest_32 : decode cX6_digest 32 = .ok (.iload_n 3, 1) := by decide +kernel
theorem dX6_digest_33 : decode cX6_digest 33 = .ok (.iaload, 1) := by decide +kernel
theorem dX6_digest_34 : decode cX6_digest 34 = .ok (.i2l, 1) := by decide +kernel
theorem dX6_digest_35 : decode cX6_digest 35 = .ok (.ladd, 1) := by decide +kernel
theorem dX6_digest_36 : decode cX6_digest 36 = .ok (.lstore_n 1, 1) := by decide +kernel
theorem dX6_digest_37 : decode cX6_digest 37 = .ok (.iinc 3 1, 3) := by decide +kernel
theorem dX6_digest_40 : decode cX6_digest 40 = .ok (.goto (-23), 3) := by decide +kernel
theorem dX6_digest_43 : decode cX6_digest 43 = .ok (.lload_n 1, 1) := by decide +kernel
theorem dX6_digest_44 : decode cX6_digest 44 = .ok (.ldc2_w 187, 3) := by decide +kernel
theorem dX6_digest_47 : decode cX6_digest 47 = .ok (.lmul, 1) := by decide +kernel
theorem dX6_digest_48 : decode cX6_digest 48 = .ok (.aload_n 0, 1) := by decide +kernel
theorem dX6_digest_49 : decode cX6_digest 49 = .ok (.getfield 111, 3) := by decide +kernel
theorem dX6_digest_52 : decode cX6_digest 52 = .ok (.i2l, 1) := by decide +kernel
theorem dX6_digest_53 : decode cX6_digest 53 = .ok (.ladd, 1) := by decide +kernel
theorem dX6_digest_54 : decode cX6_digest 54 = .ok (.lstore_n 1, 1) := by decide +kernel
theorem dX6_digest_55 : decode cX6_digest 55 = .ok (.iconst 0, 1) := by decide +kernel
theorem dX6_digest_56 : decode cX6_digest 56 = .ok (.istore_n 3, 1) := by decide +kernel
theorem dX6_digest_57 : decode cX6_digest 57 = .ok (.iload_n 3, 1) := by decide +kernel
theorem dX6_digest_58 : decode cX6_digest 58 = .ok (.aload_n 0, 1) := by decide +kernel
theorem dX6_digest_59 : decode cX6_digest 59 = .ok (.getfield 111, 3) := by decide +kernel
theorem dX6_digest_62 : decode cX6_digest 62 = .ok (.if_icmp .ge 23, 3) := by decide +kernel
theorem dX6_digest_65 : decode cX6_digest 65 = .ok (.lload_n 1, 1) := by decide +kernel
theorem dX6_digest_66 : decode cX6_digest 66 = .ok (.ldc2_w 187, 3) := by decide +kernel
theorem dX6_digest_69 : decode cX6_digest 69 = .ok (.lmul, 1) := by decide +kernel
theorem dX6_digest_70 : decode cX6_digest 70 = .ok (.aload_n 0, 1) := by decide +kernel
theorem dX6_digest_71 : decode cX6_digest 71 = .ok (.getfield 22, 3) := by decide +kernel
theorem dX6_digest_74 : decode cX6_digest 74 = .ok (.iload_n 3, 1) := by decide +kernel
theorem dX6_digest_75 : decode cX6_digest 75 = .ok (.iaload, 1) := by decide +kernel
theorem dX6_digest_76 : decode cX6_digest 76 = .ok (.i2l, 1) := by decide +kernel
theorem dX6_digest_77 : decode cX6_digest 77 = .ok (.ladd, 1) := by decide +kernel
theorem dX6_digest_78 : decode cX6_digest 78 = .ok (.lstore_n 1, 1) := by decide +kernel
theorem dX6_digest_79 : decode cX6_digest 79 = .ok (.iinc 3 1, 3) := by decide +kernel
theorem dX6_digest_82 : decode cX6_digest 82 = .ok (.goto (-25), 3) := by decide +kernel
theorem dX6_digest_85 : decode cX6_digest 85 = .ok (.iconst 0, 1) := by decide +kernel
theorem dX6_digest_86 : decode cX6_digest 86 = .ok (.istore_n 3, 1) := by decide +kernel
theorem dX6_digest_87 : decode cX6_digest 87 = .ok (.iload_n 3, 1) := by decide +kernel
theorem dX6_digest_88 : decode cX6_digest 88 = .ok (.aload_n 0, 1) := by decide +kernel
theorem dX6_digest_89 : decode cX6_digest 89 = .ok (.getfield 111, 3) := by decide +kernel
theorem dX6_digest_92 : decode cX6_digest 92 = .ok (.if_icmp .gt 87, 3) := by decide +kernel
theorem dX6_digest_95 : decode cX6_digest 95 = .ok (.iconst 0, 1) := by decide +kernel
theorem dX6_digest_96 : decode cX6_digest 96 = .ok (.istore 4, 2) := by decide +kernel
theorem dX6_digest_98 : decode cX6_digest 98 = .ok (.iload 4, 2) := by decide +kernel
theorem dX6_digest_100 : decode cX6_digest 100 = .ok (.bipush 10, 2) := by decide +kernel
theorem dX6_digest_102 : decode cX6_digest 102 = .ok (.if_icmp .ge 71, 3) := by decide +kernel
theorem dX6_digest_105 : decode cX6_digest 105 = .ok (.bipush 41, 2) := by decide +kernel
theorem dX6_digest_107 : decode cX6_digest 107 = .ok (.iload 4, 2) := by decide +kernel
theorem dX6_digest_109 : decode cX6_digest 109 = .ok (.imul, 1) := by decide +kernel
theorem dX6_digest_110 : decode cX6_digest 110 = .ok (.iload_n 3, 1) := by decide +kernel
theorem dX6_digest_111 : decode cX6_digest 111 = .ok (.iadd, 1) := by decide +kernel
theorem dX6_digest_112 : decode cX6_digest 112 = .ok (.istore 5, 2) := by decide +kernel
theorem dX6_digest_114 : decode cX6_digest 114 = .ok (.aload_n 0, 1) := by decide +kernel
theorem dX6_digest_115 : decode cX6_digest 115 = .ok (.getfield 25, 3) := by decide +kernel
theorem dX6_digest_118 : decode cX6_digest 118 = .ok (.iload 5, 2) := by decide +kernel
theorem dX6_digest_120 : decode cX6_digest 120 = .ok (.baload, 1) := by decide +kernel
theorem dX6_digest_121 : decode cX6_digest 121 = .ok (.ifCond .eq 46, 3) := by decide +kernel
theorem dX6_digest_124 : decode cX6_digest 124 = .ok (.lload_n 1, 1) := by decide +kernel
theorem dX6_digest_125 : decode cX6_digest 125 = .ok (.ldc2_w 187, 3) := by decide +kernel
theorem dX6_digest_128 : decode cX6_digest 128 = .ok (.lmul, 1) := by decide +kernel
theorem dX6_digest_129 : decode cX6_digest 129 = .ok (.iload_n 3, 1) := by decide +kernel
theorem dX6_digest_130 : decode cX6_digest 130 = .ok (.i2l, 1) := by decide +kernel
theorem dX6_digest_131 : decode cX6_digest 131 = .ok (.ladd, 1) := by decide +kernel
theorem dX6_digest_132 : decode cX6_digest 132 = .ok (.ldc2_w 187, 3) := by decide +kernel
theorem dX6_digest_135 : decode cX6_digest 135 = .ok (.lmul, 1) := by decide +kernel
theorem dX6_digest_136 : decode cX6_digest 136 = .ok (.iload 4, 2) := by decide +kernel
theorem dX6_digest_138 : decode cX6_digest 138 = .ok (.i2l, 1) := by decide +kernel
theorem dX6_digest_139 : decode cX6_digest 139 = .ok (.ladd, 1) := by decide +kernel
theorem dX6_digest_140 : decode cX6_digest 140 = .ok (.ldc2_w 187, 3) := by decide +kernel
theorem dX6_digest_143 : decode cX6_digest 143 = .ok (.lmul, 1) := by decide +kernel
theorem dX6_digest_144 : decode cX6_digest 144 = .ok (.aload_n 0, 1) := by decide +kernel
theorem dX6_digest_145 : decode cX6_digest 145 = .ok (.getfield 29, 3) := by decide +kernel
theorem dX6_digest_148 : decode cX6_digest 148 = .ok (.iload 5, 2) := by decide +kernel
theorem dX6_digest_150 : decode cX6_digest 150 = .ok (.iaload, 1) := by decide +kernel
theorem dX6_digest_151 : decode cX6_digest 151 = .ok (.i2l, 1) := by decide +kernel
theorem dX6_digest_152 : decode cX6_digest 152 = .ok (.ladd, 1) := by decide +kernel
theorem dX6_digest_153 : decode cX6_digest 153 = .ok (.ldc2_w 187, 3) := by decide +kernel
theorem dX6_digest_156 : decode cX6_digest 156 = .ok (.lmul, 1) := by decide +kernel
theorem dX6_digest_157 : decode cX6_digest 157 = .ok (.aload_n 0, 1) := by decide +kernel
theorem dX6_digest_158 : decode cX6_digest 158 = .ok (.getfield 32, 3) := by decide +kernel
theorem dX6_digest_161 : decode cX6_digest 161 = .ok (.iload 5, 2) := by decide +kernel
theorem dX6_digest_163 : decode cX6_digest 163 = .ok (.iaload, 1) := by decide +kernel
theorem dX6_digest_164 : decode cX6_digest 164 = .ok (.i2l, 1) := by decide +kernel
theorem dX6_digest_165 : decode cX6_digest 165 = .ok (.ladd, 1) := by decide +kernel
theorem dX6_digest_166 : decode cX6_digest 166 = .ok (.lstore_n 1, 1) := by decide +kernel
theorem dX6_digest_167 : decode cX6_digest 167 = .ok (.iinc 4 1, 3) := by decide +kernel
theorem dX6_digest_170 : decode cX6_digest 170 = .ok (.goto (-72), 3) := by decide +kernel
theorem dX6_digest_173 : decode cX6_digest 173 = .ok (.iinc 3 1, 3) := by decide +kernel
theorem dX6_digest_176 : decode cX6_digest 176 = .ok (.goto (-89), 3) := by decide +kernel
theorem dX6_digest_179 : decode cX6_digest 179 = .ok (.lload_n 1, 1) := by decide +kernel
theorem dX6_digest_180 : decode cX6_digest 180 = .ok (.ldc2_w 187, 3) := by decide +kernel
theorem dX6_digest_183 : decode cX6_digest 183 = .ok (.lmul, 1) := by decide +kernel
theorem dX6_digest_184 : decode cX6_digest 184 = .ok (.aload_n 0, 1) := by decide +kernel
theorem dX6_digest_185 : decode cX6_digest 185 = .ok (.getfield 128, 3) := by decide +kernel
theorem dX6_digest_188 : decode cX6_digest 188 = .ok (.i2l, 1) := by decide +kernel
theorem dX6_digest_189 : decode cX6_digest 189 = .ok (.ladd, 1) := by decide +kernel
theorem dX6_digest_190 : decode cX6_digest 190 = .ok (.ldc2_w 187, 3) := by decide +kernel
theorem dX6_digest_193 : decode cX6_digest 193 = .ok (.lmul, 1) := by decide +kernel
theorem dX6_digest_194 : decode cX6_digest 194 = .ok (.aload_n 0, 1) := by decide +kernel
theorem dX6_digest_195 : decode cX6_digest 195 = .ok (.getfield 166, 3) := by decide +kernel
theorem dX6_digest_198 : decode cX6_digest 198 = .ok (.i2l, 1) := by decide +kernel
theorem dX6_digest_199 : decode cX6_digest 199 = .ok (.ladd, 1) := by decide +kernel
theorem dX6_digest_200 : decode cX6_digest 200 = .ok (.ldc2_w 187, 3) := by decide +kernel
theorem dX6_digest_203 : decode cX6_digest 203 = .ok (.lmul, 1) := by decide +kernel
theorem dX6_digest_204 : decode cX6_digest 204 = .ok (.aload_n 0, 1) := by decide +kernel
theorem dX6_digest_205 : decode cX6_digest 205 = .ok (.getfield 176, 3) := by decide +kernel
theorem dX6_digest_208 : decode cX6_digest 208 = .ok (.i2l, 1) := by decide +kernel
theorem dX6_digest_209 : decode cX6_digest 209 = .ok (.ladd, 1) := by decide +kernel
theorem dX6_digest_210 : decode cX6_digest 210 = .ok (.lreturn, 1) := by decide +kernel
end
section
/-! The judgement J: a walk over one world 'wf st' (a state st of any type, its cells by wf), with the locals lv and the stack stk; the heap is hidden. -/
section JJ0
/-- the state of a system: arrays by number, ints by number -/
abbrev jS : Type := (Nat → Nat → Int32) × (Nat → Int32)
abbrev jaf (st : jS) (k : Nat) (f : Nat → Int32) : jS := (va_up st.1 k f, st.2)
abbrev jis (st : jS) (k : Nat) (v : Int32) : jS := (st.1, va_up st.2 k v)
def jag (st : jS) (k : Nat) (i : Int32) : Int32 := st.1 k i.toNatClampNeg
abbrev jas (st : jS) (k : Nat) (i v : Int32) : jS := jaf st k (upd (st.1 k) i.toNatClampNeg v)
/-- outside an array of n places -/
def job (i : Int32) (n : Nat) : Bool := decide (i < 0) || decide (n ≤ i.toNatClampNeg)
theorem job_in {i : Int32} {n : Nat} (h : job i n = false) : vp_in i n := by
  unfold job at h
  unfold vp_in
  simp only [Bool.or_eq_false_iff, decide_eq_false_iff_not] at h
  exact fun hq => hq.elim h.1 h.2
theorem job_of {i : Int32} {n : Nat} (h : vp_in i n) : job i n = false := by
  unfold job
  unfold vp_in at h
  simp only [Bool.or_eq_false_iff, decide_eq_false_iff_not]
  exact ⟨fun hq => h (Or.inl hq), fun hq => h (Or.inr hq)⟩
theorem job_else {α : Type} {i : Int32} {n : Nat} {X : Option α} {o : α} (h : (bif job i n then none else X) = some o) : vp_in i n ∧ X = some o := by
  cases hq : job i n with
  | true => rw [hq] at h; cases h
  | false => rw [hq] at h; exact ⟨job_in hq, h⟩
/-- not a truth value -/
def jnb (v : Int32) : Bool := decide (v &&& 1 ≠ v)
theorem jnb_else {α : Type} {v : Int32} {X : Option α} {o : α} (h : (bif jnb v then none else X) = some o) : narrow .boolean (.int v) = .int v ∧ X = some o := by
  cases hq : jnb v with
  | true => rw [hq] at h; cases h
  | false =>
    rw [hq] at h
    have h1 : v &&& 1 = v := by
      unfold jnb at hq
      simpa using hq
    exact ⟨by show Value.int (v &&& 1) = _; rw [h1], h⟩
theorem jit {α : Type} {c : Prop} {d : Decidable c} {X Y : Option α} {o : α} (h : (if c then X else Y) = some o) (hc : c) : X = some o := by rw [if_pos hc] at h; exact h
theorem jif {α : Type} {c : Prop} {d : Decidable c} {X Y : Option α} {o : α} (h : (if c then X else Y) = some o) (hc : ¬ c) : Y = some o := by rw [if_neg hc] at h; exact h
theorem jbd {α β : Type} {x : Option α} {K : α → Option β} {o : β} (h : x.bind K = some o) : ∃ r, x = some r ∧ K r = some o := by
  cases x with
  | none => cases h
  | some r => exact ⟨r, rfl, h⟩
/-- a named value -/
def jl {α β : Type} (v : α) (k : α → β) : β := k v
theorem jle {α β : Type} {v : α} {K : α → Option β} {o : β} (h : jl v K = some o) : ∃ y, v = y ∧ K y = some o := ⟨v, rfl, h⟩
theorem jguard {α : Type} {c : Prop} {d : Decidable c} {X : Option α} {o : α} (h : (if c then none else X) = some o) : ¬ c ∧ X = some o := by
  by_cases hc : c
  · rw [if_pos hc] at h; cases h
  · rw [if_neg hc] at h; exact ⟨hc, h⟩

/-- the links between nest mates -/
def jNf : List (String × Nat × String × String × String × String) := [("MemoParser", 136, "MemoParser$Search", "work", "I", "MemoParser"), ("MemoParser", 139, "MemoParser$Search", "hits", "I", "MemoParser"), ("MemoParser", 142, "MemoParser$Search", "growths", "I", "MemoParser"), ("MemoParser", 145, "MemoParser$Search", "farthest", "I", "MemoParser"), ("MemoParser", 151, "MemoParser$Memory", "results", "[I", "MemoParser"), ("MemoParser", 158, "MemoParser$Memory", "reaches", "[I", "MemoParser"), ("MemoParser", 77, "MemoParser$Grammar", "count", "I", "MemoParser"), ("MemoParser", 87, "MemoParser$Text", "size", "I", "MemoParser"), ("MemoParser$Search", 116, "MemoParser$Grammar", "ruleExpressions", "[I", "MemoParser"), ("MemoParser$Search", 122, "MemoParser$Progress", "asked", "[Z", "MemoParser"), ("MemoParser$Search", 126, "MemoParser$Progress", "seeds", "[I", "MemoParser"), ("MemoParser$Search", 143, "MemoParser$Memory", "names", "[I", "MemoParser"), ("MemoParser$Search", 150, "MemoParser$Memory", "reaches", "[I", "MemoParser"), ("MemoParser$Search", 156, "MemoParser$Memory", "results", "[I", "MemoParser"), ("MemoParser$Search", 159, "MemoParser$Progress", "numberOf", "[I", "MemoParser"), ("MemoParser$Search", 168, "MemoParser$Progress", "rules", "[I", "MemoParser"), ("MemoParser$Search", 171, "MemoParser$Progress", "places", "[I", "MemoParser"), ("MemoParser$Search", 174, "MemoParser$Progress", "reaches", "[I", "MemoParser"), ("MemoParser$Search", 175, "MemoParser$Progress", "names", "[I", "MemoParser"), ("MemoParser$Search", 56, "MemoParser$Grammar", "firsts", "[I", "MemoParser"), ("MemoParser$Search", 62, "MemoParser$Grammar", "seconds", "[I", "MemoParser"), ("MemoParser$Search", 65, "MemoParser$Grammar", "kinds", "[I", "MemoParser")]
def jNm : List (String × Nat × String × String × String × String) := [("MemoParser", 18, "MemoParser$Text", "<init>", "()V", "MemoParser"), ("MemoParser$Grammar", 54, "MemoParser", "bit", "(I)I", "MemoParser"), ("MemoParser$Grammar", 57, "MemoParser", "mix", "(JI)J", "MemoParser"), ("MemoParser$Memory", 39, "MemoParser", "mix", "(JI)J", "MemoParser"), ("MemoParser$Progress", 50, "MemoParser", "bit", "(I)I", "MemoParser"), ("MemoParser$Progress", 54, "MemoParser", "cell", "(II)I", "MemoParser"), ("MemoParser$Search", 137, "MemoParser", "cell", "(II)I", "MemoParser"), ("MemoParser$Text", 23, "MemoParser", "countBytes", "(J)I", "MemoParser"), ("MemoParser$Text", 33, "MemoParser", "packedByte", "(JI)I", "MemoParser"), ("MemoParser$Text", 37, "MemoParser", "mix", "(JI)J", "MemoParser")]
def jN (U : State) : Prop := (∀ q ∈ jNf, va_Nw (.fieldLinkNest q.1 q.2.1 q.2.2.1 q.2.2.2.1 q.2.2.2.2.1 q.2.2.2.2.2) U) ∧ ∀ q ∈ jNm, va_Nw (.methodLinkNest q.1 q.2.1 ⟨q.2.2.1, q.2.2.2.1, q.2.2.2.2.1⟩ q.2.2.2.2.2) U
theorem jN.warm {s U : State} (hW : s.WarmedH U.vm) (h : jN s) : jN U := ⟨fun q hq => va_Nw.warmF hW (h.1 q hq), fun q hq => va_Nw.warmM hW (h.2 q hq)⟩
theorem jN.same {s U : State} (hv : s.vm = U.vm) (h : jN s) : jN U := ⟨fun q hq => va_Nw.same rfl hv (h.1 q hq), fun q hq => va_Nw.same rfl hv (h.2 q hq)⟩
/-- what stays over a walk -/
def jE (p : Program) (s : State) (m : MethodId) (args : Array Value) (meth : Method) (c : Code) (cc : ByteArray) (nL : Nat) (own : String) (Ts : List Cond) (D : va_G) (tys : List (ClassId × FieldType)) (A : Nat → Prop) : Prop :=
  CallFix p m c cc nL s args Ts own ∧ meth.locks = false ∧ va_K D vwCl tys s ∧ jN s ∧ (∀ q : Nat, s.heap.size ≤ q → A q)
def J {S : Type} (p : Program) (l : Launch) (e : Env) (R : Room) (s : State) (m : MethodId) (args : Array Value) (below : List Frame) (meth : Method) (c : Code) (nL : Nat) (D : va_G) (A : Nat → Prop) (wf : S → va_W) (Q : State → Prop) (cells slots : Nat) (st : S) (pc : Nat) (lv : List (Nat × Value)) (stk : List Value) : Prop :=
  ∀ (H : Heap) (locs : List Loc) (ls : Array Slot), va_P D vwCl (wf st) H → va_D A (wf st) → va_S A s.heap H locs → lv_has ls nL lv → W p l e R s m args below meth c H locs cells slots Q (F0 m pc ls stk)
/-- a method's start -/
def jPc {S : Type} (D : va_G) (tys : List (ClassId × FieldType)) (wf : S → va_W) (av : List Value) (sz : Nat) (st : S) : Array Value → State → Prop :=
  va_Pc av (fun U => U.heap.size = sz ∧ va_P D vwCl (wf st) U.heap ∧ va_K D vwCl tys U ∧ jN U ∧ va_D (fun _ => True) (wf st))
/-- the world behind it -/
def jB {S : Type} (D : va_G) (wf : S → va_W) (A : Nat → Prop) (u : S) (t : State) : Prop := va_P D vwCl (wf u) t.heap ∧ va_D A (wf u)
def CtI {S : Type} (l : Launch) (D : va_G) (tys : List (ClassId × FieldType)) (wf : S → va_W) (y : MethodName) (ws : List Cond) (rm : Room) (av : List Value) (st : S) (r0 : Int32) (u0 : S) : Prop :=
  ∀ sz : Nat, Met l y ws rm (jPc D tys wf av sz st) (va_Qi (fun r u => r = r0 ∧ u = u0) (jB D wf (va_A (wf st) sz)) (va_A (wf st) sz)) 0 0 (va_A (wf st) sz)
def CtL {S : Type} (l : Launch) (D : va_G) (tys : List (ClassId × FieldType)) (wf : S → va_W) (y : MethodName) (ws : List Cond) (rm : Room) (av : List Value) (st : S) (r0 : Int64) (u0 : S) : Prop :=
  ∀ sz : Nat, Met l y ws rm (jPc D tys wf av sz st) (va_Ql (fun r u => r = r0 ∧ u = u0) (jB D wf (va_A (wf st) sz)) (va_A (wf st) sz)) 0 0 (va_A (wf st) sz)
def CtV {S : Type} (l : Launch) (D : va_G) (tys : List (ClassId × FieldType)) (wf : S → va_W) (y : MethodName) (ws : List Cond) (rm : Room) (av : List Value) (st : S) (o : S) : Prop :=
  ∀ sz : Nat, Met l y ws rm (jPc D tys wf av sz st) (va_Qv (fun u => u = o) (jB D wf (va_A (wf st) sz)) (va_A (wf st) sz)) 0 0 (va_A (wf st) sz)
def jZI {S : Type} (D : va_G) (wf : S → va_W) (A : Nat → Prop) (below : List Frame) (args : Array Value) (s : State) (o : Int32 × S) : State → Prop := MQ below (va_Qi (fun r u => r = o.1 ∧ u = o.2) (jB D wf A) A) args s 0 0 A
def jZL {S : Type} (D : va_G) (wf : S → va_W) (A : Nat → Prop) (below : List Frame) (args : Array Value) (s : State) (o : Int64 × S) : State → Prop := MQ below (va_Ql (fun r u => r = o.1 ∧ u = o.2) (jB D wf A) A) args s 0 0 A
def jZV {S : Type} (D : va_G) (wf : S → va_W) (A : Nat → Prop) (below : List Frame) (args : Array Value) (s : State) (o : S) : State → Prop := MQ below (va_Qv (fun u => u = o) (jB D wf A) A) args s 0 0 A
theorem jPc.blind {S : Type} {D : va_G} {tys : List (ClassId × FieldType)} {wf : S → va_W} {av : List Value} {sz : Nat} {st : S} : FrameBlind (jPc D tys wf av sz st) := by
  intro a U g mk q
  obtain ⟨q0, q1, qP, qK, qN, qD⟩ := q
  exact ⟨q0, q1, qP, va_K.moved (u := U) (U := U.calling g mk a) (Vm.Alike.refl U.vm) qK, jN.same (s := U) (U := U.calling g mk a) rfl qN, qD⟩
end JJ0
section JJ1
variable {p : Program} {l : Launch} {e : Env} {R : Room} {s : State} {m : MethodId} {args : Array Value} {below : List Frame} {meth : Method} {c : Code} {cells slots : Nat} {Q : State → Prop} {cc : ByteArray} {nL : Nat} {own : String} {Ts : List Cond} {D : va_G} {tys : List (ClassId × FieldType)} {A : Nat → Prop} {S : Type} {wf : S → va_W} {st st' : S} {pc : Nat} {lv lv' : List (Nat × Value)} {stk : List Value}
theorem j_iconst (E : jE p s m args meth c cc nL own Ts D tys A) {n : Int} {v : Int32} (hv : Int32.ofInt n = v) (hd : decode cc pc = .ok (.iconst n, 1)) (kk : J p l e R s m args below meth c nL D A wf Q cells slots st (pc + 1) lv (.int v :: stk)) : J p l e R s m args below meth c nL D A wf Q cells slots st pc lv stk :=
  fun H locs ls hP hD hS hl => lv_iconst E.1.1 E.1.2.1 hd hv (kk H locs ls hP hD hS hl)
theorem j_bipush (E : jE p s m args meth c cc nL own Ts D tys A) {n : Int} {v : Int32} (hv : (Int8.ofInt n).toInt32 = v) (hd : decode cc pc = .ok (.bipush n, 2)) (kk : J p l e R s m args below meth c nL D A wf Q cells slots st (pc + 2) lv (.int v :: stk)) : J p l e R s m args below meth c nL D A wf Q cells slots st pc lv stk :=
  fun H locs ls hP hD hS hl => lv_bipush E.1.1 E.1.2.1 hd hv (kk H locs ls hP hD hS hl)
theorem j_sipush (E : jE p s m args meth c cc nL own Ts D tys A) {n : Int} {v : Int32} (hv : (Int16.ofInt n).toInt32 = v) (hd : decode cc pc = .ok (.sipush n, 3)) (kk : J p l e R s m args below meth c nL D A wf Q cells slots st (pc + 3) lv (.int v :: stk)) : J p l e R s m args below meth c nL D A wf Q cells slots st pc lv stk :=
  fun H locs ls hP hD hS hl => lv_sipush E.1.1 E.1.2.1 hd hv (kk H locs ls hP hD hS hl)
theorem j_lconst (E : jE p s m args meth c cc nL own Ts D tys A) {n : Fin 2} {v : Int64} (hv : Int64.ofNat (n : Nat) = v) (hd : decode cc pc = .ok (.lconst n, 1)) (kk : J p l e R s m args below meth c nL D A wf Q cells slots st (pc + 1) lv (.long v :: stk)) : J p l e R s m args below meth c nL D A wf Q cells slots st pc lv stk :=
  fun H locs ls hP hD hS hl => lv_lconst E.1.1 E.1.2.1 hd hv (kk H locs ls hP hD hS hl)
theorem j_iload (E : jE p s m args meth c cc nL own Ts D tys A) {i : Nat} {x : Int32} (k : Nat) (hk : lv[k]? = some (i, .int x)) (hd : decode cc pc = .ok (.iload i, 2)) (kk : J p l e R s m args below meth c nL D A wf Q cells slots st (pc + 2) lv (.int x :: stk)) : J p l e R s m args below meth c nL D A wf Q cells slots st pc lv stk :=
  fun H locs ls hP hD hS hl => lv_iload E.1.1 E.1.2.1 hd (lv_at hl k hk) (kk H locs ls hP hD hS hl)
theorem j_iload_n (E : jE p s m args meth c cc nL own Ts D tys A) {kf : Fin 4} {i : Nat} {x : Int32} (k : Nat) (hk : lv[k]? = some (i, .int x)) (hi : (kf : Nat) = i) (hd : decode cc pc = .ok (.iload_n kf, 1)) (kk : J p l e R s m args below meth c nL D A wf Q cells slots st (pc + 1) lv (.int x :: stk)) : J p l e R s m args below meth c nL D A wf Q cells slots st pc lv stk :=
  fun H locs ls hP hD hS hl => lv_iload_n E.1.1 E.1.2.1 hd hi (lv_at hl k hk) (kk H locs ls hP hD hS hl)
theorem j_lload (E : jE p s m args meth c cc nL own Ts D tys A) {i : Nat} {x : Int64} (k : Nat) (hk : lv[k]? = some (i, .long x)) (hd : decode cc pc = .ok (.lload i, 2)) (kk : J p l e R s m args below meth c nL D A wf Q cells slots st (pc + 2) lv (.long x :: stk)) : J p l e R s m args below meth c nL D A wf Q cells slots st pc lv stk :=
  fun H locs ls hP hD hS hl => lv_lload E.1.1 E.1.2.1 hd (lv_at hl k hk) (kk H locs ls hP hD hS hl)
theorem j_lload_n (E : jE p s m args meth c cc nL own Ts D tys A) {kf : Fin 4} {i : Nat} {x : Int64} (k : Nat) (hk : lv[k]? = some (i, .long x)) (hi : (kf : Nat) = i) (hd : decode cc pc = .ok (.lload_n kf, 1)) (kk : J p l e R s m args below meth c nL D A wf Q cells slots st (pc + 1) lv (.long x :: stk)) : J p l e R s m args below meth c nL D A wf Q cells slots st pc lv stk :=
  fun H locs ls hP hD hS hl => lv_lload_n E.1.1 E.1.2.1 hd hi (lv_at hl k hk) (kk H locs ls hP hD hS hl)
theorem j_aload (E : jE p s m args meth c cc nL own Ts D tys A) {i : Nat} {x : Nat} (k : Nat) (hk : lv[k]? = some (i, .ref x)) (hd : decode cc pc = .ok (.aload i, 2)) (kk : J p l e R s m args below meth c nL D A wf Q cells slots st (pc + 2) lv (.ref x :: stk)) : J p l e R s m args below meth c nL D A wf Q cells slots st pc lv stk :=
  fun H locs ls hP hD hS hl => lv_aload E.1.1 E.1.2.1 hd (lv_at hl k hk) (kk H locs ls hP hD hS hl)
theorem j_aload_n (E : jE p s m args meth c cc nL own Ts D tys A) {kf : Fin 4} {i : Nat} {x : Nat} (k : Nat) (hk : lv[k]? = some (i, .ref x)) (hi : (kf : Nat) = i) (hd : decode cc pc = .ok (.aload_n kf, 1)) (kk : J p l e R s m args below meth c nL D A wf Q cells slots st (pc + 1) lv (.ref x :: stk)) : J p l e R s m args below meth c nL D A wf Q cells slots st pc lv stk :=
  fun H locs ls hP hD hS hl => lv_aload_n E.1.1 E.1.2.1 hd hi (lv_at hl k hk) (kk H locs ls hP hD hS hl)
theorem j_istore {i : Nat} (E : jE p s m args meth c cc nL own Ts D tys A) {x : Int32} (hn : i < nL) (hl' : (i, Value.int x) :: lv.filter (fun q => !(q.1 == i) && !(q.1 + 1 == i && q.2.category == 2)) = lv') (hd : decode cc pc = .ok (.istore i, 2)) (kk : J p l e R s m args below meth c nL D A wf Q cells slots st (pc + 2) lv' stk) : J p l e R s m args below meth c nL D A wf Q cells slots st pc lv (.int x :: stk) :=
  fun H locs ls hP hD hS hl => lv_istore E.1.1 E.1.2.1 hd hl hn hl' (fun ls' h' => kk H locs ls' hP hD hS h')
theorem j_istore_n {i : Nat} (E : jE p s m args meth c cc nL own Ts D tys A) {x : Int32} {kf : Fin 4} (hi : (kf : Nat) = i) (hn : i < nL) (hl' : (i, Value.int x) :: lv.filter (fun q => !(q.1 == i) && !(q.1 + 1 == i && q.2.category == 2)) = lv') (hd : decode cc pc = .ok (.istore_n kf, 1)) (kk : J p l e R s m args below meth c nL D A wf Q cells slots st (pc + 1) lv' stk) : J p l e R s m args below meth c nL D A wf Q cells slots st pc lv (.int x :: stk) :=
  fun H locs ls hP hD hS hl => lv_istore_n E.1.1 E.1.2.1 hd hi hl hn hl' (fun ls' h' => kk H locs ls' hP hD hS h')
theorem j_lstore {i : Nat} (E : jE p s m args meth c cc nL own Ts D tys A) {x : Int64} (hn : i + 1 < nL) (hl' : (i, Value.long x) :: lv.filter (fun q => !(q.1 == i) && (!(q.1 == i + 1) && !(q.1 + 1 == i && q.2.category == 2))) = lv') (hd : decode cc pc = .ok (.lstore i, 2)) (kk : J p l e R s m args below meth c nL D A wf Q cells slots st (pc + 2) lv' stk) : J p l e R s m args below meth c nL D A wf Q cells slots st pc lv (.long x :: stk) :=
  fun H locs ls hP hD hS hl => lv_lstore E.1.1 E.1.2.1 hd hl hn hl' (fun ls' h' => kk H locs ls' hP hD hS h')
theorem j_lstore_n {i : Nat} (E : jE p s m args meth c cc nL own Ts D tys A) {x : Int64} {kf : Fin 4} (hi : (kf : Nat) = i) (hn : i + 1 < nL) (hl' : (i, Value.long x) :: lv.filter (fun q => !(q.1 == i) && (!(q.1 == i + 1) && !(q.1 + 1 == i && q.2.category == 2))) = lv') (hd : decode cc pc = .ok (.lstore_n kf, 1)) (kk : J p l e R s m args below meth c nL D A wf Q cells slots st (pc + 1) lv' stk) : J p l e R s m args below meth c nL D A wf Q cells slots st pc lv (.long x :: stk) :=
  fun H locs ls hP hD hS hl => lv_lstore_n E.1.1 E.1.2.1 hd hi hl hn hl' (fun ls' h' => kk H locs ls' hP hD hS h')
theorem j_astore {i : Nat} (E : jE p s m args meth c cc nL own Ts D tys A) {x : Nat} (hn : i < nL) (hl' : (i, Value.ref x) :: lv.filter (fun q => !(q.1 == i) && !(q.1 + 1 == i && q.2.category == 2)) = lv') (hd : decode cc pc = .ok (.astore i, 2)) (kk : J p l e R s m args below meth c nL D A wf Q cells slots st (pc + 2) lv' stk) : J p l e R s m args below meth c nL D A wf Q cells slots st pc lv (.ref x :: stk) :=
  fun H locs ls hP hD hS hl => lv_astore E.1.1 E.1.2.1 hd hl hn hl' (fun ls' h' => kk H locs ls' hP hD hS h')
theorem j_astore_n {i : Nat} (E : jE p s m args meth c cc nL own Ts D tys A) {x : Nat} {kf : Fin 4} (hi : (kf : Nat) = i) (hn : i < nL) (hl' : (i, Value.ref x) :: lv.filter (fun q => !(q.1 == i) && !(q.1 + 1 == i && q.2.category == 2)) = lv') (hd : decode cc pc = .ok (.astore_n kf, 1)) (kk : J p l e R s m args below meth c nL D A wf Q cells slots st (pc + 1) lv' stk) : J p l e R s m args below meth c nL D A wf Q cells slots st pc lv (.ref x :: stk) :=
  fun H locs ls hP hD hS hl => lv_astore_n E.1.1 E.1.2.1 hd hi hl hn hl' (fun ls' h' => kk H locs ls' hP hD hS h')
theorem j_iinc (E : jE p s m args meth c cc nL own Ts D tys A) {i : Nat} {n : Int} {x y v : Int32} (k : Nat) (hk : lv[k]? = some (i, .int x)) (hy : Int32.ofInt n = y) (hv : x + y = v) (hn : i < nL) (hl' : (i, Value.int v) :: lv.filter (fun q => !(q.1 == i) && !(q.1 + 1 == i && q.2.category == 2)) = lv') (hd : decode cc pc = .ok (.iinc i n, 3)) (kk : J p l e R s m args below meth c nL D A wf Q cells slots st (pc + 3) lv' stk) : J p l e R s m args below meth c nL D A wf Q cells slots st pc lv stk :=
  fun H locs ls hP hD hS hl => lv_iinc E.1.1 E.1.2.1 hd hl hk (by rw [hy]; exact hv) hn hl' (fun ls' h' => kk H locs ls' hP hD hS h')
theorem j_iadd (E : jE p s m args meth c cc nL own Ts D tys A) {x y : Int32} (hd : decode cc pc = .ok (.iadd, 1)) (kk : J p l e R s m args below meth c nL D A wf Q cells slots st (pc + 1) lv (.int (x + y) :: stk)) : J p l e R s m args below meth c nL D A wf Q cells slots st pc lv (.int y :: .int x :: stk) :=
  fun H locs ls hP hD hS hl => lv_iadd E.1.1 E.1.2.1 hd  (kk H locs ls hP hD hS hl)
theorem j_isub (E : jE p s m args meth c cc nL own Ts D tys A) {x y : Int32} (hd : decode cc pc = .ok (.isub, 1)) (kk : J p l e R s m args below meth c nL D A wf Q cells slots st (pc + 1) lv (.int (x - y) :: stk)) : J p l e R s m args below meth c nL D A wf Q cells slots st pc lv (.int y :: .int x :: stk) :=
  fun H locs ls hP hD hS hl => lv_isub E.1.1 E.1.2.1 hd  (kk H locs ls hP hD hS hl)
theorem j_imul (E : jE p s m args meth c cc nL own Ts D tys A) {x y : Int32} (hd : decode cc pc = .ok (.imul, 1)) (kk : J p l e R s m args below meth c nL D A wf Q cells slots st (pc + 1) lv (.int (x * y) :: stk)) : J p l e R s m args below meth c nL D A wf Q cells slots st pc lv (.int y :: .int x :: stk) :=
  fun H locs ls hP hD hS hl => lv_imul E.1.1 E.1.2.1 hd  (kk H locs ls hP hD hS hl)
theorem j_iand (E : jE p s m args meth c cc nL own Ts D tys A) {x y : Int32} (hd : decode cc pc = .ok (.iand, 1)) (kk : J p l e R s m args below meth c nL D A wf Q cells slots st (pc + 1) lv (.int (x &&& y) :: stk)) : J p l e R s m args below meth c nL D A wf Q cells slots st pc lv (.int y :: .int x :: stk) :=
  fun H locs ls hP hD hS hl => lv_iand E.1.1 E.1.2.1 hd  (kk H locs ls hP hD hS hl)
theorem j_ior (E : jE p s m args meth c cc nL own Ts D tys A) {x y : Int32} (hd : decode cc pc = .ok (.ior, 1)) (kk : J p l e R s m args below meth c nL D A wf Q cells slots st (pc + 1) lv (.int (x ||| y) :: stk)) : J p l e R s m args below meth c nL D A wf Q cells slots st pc lv (.int y :: .int x :: stk) :=
  fun H locs ls hP hD hS hl => lv_ior E.1.1 E.1.2.1 hd  (kk H locs ls hP hD hS hl)
theorem j_ixor (E : jE p s m args meth c cc nL own Ts D tys A) {x y : Int32} (hd : decode cc pc = .ok (.ixor, 1)) (kk : J p l e R s m args below meth c nL D A wf Q cells slots st (pc + 1) lv (.int (x ^^^ y) :: stk)) : J p l e R s m args below meth c nL D A wf Q cells slots st pc lv (.int y :: .int x :: stk) :=
  fun H locs ls hP hD hS hl => lv_ixor E.1.1 E.1.2.1 hd  (kk H locs ls hP hD hS hl)
theorem j_ishl (E : jE p s m args meth c cc nL own Ts D tys A) {x y : Int32} (hd : decode cc pc = .ok (.ishl, 1)) (kk : J p l e R s m args below meth c nL D A wf Q cells slots st (pc + 1) lv (.int (x <<< (y &&& 31)) :: stk)) : J p l e R s m args below meth c nL D A wf Q cells slots st pc lv (.int y :: .int x :: stk) :=
  fun H locs ls hP hD hS hl => lv_ishl E.1.1 E.1.2.1 hd  (kk H locs ls hP hD hS hl)
theorem j_ishr (E : jE p s m args meth c cc nL own Ts D tys A) {x y : Int32} (hd : decode cc pc = .ok (.ishr, 1)) (kk : J p l e R s m args below meth c nL D A wf Q cells slots st (pc + 1) lv (.int (x >>> (y &&& 31)) :: stk)) : J p l e R s m args below meth c nL D A wf Q cells slots st pc lv (.int y :: .int x :: stk) :=
  fun H locs ls hP hD hS hl => lv_ishr E.1.1 E.1.2.1 hd  (kk H locs ls hP hD hS hl)
theorem j_idiv (E : jE p s m args meth c cc nL own Ts D tys A) {x y : Int32} (hne : ¬ y = 0) (hd : decode cc pc = .ok (.idiv, 1)) (kk : J p l e R s m args below meth c nL D A wf Q cells slots st (pc + 1) lv (.int (x / y) :: stk)) : J p l e R s m args below meth c nL D A wf Q cells slots st pc lv (.int y :: .int x :: stk) :=
  fun H locs ls hP hD hS hl => lv_idiv E.1.1 E.1.2.1 hd hne (kk H locs ls hP hD hS hl)
theorem j_irem (E : jE p s m args meth c cc nL own Ts D tys A) {x y : Int32} (hne : ¬ y = 0) (hd : decode cc pc = .ok (.irem, 1)) (kk : J p l e R s m args below meth c nL D A wf Q cells slots st (pc + 1) lv (.int (x - x / y * y) :: stk)) : J p l e R s m args below meth c nL D A wf Q cells slots st pc lv (.int y :: .int x :: stk) :=
  fun H locs ls hP hD hS hl => lv_irem E.1.1 E.1.2.1 hd hne (kk H locs ls hP hD hS hl)
theorem j_ladd (E : jE p s m args meth c cc nL own Ts D tys A) {x y : Int64} (hd : decode cc pc = .ok (.ladd, 1)) (kk : J p l e R s m args below meth c nL D A wf Q cells slots st (pc + 1) lv (.long (x + y) :: stk)) : J p l e R s m args below meth c nL D A wf Q cells slots st pc lv (.long y :: .long x :: stk) :=
  fun H locs ls hP hD hS hl => lv_ladd E.1.1 E.1.2.1 hd  (kk H locs ls hP hD hS hl)
theorem j_lmul (E : jE p s m args meth c cc nL own Ts D tys A) {x y : Int64} (hd : decode cc pc = .ok (.lmul, 1)) (kk : J p l e R s m args below meth c nL D A wf Q cells slots st (pc + 1) lv (.long (x * y) :: stk)) : J p l e R s m args below meth c nL D A wf Q cells slots st pc lv (.long y :: .long x :: stk) :=
  fun H locs ls hP hD hS hl => lv_lmul E.1.1 E.1.2.1 hd  (kk H locs ls hP hD hS hl)
theorem j_land (E : jE p s m args meth c cc nL own Ts D tys A) {x y : Int64} (hd : decode cc pc = .ok (.land, 1)) (kk : J p l e R s m args below meth c nL D A wf Q cells slots st (pc + 1) lv (.long (x &&& y) :: stk)) : J p l e R s m args below meth c nL D A wf Q cells slots st pc lv (.long y :: .long x :: stk) :=
  fun H locs ls hP hD hS hl => lv_land E.1.1 E.1.2.1 hd  (kk H locs ls hP hD hS hl)
theorem j_lor (E : jE p s m args meth c cc nL own Ts D tys A) {x y : Int64} (hd : decode cc pc = .ok (.lor, 1)) (kk : J p l e R s m args below meth c nL D A wf Q cells slots st (pc + 1) lv (.long (x ||| y) :: stk)) : J p l e R s m args below meth c nL D A wf Q cells slots st pc lv (.long y :: .long x :: stk) :=
  fun H locs ls hP hD hS hl => lv_lor E.1.1 E.1.2.1 hd  (kk H locs ls hP hD hS hl)
theorem j_lushr (E : jE p s m args meth c cc nL own Ts D tys A) {x : Int64} {y : Int32} (hd : decode cc pc = .ok (.lushr, 1)) (kk : J p l e R s m args below meth c nL D A wf Q cells slots st (pc + 1) lv (.long ((x.toUInt64 >>> (y.toInt64.toUInt64 &&& Int64.toUInt64 63)).toInt64) :: stk)) : J p l e R s m args below meth c nL D A wf Q cells slots st pc lv (.int y :: .long x :: stk) :=
  fun H locs ls hP hD hS hl => lv_lushr E.1.1 E.1.2.1 hd rfl (kk H locs ls hP hD hS hl)
theorem j_lshl (E : jE p s m args meth c cc nL own Ts D tys A) {x : Int64} {y : Int32} (hd : decode cc pc = .ok (.lshl, 1)) (kk : J p l e R s m args below meth c nL D A wf Q cells slots st (pc + 1) lv (.long (x <<< (y.toInt64 &&& 63)) :: stk)) : J p l e R s m args below meth c nL D A wf Q cells slots st pc lv (.int y :: .long x :: stk) :=
  fun H locs ls hP hD hS hl => lv_lshl E.1.1 E.1.2.1 hd rfl (kk H locs ls hP hD hS hl)
theorem j_lshr (E : jE p s m args meth c cc nL own Ts D tys A) {x : Int64} {y : Int32} (hd : decode cc pc = .ok (.lshr, 1)) (kk : J p l e R s m args below meth c nL D A wf Q cells slots st (pc + 1) lv (.long (x >>> (y.toInt64 &&& 63)) :: stk)) : J p l e R s m args below meth c nL D A wf Q cells slots st pc lv (.int y :: .long x :: stk) :=
  fun H locs ls hP hD hS hl => lv_lshr E.1.1 E.1.2.1 hd rfl (kk H locs ls hP hD hS hl)
theorem j_i2l (E : jE p s m args meth c cc nL own Ts D tys A) {x : Int32} (hd : decode cc pc = .ok (.i2l, 1)) (kk : J p l e R s m args below meth c nL D A wf Q cells slots st (pc + 1) lv (.long x.toInt64 :: stk)) : J p l e R s m args below meth c nL D A wf Q cells slots st pc lv (.int x :: stk) :=
  fun H locs ls hP hD hS hl => lv_i2l E.1.1 E.1.2.1 hd rfl (kk H locs ls hP hD hS hl)
theorem j_l2i (E : jE p s m args meth c cc nL own Ts D tys A) {x : Int64} (hd : decode cc pc = .ok (.l2i, 1)) (kk : J p l e R s m args below meth c nL D A wf Q cells slots st (pc + 1) lv (.int x.toInt32 :: stk)) : J p l e R s m args below meth c nL D A wf Q cells slots st pc lv (.long x :: stk) :=
  fun H locs ls hP hD hS hl => lv_l2i E.1.1 E.1.2.1 hd rfl (kk H locs ls hP hD hS hl)
theorem j_dup (E : jE p s m args meth c cc nL own Ts D tys A) {va : Value} (hva : va.category = 1) (hd : decode cc pc = .ok (.dup, 1)) (kk : J p l e R s m args below meth c nL D A wf Q cells slots st (pc + 1) lv (va :: va :: stk)) : J p l e R s m args below meth c nL D A wf Q cells slots st pc lv (va :: stk) :=
  fun H locs ls hP hD hS hl => lv_dup E.1.1 E.1.2.1 hd hva (kk H locs ls hP hD hS hl)
theorem j_pop (E : jE p s m args meth c cc nL own Ts D tys A) {va : Value} (hva : va.category = 1) (hd : decode cc pc = .ok (.pop, 1)) (kk : J p l e R s m args below meth c nL D A wf Q cells slots st (pc + 1) lv stk) : J p l e R s m args below meth c nL D A wf Q cells slots st pc lv (va :: stk) :=
  fun H locs ls hP hD hS hl => lv_pop E.1.1 E.1.2.1 hd hva (kk H locs ls hP hD hS hl)
theorem j_dup2 (E : jE p s m args meth c cc nL own Ts D tys A) {va vb : Value} (hva : va.category = 1) (hvb : vb.category = 1) (hd : decode cc pc = .ok (.dup2, 1)) (kk : J p l e R s m args below meth c nL D A wf Q cells slots st (pc + 1) lv (va :: vb :: va :: vb :: stk)) : J p l e R s m args below meth c nL D A wf Q cells slots st pc lv (va :: vb :: stk) :=
  fun H locs ls hP hD hS hl => lv_dup2_11 E.1.1 E.1.2.1 hd hva hvb (kk H locs ls hP hD hS hl)
theorem j_lcmp (E : jE p s m args meth c cc nL own Ts D tys A) {x y : Int64} (hd : decode cc pc = .ok (.lcmp, 1)) (kk : J p l e R s m args below meth c nL D A wf Q cells slots st (pc + 1) lv (.int (lg_cmp x y) :: stk)) : J p l e R s m args below meth c nL D A wf Q cells slots st pc lv (.long y :: .long x :: stk) :=
  fun H locs ls hP hD hS hl => W.lcmp E.1.1 E.1.2.1 hd (kk H locs ls hP hD hS hl)
theorem j_if_eq (E : jE p s m args meth c cc nL own Ts D tys A) {x : Int32} {off : Int} {tgt : Nat} (ht : (pc : Int) + off = (tgt : Int)) (hd : decode cc pc = .ok (.ifCond .eq off, 3)) (kt : x = 0 → J p l e R s m args below meth c nL D A wf Q cells slots st tgt lv stk) (kf : ¬ x = 0 → J p l e R s m args below meth c nL D A wf Q cells slots st (pc + 3) lv stk) : J p l e R s m args below meth c nL D A wf Q cells slots st pc lv (.int x :: stk) :=
  fun H locs ls hP hD hS hl => lv_if_eq E.1.1 E.1.2.1 hd ht (fun q => kt q H locs ls hP hD hS hl) (fun q => kf q H locs ls hP hD hS hl)
theorem j_icmp_eq (E : jE p s m args meth c cc nL own Ts D tys A) {x y : Int32} {off : Int} {tgt : Nat} (ht : (pc : Int) + off = (tgt : Int)) (hd : decode cc pc = .ok (.if_icmp .eq off, 3)) (kt : x = y → J p l e R s m args below meth c nL D A wf Q cells slots st tgt lv stk) (kf : ¬ x = y → J p l e R s m args below meth c nL D A wf Q cells slots st (pc + 3) lv stk) : J p l e R s m args below meth c nL D A wf Q cells slots st pc lv (.int y :: .int x :: stk) :=
  fun H locs ls hP hD hS hl => lv_icmp_eq E.1.1 E.1.2.1 hd ht (fun q => kt q H locs ls hP hD hS hl) (fun q => kf q H locs ls hP hD hS hl)
theorem j_if_ne (E : jE p s m args meth c cc nL own Ts D tys A) {x : Int32} {off : Int} {tgt : Nat} (ht : (pc : Int) + off = (tgt : Int)) (hd : decode cc pc = .ok (.ifCond .ne off, 3)) (kt : ¬ x = 0 → J p l e R s m args below meth c nL D A wf Q cells slots st tgt lv stk) (kf : x = 0 → J p l e R s m args below meth c nL D A wf Q cells slots st (pc + 3) lv stk) : J p l e R s m args below meth c nL D A wf Q cells slots st pc lv (.int x :: stk) :=
  fun H locs ls hP hD hS hl => lv_if_ne E.1.1 E.1.2.1 hd ht (fun q => kt q H locs ls hP hD hS hl) (fun q => kf q H locs ls hP hD hS hl)
theorem j_icmp_ne (E : jE p s m args meth c cc nL own Ts D tys A) {x y : Int32} {off : Int} {tgt : Nat} (ht : (pc : Int) + off = (tgt : Int)) (hd : decode cc pc = .ok (.if_icmp .ne off, 3)) (kt : ¬ x = y → J p l e R s m args below meth c nL D A wf Q cells slots st tgt lv stk) (kf : x = y → J p l e R s m args below meth c nL D A wf Q cells slots st (pc + 3) lv stk) : J p l e R s m args below meth c nL D A wf Q cells slots st pc lv (.int y :: .int x :: stk) :=
  fun H locs ls hP hD hS hl => lv_icmp_ne E.1.1 E.1.2.1 hd ht (fun q => kt q H locs ls hP hD hS hl) (fun q => kf q H locs ls hP hD hS hl)
theorem j_if_lt (E : jE p s m args meth c cc nL own Ts D tys A) {x : Int32} {off : Int} {tgt : Nat} (ht : (pc : Int) + off = (tgt : Int)) (hd : decode cc pc = .ok (.ifCond .lt off, 3)) (kt : x < 0 → J p l e R s m args below meth c nL D A wf Q cells slots st tgt lv stk) (kf : ¬ x < 0 → J p l e R s m args below meth c nL D A wf Q cells slots st (pc + 3) lv stk) : J p l e R s m args below meth c nL D A wf Q cells slots st pc lv (.int x :: stk) :=
  fun H locs ls hP hD hS hl => lv_if_lt E.1.1 E.1.2.1 hd ht (fun q => kt q H locs ls hP hD hS hl) (fun q => kf q H locs ls hP hD hS hl)
theorem j_icmp_lt (E : jE p s m args meth c cc nL own Ts D tys A) {x y : Int32} {off : Int} {tgt : Nat} (ht : (pc : Int) + off = (tgt : Int)) (hd : decode cc pc = .ok (.if_icmp .lt off, 3)) (kt : x < y → J p l e R s m args below meth c nL D A wf Q cells slots st tgt lv stk) (kf : ¬ x < y → J p l e R s m args below meth c nL D A wf Q cells slots st (pc + 3) lv stk) : J p l e R s m args below meth c nL D A wf Q cells slots st pc lv (.int y :: .int x :: stk) :=
  fun H locs ls hP hD hS hl => lv_icmp_lt E.1.1 E.1.2.1 hd ht (fun q => kt q H locs ls hP hD hS hl) (fun q => kf q H locs ls hP hD hS hl)
theorem j_if_ge (E : jE p s m args meth c cc nL own Ts D tys A) {x : Int32} {off : Int} {tgt : Nat} (ht : (pc : Int) + off = (tgt : Int)) (hd : decode cc pc = .ok (.ifCond .ge off, 3)) (kt : x ≥ 0 → J p l e R s m args below meth c nL D A wf Q cells slots st tgt lv stk) (kf : ¬ x ≥ 0 → J p l e R s m args below meth c nL D A wf Q cells slots st (pc + 3) lv stk) : J p l e R s m args below meth c nL D A wf Q cells slots st pc lv (.int x :: stk) :=
  fun H locs ls hP hD hS hl => lv_if_ge E.1.1 E.1.2.1 hd ht (fun q => kt q H locs ls hP hD hS hl) (fun q => kf q H locs ls hP hD hS hl)
theorem j_icmp_ge (E : jE p s m args meth c cc nL own Ts D tys A) {x y : Int32} {off : Int} {tgt : Nat} (ht : (pc : Int) + off = (tgt : Int)) (hd : decode cc pc = .ok (.if_icmp .ge off, 3)) (kt : x ≥ y → J p l e R s m args below meth c nL D A wf Q cells slots st tgt lv stk) (kf : ¬ x ≥ y → J p l e R s m args below meth c nL D A wf Q cells slots st (pc + 3) lv stk) : J p l e R s m args below meth c nL D A wf Q cells slots st pc lv (.int y :: .int x :: stk) :=
  fun H locs ls hP hD hS hl => lv_icmp_ge E.1.1 E.1.2.1 hd ht (fun q => kt q H locs ls hP hD hS hl) (fun q => kf q H locs ls hP hD hS hl)
theorem j_if_gt (E : jE p s m args meth c cc nL own Ts D tys A) {x : Int32} {off : Int} {tgt : Nat} (ht : (pc : Int) + off = (tgt : Int)) (hd : decode cc pc = .ok (.ifCond .gt off, 3)) (kt : x > 0 → J p l e R s m args below meth c nL D A wf Q cells slots st tgt lv stk) (kf : ¬ x > 0 → J p l e R s m args below meth c nL D A wf Q cells slots st (pc + 3) lv stk) : J p l e R s m args below meth c nL D A wf Q cells slots st pc lv (.int x :: stk) :=
  fun H locs ls hP hD hS hl => lv_if_gt E.1.1 E.1.2.1 hd ht (fun q => kt q H locs ls hP hD hS hl) (fun q => kf q H locs ls hP hD hS hl)
theorem j_icmp_gt (E : jE p s m args meth c cc nL own Ts D tys A) {x y : Int32} {off : Int} {tgt : Nat} (ht : (pc : Int) + off = (tgt : Int)) (hd : decode cc pc = .ok (.if_icmp .gt off, 3)) (kt : x > y → J p l e R s m args below meth c nL D A wf Q cells slots st tgt lv stk) (kf : ¬ x > y → J p l e R s m args below meth c nL D A wf Q cells slots st (pc + 3) lv stk) : J p l e R s m args below meth c nL D A wf Q cells slots st pc lv (.int y :: .int x :: stk) :=
  fun H locs ls hP hD hS hl => lv_icmp_gt E.1.1 E.1.2.1 hd ht (fun q => kt q H locs ls hP hD hS hl) (fun q => kf q H locs ls hP hD hS hl)
theorem j_if_le (E : jE p s m args meth c cc nL own Ts D tys A) {x : Int32} {off : Int} {tgt : Nat} (ht : (pc : Int) + off = (tgt : Int)) (hd : decode cc pc = .ok (.ifCond .le off, 3)) (kt : x ≤ 0 → J p l e R s m args below meth c nL D A wf Q cells slots st tgt lv stk) (kf : ¬ x ≤ 0 → J p l e R s m args below meth c nL D A wf Q cells slots st (pc + 3) lv stk) : J p l e R s m args below meth c nL D A wf Q cells slots st pc lv (.int x :: stk) :=
  fun H locs ls hP hD hS hl => lv_if_le E.1.1 E.1.2.1 hd ht (fun q => kt q H locs ls hP hD hS hl) (fun q => kf q H locs ls hP hD hS hl)
theorem j_icmp_le (E : jE p s m args meth c cc nL own Ts D tys A) {x y : Int32} {off : Int} {tgt : Nat} (ht : (pc : Int) + off = (tgt : Int)) (hd : decode cc pc = .ok (.if_icmp .le off, 3)) (kt : x ≤ y → J p l e R s m args below meth c nL D A wf Q cells slots st tgt lv stk) (kf : ¬ x ≤ y → J p l e R s m args below meth c nL D A wf Q cells slots st (pc + 3) lv stk) : J p l e R s m args below meth c nL D A wf Q cells slots st pc lv (.int y :: .int x :: stk) :=
  fun H locs ls hP hD hS hl => lv_icmp_le E.1.1 E.1.2.1 hd ht (fun q => kt q H locs ls hP hD hS hl) (fun q => kf q H locs ls hP hD hS hl)
theorem j_goto (E : jE p s m args meth c cc nL own Ts D tys A) {off : Int} {tgt : Nat} (ht : (pc : Int) + off = (tgt : Int)) (hd : decode cc pc = .ok (.goto off, 3)) (kk : J p l e R s m args below meth c nL D A wf Q cells slots st tgt lv stk) : J p l e R s m args below meth c nL D A wf Q cells slots st pc lv stk :=
  fun H locs ls hP hD hS hl => lv_goto E.1.1 E.1.2.1 hd ht (kk H locs ls hP hD hS hl)
theorem j_tableIn (E : jE p s m args meth c cc nL own Ts D tys A) {dflt lo hi : Int} {offs : Array Int} {len : Nat} {x : Int32} {off : Int} {tgt : Nat} (hd : decode cc pc = .ok (.tableswitch dflt lo hi offs, len)) (h1 : ¬ x.toInt < lo) (h2 : ¬ hi < x.toInt) (ho : offs[(x.toInt - lo).toNat]? = some off) (ht : (pc : Int) + off = (tgt : Int)) (kk : J p l e R s m args below meth c nL D A wf Q cells slots st tgt lv stk) : J p l e R s m args below meth c nL D A wf Q cells slots st pc lv (.int x :: stk) :=
  fun H locs ls hP hD hS hl => lv_tableIn E.1.1 E.1.2.1 hd h1 h2 ho ht (kk H locs ls hP hD hS hl)
theorem j_tableOut (E : jE p s m args meth c cc nL own Ts D tys A) {dflt lo hi : Int} {offs : Array Int} {len : Nat} {x : Int32} {tgt : Nat} (hd : decode cc pc = .ok (.tableswitch dflt lo hi offs, len)) (h : x.toInt < lo ∨ hi < x.toInt) (ht : (pc : Int) + dflt = (tgt : Int)) (kk : J p l e R s m args below meth c nL D A wf Q cells slots st tgt lv stk) : J p l e R s m args below meth c nL D A wf Q cells slots st pc lv (.int x :: stk) :=
  fun H locs ls hP hD hS hl => lv_tableOut E.1.1 E.1.2.1 hd h ht (kk H locs ls hP hD hS hl)
theorem j_ldc2 (E : jE p s m args meth c cc nL own Ts D tys A) {index : Nat} {v : Int64} (hw : Jvm.Cond.constantLong own index v ∈ Ts) (hd : decode cc pc = .ok (.ldc2_w index, 3)) (kk : J p l e R s m args below meth c nL D A wf Q cells slots st (pc + 3) lv (.long v :: stk)) : J p l e R s m args below meth c nL D A wf Q cells slots st pc lv stk :=
  fun H locs ls hP hD hS hl => lv_ldc2 E.1.1 E.1.2.1 E.1.2.2.2.1 (E.1.2.2.2.2 _ hw) hd (kk H locs ls hP hD hS hl)
theorem j_sub (ks : List Nat) (hl' : lv_pick lv ks = lv') (kk : J p l e R s m args below meth c nL D A wf Q cells slots st pc lv' stk) : J p l e R s m args below meth c nL D A wf Q cells slots st pc lv stk :=
  fun H locs ls hP hD hS hl => kk H locs ls hP hD hS (lv_sub hl ks hl')
theorem j_topi {x y : Int32} (h : x = y) (kk : J p l e R s m args below meth c nL D A wf Q cells slots st pc lv (.int y :: stk)) : J p l e R s m args below meth c nL D A wf Q cells slots st pc lv (.int x :: stk) := by subst h; exact kk
theorem j_topl {x y : Int64} (h : x = y) (kk : J p l e R s m args below meth c nL D A wf Q cells slots st pc lv (.long y :: stk)) : J p l e R s m args below meth c nL D A wf Q cells slots st pc lv (.long x :: stk) := by subst h; exact kk
theorem j_st (h : st = st') (kk : J p l e R s m args below meth c nL D A wf Q cells slots st' pc lv stk) : J p l e R s m args below meth c nL D A wf Q cells slots st pc lv stk := by subst h; exact kk
theorem j_get (E : jE p s m args meth c cc nL own Ts D tys A) {ref C : String} {T : u_T} {N ci index a : Nat} (q0 : Nat) {fs : List Value} (he : (wf st)[q0]? = some (a, .inr (ci, fs))) (hc : vwCl[ci]? = some (C, T, N)) (k : Nat) {v : Value} (hv : fs[k]? = some v) (hin : ∀ w ∈ u_ws C T N, w ∈ Ts) (hk : k < N) (hlink : Cond.fieldLink own index ref (T k).2.1 (T k).2.2.1 ∈ Ts) (hsame : ∀ x, s.fieldFound? (T k).1 (T k).2.1 (T k).2.2.1 = some x → s.fieldFound? ref (T k).2.1 (T k).2.2.1 = some x) (hd : decode cc pc = .ok (.getfield index, 3)) (kk : J p l e R s m args below meth c nL D A wf Q cells slots st (pc + 3) lv (v :: stk)) : J p l e R s m args below meth c nL D A wf Q cells slots st pc lv (.ref a :: stk) :=
  fun H locs ls hP hD hS hl => va_get E.1.1 E.1.2.1 E.1.2.2.2.2 hin E.1.2.2.2.1 E.2.2.1 hP q0 he hc k hk (E.1.2.2.2.2 _ hlink) hsame hv hd (kk H locs ls hP hD hS hl)
theorem j_getN (E : jE p s m args meth c cc nL own Ts D tys A) {ref C host : String} {T : u_T} {N ci index a : Nat} (q0 : Nat) {fs : List Value} (he : (wf st)[q0]? = some (a, .inr (ci, fs))) (hc : vwCl[ci]? = some (C, T, N)) (k : Nat) {v : Value} (hv : fs[k]? = some v) (hin : ∀ w ∈ u_ws C T N, w ∈ Ts) (hk : k < N) (hlink : va_Nw (.fieldLinkNest own index ref (T k).2.1 (T k).2.2.1 host) s) (hsame : ∀ x, s.fieldFound? (T k).1 (T k).2.1 (T k).2.2.1 = some x → s.fieldFound? ref (T k).2.1 (T k).2.2.1 = some x) (hd : decode cc pc = .ok (.getfield index, 3)) (kk : J p l e R s m args below meth c nL D A wf Q cells slots st (pc + 3) lv (v :: stk)) : J p l e R s m args below meth c nL D A wf Q cells slots st pc lv (.ref a :: stk) :=
  fun H locs ls hP hD hS hl => va_getN E.1.1 E.1.2.1 E.1.2.2.2.2 hin E.1.2.2.2.1 E.2.2.1 hP q0 he hc k hk (va_Nw.use rfl hlink) hsame hv hd (kk H locs ls hP hD hS hl)
theorem j_put (E : jE p s m args meth c cc nL own Ts D tys A) {ref C : String} {T : u_T} {N ci index a : Nat} {ty0 : Nat → FieldType} (q0 : Nat) {fs : List Value} (he : (wf st)[q0]? = some (a, .inr (ci, fs))) (hc : vwCl[ci]? = some (C, T, N)) (k : Nat) {ty : FieldType} {v : Value} (hset : (wf st).set q0 (a, .inr (ci, fs.set k v)) = wf st') (hty : ∀ k, k < N → parseFieldDescriptor (T k).2.2.1 = some (ty0 k)) (hnm : ∀ a, a < N → ∀ b, b < N → a ≠ b → (T a).2.1 ≠ (T b).2.1) (hin : ∀ w ∈ u_ws C T N, w ∈ Ts) (hk : k < N) (hlink : Cond.fieldLink own index ref (T k).2.1 (T k).2.2.1 ∈ Ts) (hsame : ∀ x, s.fieldFound? (T k).1 (T k).2.1 (T k).2.2.1 = some x → s.fieldFound? ref (T k).2.1 (T k).2.2.1 = some x) (hfin : (T k).2.2.2 = false) (hdsc : parseFieldDescriptor (T k).2.2.1 = some ty) (hn : narrow ty v = v) (hfit : fits ty v = true) (hlk : k < fs.length) (hd : decode cc pc = .ok (.putfield index, 3)) (kk : J p l e R s m args below meth c nL D A wf Q cells slots st' (pc + 3) lv stk) : J p l e R s m args below meth c nL D A wf Q cells slots st pc lv (v :: .ref a :: stk) :=
  fun H locs ls hP hD hS hl => va_put E.1.1 E.1.2.1 E.1.2.2.2.2 hin ty0 hty hnm E.1.2.2.2.1 E.2.2.1 hP hD hS q0 he hc k hk (E.1.2.2.2.2 _ hlink) hsame hfin hdsc hn hfit hlk hd (fun H1 locs1 hP1 hD1 hS1 => kk H1 locs1 ls (hset ▸ hP1) (hset ▸ hD1) hS1 hl)
theorem j_iald (E : jE p s m args meth c cc nL own Ts D tys A) (q0 t0 : Nat) {a : Nat} {cA : ClassId} {n : Nat} {f : Nat → Int32} (ha : (wf st)[q0]? = some (a, .inl (cA, n, .inl f))) (ht : tys[t0]? = some (cA, .int)) {i : Int32} (hin : vp_in i n) (hd : decode cc pc = .ok (.iaload, 1)) (kk : J p l e R s m args below meth c nL D A wf Q cells slots st (pc + 1) lv (.int (f i.toNatClampNeg) :: stk)) : J p l e R s m args below meth c nL D A wf Q cells slots st pc lv (.int i :: .ref a :: stk) :=
  fun H locs ls hP hD hS hl => va_iald E.1.1 E.1.2.1 E.2.2.1 hP q0 t0 ha ht hin hd (kk H locs ls hP hD hS hl)
theorem j_zald (E : jE p s m args meth c cc nL own Ts D tys A) (q0 t0 : Nat) {a : Nat} {cA : ClassId} {n : Nat} {f : Nat → Int32} (ha : (wf st)[q0]? = some (a, .inl (cA, n, .inl f))) (ht : tys[t0]? = some (cA, .boolean)) {i : Int32} (hin : vp_in i n) (hd : decode cc pc = .ok (.baload, 1)) (kk : J p l e R s m args below meth c nL D A wf Q cells slots st (pc + 1) lv (.int (f i.toNatClampNeg) :: stk)) : J p l e R s m args below meth c nL D A wf Q cells slots st pc lv (.int i :: .ref a :: stk) :=
  fun H locs ls hP hD hS hl => va_zald E.1.1 E.1.2.1 E.2.2.1 hP q0 t0 ha ht hin hd (kk H locs ls hP hD hS hl)
theorem j_iast (E : jE p s m args meth c cc nL own Ts D tys A) (q0 t0 : Nat) {a : Nat} {cA : ClassId} {n : Nat} {f : Nat → Int32} (ha : (wf st)[q0]? = some (a, .inl (cA, n, .inl f))) (ht : tys[t0]? = some (cA, .int)) {i x : Int32} (hset : (wf st).set q0 (a, .inl (cA, n, .inl (upd f i.toNatClampNeg x))) = wf st') (hin : vp_in i n) (hd : decode cc pc = .ok (.iastore, 1)) (kk : J p l e R s m args below meth c nL D A wf Q cells slots st' (pc + 1) lv stk) : J p l e R s m args below meth c nL D A wf Q cells slots st pc lv (.int x :: .int i :: .ref a :: stk) :=
  fun H locs ls hP hD hS hl => va_iast E.1.1 E.1.2.1 E.2.2.1 hP hD hS q0 t0 ha ht hin hd (fun H1 locs1 hP1 hD1 hS1 => kk H1 locs1 ls (hset ▸ hP1) (hset ▸ hD1) hS1 hl)
theorem j_zast (E : jE p s m args meth c cc nL own Ts D tys A) (q0 t0 : Nat) {a : Nat} {cA : ClassId} {n : Nat} {f : Nat → Int32} (ha : (wf st)[q0]? = some (a, .inl (cA, n, .inl f))) (ht : tys[t0]? = some (cA, .boolean)) {i x : Int32} (hset : (wf st).set q0 (a, .inl (cA, n, .inl (upd f i.toNatClampNeg (vp_nar .boolean x)))) = wf st') (hin : vp_in i n) (hd : decode cc pc = .ok (.bastore, 1)) (kk : J p l e R s m args below meth c nL D A wf Q cells slots st' (pc + 1) lv stk) : J p l e R s m args below meth c nL D A wf Q cells slots st pc lv (.int x :: .int i :: .ref a :: stk) :=
  fun H locs ls hP hD hS hl => va_zast E.1.1 E.1.2.1 E.2.2.1 hP hD hS q0 t0 ha ht hin hd (fun H1 locs1 hP1 hD1 hS1 => kk H1 locs1 ls (hset ▸ hP1) (hset ▸ hD1) hS1 hl)
theorem j_alen (E : jE p s m args meth c cc nL own Ts D tys A) (q0 t0 : Nat) {a : Nat} {cA : ClassId} {x : vp_A} (ha : (wf st)[q0]? = some (a, .inl (cA, x))) {ty : FieldType} (ht : tys[t0]? = some (cA, ty)) {v : Int32} (hv : Int32.ofNat x.1 = v) (hd : decode cc pc = .ok (.arraylength, 1)) (kk : J p l e R s m args below meth c nL D A wf Q cells slots st (pc + 1) lv (.int v :: stk)) : J p l e R s m args below meth c nL D A wf Q cells slots st pc lv (.ref a :: stk) :=
  fun H locs ls hP hD hS hl => va_alen E.1.1 E.1.2.1 E.2.2.1 hP q0 t0 ha ht hv hd (kk H locs ls hP hD hS hl)
theorem j_mmax (E : jE p s m args meth c cc nL own Ts D tys A) {index : Nat} {x y : Int32} (hlink : Cond.methodLink own index Lib.Math.max.name ∈ Ts) (hstat : Cond.static Lib.Math.max.name ∈ Ts) (hini : Cond.initialized "java/lang/Math" ∈ Ts) (hcode : Cond.code Lib.Math.max.name Lib.Math.max.code 2 (some .int) ∈ Ts) (hfr : 1 ≤ R.frames) (hlo : (stk.map fun v => v.category).sum + 13 ≤ R.locals) (hcs : cells ≤ R.cells ∧ slots ≤ R.slots) (hd : decode cc pc = .ok (.invokestatic index, 3)) (kk : J p l e R s m args below meth c nL D A wf Q cells slots st (pc + 3) lv (.int (if x < y then y else x) :: stk)) : J p l e R s m args below meth c nL D A wf Q cells slots st pc lv (.int y :: .int x :: stk) :=
  fun H locs ls hP hD hS hl => va_mmax E.1.1 E.1.2.1 (E.1.2.2.1.trans hl.1.symm) E.1.2.2.2.1 (E.1.2.2.2.2 _ hlink) (E.1.2.2.2.2 _ hstat) (E.1.2.2.2.2 _ hini) (E.1.2.2.2.2 _ hcode) hfr hlo hcs.1 hcs.2 hd (kk H locs ls hP hD hS hl)
theorem j_mmin (E : jE p s m args meth c cc nL own Ts D tys A) {index : Nat} {x y : Int32} (hlink : Cond.methodLink own index Lib.Math.min.name ∈ Ts) (hstat : Cond.static Lib.Math.min.name ∈ Ts) (hini : Cond.initialized "java/lang/Math" ∈ Ts) (hcode : Cond.code Lib.Math.min.name Lib.Math.min.code 2 (some .int) ∈ Ts) (hfr : 1 ≤ R.frames) (hlo : (stk.map fun v => v.category).sum + 13 ≤ R.locals) (hcs : cells ≤ R.cells ∧ slots ≤ R.slots) (hd : decode cc pc = .ok (.invokestatic index, 3)) (kk : J p l e R s m args below meth c nL D A wf Q cells slots st (pc + 3) lv (.int (if y < x then y else x) :: stk)) : J p l e R s m args below meth c nL D A wf Q cells slots st pc lv (.int y :: .int x :: stk) :=
  fun H locs ls hP hD hS hl => va_mmin E.1.1 E.1.2.1 (E.1.2.2.1.trans hl.1.symm) E.1.2.2.2.1 (E.1.2.2.2.2 _ hlink) (E.1.2.2.2.2 _ hstat) (E.1.2.2.2.2 _ hini) (E.1.2.2.2.2 _ hcode) hfr hlo hcs.1 hcs.2 hd (kk H locs ls hP hD hS hl)
theorem j_iret (E : jE p s m args meth c cc nL own Ts D tys A) {v : Int32} {o : Int32 × S} {ty : FieldType} (hr : meth.sig.returnType = some ty) (hn : narrow ty (.int v) = .int v) (ho : (v, st) = o) (hd : decode cc pc = .ok (.ireturn, 1)) : J p l e R s m args below meth c nL D A wf (jZI D wf A below args s o) 0 0 st pc lv [.int v] := by
  intro H locs ls hP hD hS hl
  subst ho
  exact W.zret E.1.1 E.1.2.1 hr hn (fun t ht hW => ⟨⟨v, st, rfl, ⟨rfl, rfl⟩, by rw [ht]; exact hP, hD⟩, hS.F ht⟩) hS.2.2 hd (hlocks := E.2.1)
theorem j_lret (E : jE p s m args meth c cc nL own Ts D tys A) {v : Int64} {o : Int64 × S} (hr : meth.sig.returnType = some .long) (ho : (v, st) = o) (hd : decode cc pc = .ok (.lreturn, 1)) : J p l e R s m args below meth c nL D A wf (jZL D wf A below args s o) 0 0 st pc lv [.long v] := by
  intro H locs ls hP hD hS hl
  subst ho
  exact W.lret E.1.1 E.1.2.1 hr (fun t ht hW => ⟨⟨v, st, rfl, ⟨rfl, rfl⟩, by rw [ht]; exact hP, hD⟩, hS.F ht⟩) hS.2.2 hd (hlocks := E.2.1)
theorem j_vret (E : jE p s m args meth c cc nL own Ts D tys A) {o : S} (hr : meth.sig.returnType = none) (ho : st = o) (hd : decode cc pc = .ok (.return_, 1)) : J p l e R s m args below meth c nL D A wf (jZV D wf A below args s o) 0 0 st pc lv [] := by
  intro H locs ls hP hD hS hl
  subst ho
  exact W.vret E.1.1 E.1.2.1 hr (fun t ht hW => ⟨⟨st, rfl, rfl, by rw [ht]; exact hP, hD⟩, hS.F ht⟩) hS.2.2 hd (hlocks := E.2.1)
theorem jFree (E : jE p s m args meth c cc nL own Ts D tys A) {H : Heap} {locs : List Loc} (hD : va_D A (wf st)) (hS : va_S A s.heap H locs) : ∀ q, va_A (wf st) H.size q → A q := by
  intro q h
  rcases h with ⟨k, e, h⟩ | h
  · exact hD.2 k (q, e) h
  · exact E.2.2.2.2 q (Nat.le_trans hS.1 h)
theorem j_callVi (E : jE p s m args meth c cc nL own Ts D tys A) {y : MethodName} {bytes : ByteArray} {maxL index n : Nat} {ret : Option FieldType} {ws : List Cond} {rm : Room} {As rest : List Value} {r0 : Int32} {u0 : S} {b ci q0 : Nat} {C : String} {T : u_T} {N : Nat} {fs : List Value} (hM : CtI l D tys wf y ws rm (.ref b :: As) st r0 u0) (cw : CallW R s args own C index y bytes maxL ret ws rm 0 0 n) (he : (wf st)[q0]? = some (b, .inr (ci, fs))) (hc : vwCl[ci]? = some (C, T, N)) (hn : As.length = n) (hstk : stk = As.reverse ++ .ref b :: rest) (hW : (rest.map fun v => v.category).sum ≤ 8) (hcs : cells + 0 ≤ R.cells ∧ slots + 0 ≤ R.slots) (hd : decode cc pc = .ok (.invokevirtual index, 3)) (kk : J p l e R s m args below meth c nL D A wf Q cells slots u0 (pc + 3) lv (.int r0 :: rest)) : J p l e R s m args below meth c nL D A wf Q cells slots st pc lv stk := by
  intro H locs ls hP hD hS hl
  refine va_calli (va_runV (As := As) (rest := rest) E.1 (hM H.size) cw ⟨jPc.blind, va_recv E.2.2.1 hP hc he, fun U hU hW => ⟨rfl, by rw [hU], by rw [hU]; exact hP, va_K.moved hW.alike E.2.2.1, E.2.2.2.1.warm hW, hD.weaken (fun _ _ _ _ => trivial)⟩⟩ rfl hn hl.1 hstk (lv_room hW) hd hcs) hS (fun q _ h => jFree E hD hS q h) (jFree E hD hS) (fun r u t H1 locs1 ht hvm hw hB hz1 hk1 hS1 => ?_)
  obtain ⟨rfl, rfl⟩ := hw
  obtain ⟨hP1, hD1⟩ := hB
  rw [ht] at hP1
  exact kk H1 locs1 ls hP1 (hD1.weaken fun _ _ _ h => jFree E hD hS _ h) hS1 hl
theorem j_callSi (E : jE p s m args meth c cc nL own Ts D tys A) {y : MethodName} {bytes : ByteArray} {maxL index n : Nat} {ret : Option FieldType} {ws : List Cond} {rm : Room} {As rest : List Value} {r0 : Int32} {u0 : S} (hM : CtI l D tys wf y ws rm As st r0 u0) (cw : CallB R s args own index y bytes maxL ret ws rm 0 0 n ∧ (Cond.static y).before args s = true) (hn : As.length = n) (hstk : stk = As.reverse ++ rest) (hW : (rest.map fun v => v.category).sum ≤ 8) (hcs : cells + 0 ≤ R.cells ∧ slots + 0 ≤ R.slots) (hd : decode cc pc = .ok (.invokestatic index, 3)) (kk : J p l e R s m args below meth c nL D A wf Q cells slots u0 (pc + 3) lv (.int r0 :: rest)) : J p l e R s m args below meth c nL D A wf Q cells slots st pc lv stk := by
  intro H locs ls hP hD hS hl
  refine va_calli (va_runS (As := As) (rest := rest) E.1 (hM H.size) cw ⟨jPc.blind, fun U hU hW => ⟨rfl, by rw [hU], by rw [hU]; exact hP, va_K.moved hW.alike E.2.2.1, E.2.2.2.1.warm hW, hD.weaken (fun _ _ _ _ => trivial)⟩⟩ rfl hn hl.1 hstk (lv_room hW) hd hcs) hS (fun q _ h => jFree E hD hS q h) (jFree E hD hS) (fun r u t H1 locs1 ht hvm hw hB hz1 hk1 hS1 => ?_)
  obtain ⟨rfl, rfl⟩ := hw
  obtain ⟨hP1, hD1⟩ := hB
  rw [ht] at hP1
  exact kk H1 locs1 ls hP1 (hD1.weaken fun _ _ _ h => jFree E hD hS _ h) hS1 hl
theorem j_callSNi (E : jE p s m args meth c cc nL own Ts D tys A) {y : MethodName} {bytes : ByteArray} {maxL index n : Nat} {ret : Option FieldType} {ws : List Cond} {rm : Room} {As rest : List Value} {r0 : Int32} {u0 : S} {host : String} (hM : CtI l D tys wf y ws rm As st r0 u0) (cw : va_CN R s args own index y host bytes maxL ret ws rm 0 0 n ∧ (Cond.static y).before args s = true ∧ True) (hn : As.length = n) (hstk : stk = As.reverse ++ rest) (hW : (rest.map fun v => v.category).sum ≤ 8) (hcs : cells + 0 ≤ R.cells ∧ slots + 0 ≤ R.slots) (hd : decode cc pc = .ok (.invokestatic index, 3)) (kk : J p l e R s m args below meth c nL D A wf Q cells slots u0 (pc + 3) lv (.int r0 :: rest)) : J p l e R s m args below meth c nL D A wf Q cells slots st pc lv stk := by
  intro H locs ls hP hD hS hl
  refine va_calli (va_runSN (As := As) (rest := rest) E.1 (hM H.size) cw ⟨jPc.blind, fun U hU hW => ⟨rfl, by rw [hU], by rw [hU]; exact hP, va_K.moved hW.alike E.2.2.1, E.2.2.2.1.warm hW, hD.weaken (fun _ _ _ _ => trivial)⟩⟩ rfl hn hl.1 hstk (lv_room hW) hd hcs) hS (fun q _ h => jFree E hD hS q h) (jFree E hD hS) (fun r u t H1 locs1 ht hvm hw hB hz1 hk1 hS1 => ?_)
  obtain ⟨rfl, rfl⟩ := hw
  obtain ⟨hP1, hD1⟩ := hB
  rw [ht] at hP1
  exact kk H1 locs1 ls hP1 (hD1.weaken fun _ _ _ h => jFree E hD hS _ h) hS1 hl
theorem j_callVl (E : jE p s m args meth c cc nL own Ts D tys A) {y : MethodName} {bytes : ByteArray} {maxL index n : Nat} {ret : Option FieldType} {ws : List Cond} {rm : Room} {As rest : List Value} {r0 : Int64} {u0 : S} {b ci q0 : Nat} {C : String} {T : u_T} {N : Nat} {fs : List Value} (hM : CtL l D tys wf y ws rm (.ref b :: As) st r0 u0) (cw : CallW R s args own C index y bytes maxL ret ws rm 0 0 n) (he : (wf st)[q0]? = some (b, .inr (ci, fs))) (hc : vwCl[ci]? = some (C, T, N)) (hn : As.length = n) (hstk : stk = As.reverse ++ .ref b :: rest) (hW : (rest.map fun v => v.category).sum ≤ 8) (hcs : cells + 0 ≤ R.cells ∧ slots + 0 ≤ R.slots) (hd : decode cc pc = .ok (.invokevirtual index, 3)) (kk : J p l e R s m args below meth c nL D A wf Q cells slots u0 (pc + 3) lv (.long r0 :: rest)) : J p l e R s m args below meth c nL D A wf Q cells slots st pc lv stk := by
  intro H locs ls hP hD hS hl
  refine va_calll (va_runV (As := As) (rest := rest) E.1 (hM H.size) cw ⟨jPc.blind, va_recv E.2.2.1 hP hc he, fun U hU hW => ⟨rfl, by rw [hU], by rw [hU]; exact hP, va_K.moved hW.alike E.2.2.1, E.2.2.2.1.warm hW, hD.weaken (fun _ _ _ _ => trivial)⟩⟩ rfl hn hl.1 hstk (lv_room hW) hd hcs) hS (fun q _ h => jFree E hD hS q h) (jFree E hD hS) (fun r u t H1 locs1 ht hvm hw hB hz1 hk1 hS1 => ?_)
  obtain ⟨rfl, rfl⟩ := hw
  obtain ⟨hP1, hD1⟩ := hB
  rw [ht] at hP1
  exact kk H1 locs1 ls hP1 (hD1.weaken fun _ _ _ h => jFree E hD hS _ h) hS1 hl
theorem j_callSl (E : jE p s m args meth c cc nL own Ts D tys A) {y : MethodName} {bytes : ByteArray} {maxL index n : Nat} {ret : Option FieldType} {ws : List Cond} {rm : Room} {As rest : List Value} {r0 : Int64} {u0 : S} (hM : CtL l D tys wf y ws rm As st r0 u0) (cw : CallB R s args own index y bytes maxL ret ws rm 0 0 n ∧ (Cond.static y).before args s = true) (hn : As.length = n) (hstk : stk = As.reverse ++ rest) (hW : (rest.map fun v => v.category).sum ≤ 8) (hcs : cells + 0 ≤ R.cells ∧ slots + 0 ≤ R.slots) (hd : decode cc pc = .ok (.invokestatic index, 3)) (kk : J p l e R s m args below meth c nL D A wf Q cells slots u0 (pc + 3) lv (.long r0 :: rest)) : J p l e R s m args below meth c nL D A wf Q cells slots st pc lv stk := by
  intro H locs ls hP hD hS hl
  refine va_calll (va_runS (As := As) (rest := rest) E.1 (hM H.size) cw ⟨jPc.blind, fun U hU hW => ⟨rfl, by rw [hU], by rw [hU]; exact hP, va_K.moved hW.alike E.2.2.1, E.2.2.2.1.warm hW, hD.weaken (fun _ _ _ _ => trivial)⟩⟩ rfl hn hl.1 hstk (lv_room hW) hd hcs) hS (fun q _ h => jFree E hD hS q h) (jFree E hD hS) (fun r u t H1 locs1 ht hvm hw hB hz1 hk1 hS1 => ?_)
  obtain ⟨rfl, rfl⟩ := hw
  obtain ⟨hP1, hD1⟩ := hB
  rw [ht] at hP1
  exact kk H1 locs1 ls hP1 (hD1.weaken fun _ _ _ h => jFree E hD hS _ h) hS1 hl
theorem j_callSNl (E : jE p s m args meth c cc nL own Ts D tys A) {y : MethodName} {bytes : ByteArray} {maxL index n : Nat} {ret : Option FieldType} {ws : List Cond} {rm : Room} {As rest : List Value} {r0 : Int64} {u0 : S} {host : String} (hM : CtL l D tys wf y ws rm As st r0 u0) (cw : va_CN R s args own index y host bytes maxL ret ws rm 0 0 n ∧ (Cond.static y).before args s = true ∧ True) (hn : As.length = n) (hstk : stk = As.reverse ++ rest) (hW : (rest.map fun v => v.category).sum ≤ 8) (hcs : cells + 0 ≤ R.cells ∧ slots + 0 ≤ R.slots) (hd : decode cc pc = .ok (.invokestatic index, 3)) (kk : J p l e R s m args below meth c nL D A wf Q cells slots u0 (pc + 3) lv (.long r0 :: rest)) : J p l e R s m args below meth c nL D A wf Q cells slots st pc lv stk := by
  intro H locs ls hP hD hS hl
  refine va_calll (va_runSN (As := As) (rest := rest) E.1 (hM H.size) cw ⟨jPc.blind, fun U hU hW => ⟨rfl, by rw [hU], by rw [hU]; exact hP, va_K.moved hW.alike E.2.2.1, E.2.2.2.1.warm hW, hD.weaken (fun _ _ _ _ => trivial)⟩⟩ rfl hn hl.1 hstk (lv_room hW) hd hcs) hS (fun q _ h => jFree E hD hS q h) (jFree E hD hS) (fun r u t H1 locs1 ht hvm hw hB hz1 hk1 hS1 => ?_)
  obtain ⟨rfl, rfl⟩ := hw
  obtain ⟨hP1, hD1⟩ := hB
  rw [ht] at hP1
  exact kk H1 locs1 ls hP1 (hD1.weaken fun _ _ _ h => jFree E hD hS _ h) hS1 hl
theorem j_callVv (E : jE p s m args meth c cc nL own Ts D tys A) {y : MethodName} {bytes : ByteArray} {maxL index n : Nat} {ret : Option FieldType} {ws : List Cond} {rm : Room} {As rest : List Value} {u0 : S} {b ci q0 : Nat} {C : String} {T : u_T} {N : Nat} {fs : List Value} (hM : CtV l D tys wf y ws rm (.ref b :: As) st u0) (cw : CallW R s args own C index y bytes maxL ret ws rm 0 0 n) (he : (wf st)[q0]? = some (b, .inr (ci, fs))) (hc : vwCl[ci]? = some (C, T, N)) (hn : As.length = n) (hstk : stk = As.reverse ++ .ref b :: rest) (hW : (rest.map fun v => v.category).sum ≤ 8) (hcs : cells + 0 ≤ R.cells ∧ slots + 0 ≤ R.slots) (hd : decode cc pc = .ok (.invokevirtual index, 3)) (kk : J p l e R s m args below meth c nL D A wf Q cells slots u0 (pc + 3) lv rest) : J p l e R s m args below meth c nL D A wf Q cells slots st pc lv stk := by
  intro H locs ls hP hD hS hl
  refine va_callv (va_runV (As := As) (rest := rest) E.1 (hM H.size) cw ⟨jPc.blind, va_recv E.2.2.1 hP hc he, fun U hU hW => ⟨rfl, by rw [hU], by rw [hU]; exact hP, va_K.moved hW.alike E.2.2.1, E.2.2.2.1.warm hW, hD.weaken (fun _ _ _ _ => trivial)⟩⟩ rfl hn hl.1 hstk (lv_room hW) hd hcs) hS (fun q _ h => jFree E hD hS q h) (jFree E hD hS) (fun u t H1 locs1 ht hvm hw hB hz1 hk1 hS1 => ?_)
  subst hw
  obtain ⟨hP1, hD1⟩ := hB
  rw [ht] at hP1
  exact kk H1 locs1 ls hP1 (hD1.weaken fun _ _ _ h => jFree E hD hS _ h) hS1 hl
theorem j_callSv (E : jE p s m args meth c cc nL own Ts D tys A) {y : MethodName} {bytes : ByteArray} {maxL index n : Nat} {ret : Option FieldType} {ws : List Cond} {rm : Room} {As rest : List Value} {u0 : S} (hM : CtV l D tys wf y ws rm As st u0) (cw : CallB R s args own index y bytes maxL ret ws rm 0 0 n ∧ (Cond.static y).before args s = true) (hn : As.length = n) (hstk : stk = As.reverse ++ rest) (hW : (rest.map fun v => v.category).sum ≤ 8) (hcs : cells + 0 ≤ R.cells ∧ slots + 0 ≤ R.slots) (hd : decode cc pc = .ok (.invokestatic index, 3)) (kk : J p l e R s m args below meth c nL D A wf Q cells slots u0 (pc + 3) lv rest) : J p l e R s m args below meth c nL D A wf Q cells slots st pc lv stk := by
  intro H locs ls hP hD hS hl
  refine va_callv (va_runS (As := As) (rest := rest) E.1 (hM H.size) cw ⟨jPc.blind, fun U hU hW => ⟨rfl, by rw [hU], by rw [hU]; exact hP, va_K.moved hW.alike E.2.2.1, E.2.2.2.1.warm hW, hD.weaken (fun _ _ _ _ => trivial)⟩⟩ rfl hn hl.1 hstk (lv_room hW) hd hcs) hS (fun q _ h => jFree E hD hS q h) (jFree E hD hS) (fun u t H1 locs1 ht hvm hw hB hz1 hk1 hS1 => ?_)
  subst hw
  obtain ⟨hP1, hD1⟩ := hB
  rw [ht] at hP1
  exact kk H1 locs1 ls hP1 (hD1.weaken fun _ _ _ h => jFree E hD hS _ h) hS1 hl
theorem j_callSNv (E : jE p s m args meth c cc nL own Ts D tys A) {y : MethodName} {bytes : ByteArray} {maxL index n : Nat} {ret : Option FieldType} {ws : List Cond} {rm : Room} {As rest : List Value} {u0 : S} {host : String} (hM : CtV l D tys wf y ws rm As st u0) (cw : va_CN R s args own index y host bytes maxL ret ws rm 0 0 n ∧ (Cond.static y).before args s = true ∧ True) (hn : As.length = n) (hstk : stk = As.reverse ++ rest) (hW : (rest.map fun v => v.category).sum ≤ 8) (hcs : cells + 0 ≤ R.cells ∧ slots + 0 ≤ R.slots) (hd : decode cc pc = .ok (.invokestatic index, 3)) (kk : J p l e R s m args below meth c nL D A wf Q cells slots u0 (pc + 3) lv rest) : J p l e R s m args below meth c nL D A wf Q cells slots st pc lv stk := by
  intro H locs ls hP hD hS hl
  refine va_callv (va_runSN (As := As) (rest := rest) E.1 (hM H.size) cw ⟨jPc.blind, fun U hU hW => ⟨rfl, by rw [hU], by rw [hU]; exact hP, va_K.moved hW.alike E.2.2.1, E.2.2.2.1.warm hW, hD.weaken (fun _ _ _ _ => trivial)⟩⟩ rfl hn hl.1 hstk (lv_room hW) hd hcs) hS (fun q _ h => jFree E hD hS q h) (jFree E hD hS) (fun u t H1 locs1 ht hvm hw hB hz1 hk1 hS1 => ?_)
  subst hw
  obtain ⟨hP1, hD1⟩ := hB
  rw [ht] at hP1
  exact kk H1 locs1 ls hP1 (hD1.weaken fun _ _ _ h => jFree E hD hS _ h) hS1 hl
end JJ1
section JJ2
variable {l : Launch} {D : va_G} {tys : List (ClassId × FieldType)} {S : Type} {wf : S → va_W}
theorem ctI_of {ty : FieldType} {y : MethodName} {ws ws' : List Cond} {rm : Room} {cc : ByteArray} {nL : Nat} {own : String} {av : List Value} {st : S} {o : Int32 × S} {lv0 : List (Nat × Value)} (hy : plainName y.cls = true) (hw : ws = Cond.code y cc nL (some ty) :: ws') (hown : y.cls = own) (hlen : (lg_sl av).length ≤ nL) (hlv : lv_args 0 av = lv0)
    (body : ∀ (p : Program) (e : Env) (s : State) (m : MethodId) (args : Array Value) (below : List Frame) (meth : Method) (c : Code) (A : Nat → Prop), jE p s m args meth c cc nL own ws D tys A → meth.sig.returnType = (some ty) → J p l e rm s m args below meth c nL D A wf (jZI D wf A below args s o) 0 0 st 0 lv0 []) : CtI l D tys wf y ws rm av st o.1 o.2 := by
  intro sz
  refine Met.ofW (cc := cc) (maxL := nL) (ret := (some ty)) hy hw ?_
  intro p e s m args below meth c s₁ B hml hv
  obtain ⟨rfl, hsz, hP, hK, hN, hD0⟩ := hv
  subst hsz
  have hts := atoms_spec (ws := ws) B.pre
  have hown' : s.vm.findClass own = some m.cls := by rw [← hown]; exact findClass_of_methodNamed B.named
  have hD := hD0.self (sz := s.heap.size)
  have hl := lv_entry av (n := nL) hlen
  rw [lg_entry_eq]
  exact body p e s m _ below meth c _ ⟨⟨B.exec, B.bytes, hml, hown', hts⟩, B.notSynchronized, hK, hN, fun q h => Or.inr h⟩ B.returns s.heap [] _ hP hD va_S.rf (hlv ▸ hl)
theorem ctL_of  {y : MethodName} {ws ws' : List Cond} {rm : Room} {cc : ByteArray} {nL : Nat} {own : String} {av : List Value} {st : S} {o : Int64 × S} {lv0 : List (Nat × Value)} (hy : plainName y.cls = true) (hw : ws = Cond.code y cc nL (some .long) :: ws') (hown : y.cls = own) (hlen : (lg_sl av).length ≤ nL) (hlv : lv_args 0 av = lv0)
    (body : ∀ (p : Program) (e : Env) (s : State) (m : MethodId) (args : Array Value) (below : List Frame) (meth : Method) (c : Code) (A : Nat → Prop), jE p s m args meth c cc nL own ws D tys A → meth.sig.returnType = (some .long) → J p l e rm s m args below meth c nL D A wf (jZL D wf A below args s o) 0 0 st 0 lv0 []) : CtL l D tys wf y ws rm av st o.1 o.2 := by
  intro sz
  refine Met.ofW (cc := cc) (maxL := nL) (ret := (some .long)) hy hw ?_
  intro p e s m args below meth c s₁ B hml hv
  obtain ⟨rfl, hsz, hP, hK, hN, hD0⟩ := hv
  subst hsz
  have hts := atoms_spec (ws := ws) B.pre
  have hown' : s.vm.findClass own = some m.cls := by rw [← hown]; exact findClass_of_methodNamed B.named
  have hD := hD0.self (sz := s.heap.size)
  have hl := lv_entry av (n := nL) hlen
  rw [lg_entry_eq]
  exact body p e s m _ below meth c _ ⟨⟨B.exec, B.bytes, hml, hown', hts⟩, B.notSynchronized, hK, hN, fun q h => Or.inr h⟩ B.returns s.heap [] _ hP hD va_S.rf (hlv ▸ hl)
theorem ctV_of  {y : MethodName} {ws ws' : List Cond} {rm : Room} {cc : ByteArray} {nL : Nat} {own : String} {av : List Value} {st : S} {o : S} {lv0 : List (Nat × Value)} (hy : plainName y.cls = true) (hw : ws = Cond.code y cc nL none :: ws') (hown : y.cls = own) (hlen : (lg_sl av).length ≤ nL) (hlv : lv_args 0 av = lv0)
    (body : ∀ (p : Program) (e : Env) (s : State) (m : MethodId) (args : Array Value) (below : List Frame) (meth : Method) (c : Code) (A : Nat → Prop), jE p s m args meth c cc nL own ws D tys A → meth.sig.returnType = none → J p l e rm s m args below meth c nL D A wf (jZV D wf A below args s o) 0 0 st 0 lv0 []) : CtV l D tys wf y ws rm av st o := by
  intro sz
  refine Met.ofW (cc := cc) (maxL := nL) (ret := none) hy hw ?_
  intro p e s m args below meth c s₁ B hml hv
  obtain ⟨rfl, hsz, hP, hK, hN, hD0⟩ := hv
  subst hsz
  have hts := atoms_spec (ws := ws) B.pre
  have hown' : s.vm.findClass own = some m.cls := by rw [← hown]; exact findClass_of_methodNamed B.named
  have hD := hD0.self (sz := s.heap.size)
  have hl := lv_entry av (n := nL) hlen
  rw [lg_entry_eq]
  exact body p e s m _ below meth c _ ⟨⟨B.exec, B.bytes, hml, hown', hts⟩, B.notSynchronized, hK, hN, fun q h => Or.inr h⟩ B.returns s.heap [] _ hP hD va_S.rf (hlv ▸ hl)
end JJ2
end
section
/-! The two worlds: wX, the class; wM, the reference: their cells by place; a row for each cell (what it holds) and each write (the state behind it). -/
abbrev jT (cI cZ : ClassId) : List (ClassId × FieldType) := [(cI, .int), (cZ, .boolean)]
def wX (ad : Nat → Nat) (cI cZ : ClassId) (st : jS) : va_W := [(ad 0, .inr (5, [.ref (ad 1), .ref (ad 9), .ref (ad 11), .ref (ad 25)])), (ad 1, .inr (0, [.ref (ad 2), .ref (ad 3), .ref (ad 4), .ref (ad 5), .int (st.2 0), .ref (ad 6), .ref (ad 7), .ref (ad 8)])), (ad 2, .inl (cI, 80, .inl (st.1 2))), (ad 3, .inl (cI, 80, .inl (st.1 3))), (ad 4, .inl (cI, 80, .inl (st.1 4))), (ad 5, .inl (cI, 10, .inl (st.1 5))), (ad 6, .inl (cZ, 80, .inl (st.1 6))), (ad 7, .inl (cZ, 10, .inl (st.1 7))), (ad 8, .inl (cI, 80, .inl (st.1 8))), (ad 9, .inr (4, [.ref (ad 10), .int (st.2 1)])), (ad 10, .inl (cI, 40, .inl (st.1 10))), (ad 11, .inr (1, [.ref (ad 12), .ref (ad 13), .ref (ad 14)])), (ad 12, .inl (cI, 410, .inl (st.1 12))), (ad 13, .inl (cI, 410, .inl (st.1 13))), (ad 14, .inl (cI, 410, .inl (st.1 14))), (ad 15, .inr (2, [.ref (ad 16), .ref (ad 17), .ref (ad 18), .ref (ad 19), .ref (ad 20), .ref (ad 21), .ref (ad 22), .ref (ad 23), .ref (ad 24), .int (st.2 2)])), (ad 16, .inl (cI, 101, .inl (st.1 16))), (ad 17, .inl (cI, 101, .inl (st.1 17))), (ad 18, .inl (cI, 101, .inl (st.1 18))), (ad 19, .inl (cZ, 101, .inl (st.1 19))), (ad 20, .inl (cI, 101, .inl (st.1 20))), (ad 21, .inl (cI, 101, .inl (st.1 21))), (ad 22, .inl (cI, 101, .inl (st.1 22))), (ad 23, .inl (cI, 410, .inl (st.1 23))), (ad 24, .inl (cI, 41, .inl (st.1 24))), (ad 25, .inr (3, [.ref (ad 1), .ref (ad 9), .ref (ad 11), .ref (ad 15), .int (st.2 3), .int (st.2 4), .int (st.2 5), .int (st.2 6), .int (st.2 7)]))]
theorem wX_g0 (ad : Nat → Nat) (cI cZ : ClassId) (st : jS) : (wX ad cI cZ st)[0]? = some (ad 0, .inr (5, [.ref (ad 1), .ref (ad 9), .ref (ad 11), .ref (ad 25)])) := rfl
theorem wX_g1 (ad : Nat → Nat) (cI cZ : ClassId) (st : jS) : (wX ad cI cZ st)[1]? = some (ad 1, .inr (0, [.ref (ad 2), .ref (ad 3), .ref (ad 4), .ref (ad 5), .int (st.2 0), .ref (ad 6), .ref (ad 7), .ref (ad 8)])) := rfl
theorem wX_p1_4 (ad : Nat → Nat) (cI cZ : ClassId) (st : jS) (v : Int32) : (wX ad cI cZ st).set 1 (ad 1, .inr (0, ([.ref (ad 2), .ref (ad 3), .ref (ad 4), .ref (ad 5), .int (st.2 0), .ref (ad 6), .ref (ad 7), .ref (ad 8)] : List Value).set 4 (.int v))) = wX ad cI cZ (jis st 0 v) := rfl
theorem wX_g2 (ad : Nat → Nat) (cI cZ : ClassId) (st : jS) : (wX ad cI cZ st)[2]? = some (ad 2, .inl (cI, 80, .inl (st.1 2))) := rfl
theorem wX_s2 (ad : Nat → Nat) (cI cZ : ClassId) (st : jS) (f : Nat → Int32) : (wX ad cI cZ st).set 2 (ad 2, .inl (cI, 80, .inl f)) = wX ad cI cZ (jaf st 2 f) := rfl
theorem wX_g3 (ad : Nat → Nat) (cI cZ : ClassId) (st : jS) : (wX ad cI cZ st)[3]? = some (ad 3, .inl (cI, 80, .inl (st.1 3))) := rfl
theorem wX_s3 (ad : Nat → Nat) (cI cZ : ClassId) (st : jS) (f : Nat → Int32) : (wX ad cI cZ st).set 3 (ad 3, .inl (cI, 80, .inl f)) = wX ad cI cZ (jaf st 3 f) := rfl
theorem wX_g4 (ad : Nat → Nat) (cI cZ : ClassId) (st : jS) : (wX ad cI cZ st)[4]? = some (ad 4, .inl (cI, 80, .inl (st.1 4))) := rfl
theorem wX_s4 (ad : Nat → Nat) (cI cZ : ClassId) (st : jS) (f : Nat → Int32) : (wX ad cI cZ st).set 4 (ad 4, .inl (cI, 80, .inl f)) = wX ad cI cZ (jaf st 4 f) := rfl
theorem wX_g5 (ad : Nat → Nat) (cI cZ : ClassId) (st : jS) : (wX ad cI cZ st)[5]? = some (ad 5, .inl (cI, 10, .inl (st.1 5))) := rfl
theorem wX_s5 (ad : Nat → Nat) (cI cZ : ClassId) (st : jS) (f : Nat → Int32) : (wX ad cI cZ st).set 5 (ad 5, .inl (cI, 10, .inl f)) = wX ad cI cZ (jaf st 5 f) := rfl
theorem wX_g6 (ad : Nat → Nat) (cI cZ : ClassId) (st : jS) : (wX ad cI cZ st)[6]? = some (ad 6, .inl (cZ, 80, .inl (st.1 6))) := rfl
theorem wX_s6 (ad : Nat → Nat) (cI cZ : ClassId) (st : jS) (f : Nat → Int32) : (wX ad cI cZ st).set 6 (ad 6, .inl (cZ, 80, .inl f)) = wX ad cI cZ (jaf st 6 f) := rfl
theorem wX_g7 (ad : Nat → Nat) (cI cZ : ClassId) (st : jS) : (wX ad cI cZ st)[7]? = some (ad 7, .inl (cZ, 10, .inl (st.1 7))) := rfl
theorem wX_s7 (ad : Nat → Nat) (cI cZ : ClassId) (st : jS) (f : Nat → Int32) : (wX ad cI cZ st).set 7 (ad 7, .inl (cZ, 10, .inl f)) = wX ad cI cZ (jaf st 7 f) := rfl
theorem wX_g8 (ad : Nat → Nat) (cI cZ : ClassId) (st : jS) : (wX ad cI cZ st)[8]? = some (ad 8, .inl (cI, 80, .inl (st.1 8))) := rfl
theorem wX_s8 (ad : Nat → Nat) (cI cZ : ClassId) (st : jS) (f : Nat → Int32) : (wX ad cI cZ st).set 8 (ad 8, .inl (cI, 80, .inl f)) = wX ad cI cZ (jaf st 8 f) := rfl
theorem wX_g9 (ad : Nat → Nat) (cI cZ : ClassId) (st : jS) : (wX ad cI cZ st)[9]? = some (ad 9, .inr (4, [.ref (ad 10), .int (st.2 1)])) := rfl
theorem wX_p9_1 (ad : Nat → Nat) (cI cZ : ClassId) (st : jS) (v : Int32) : (wX ad cI cZ st).set 9 (ad 9, .inr (4, ([.ref (ad 10), .int (st.2 1)] : List Value).set 1 (.int v))) = wX ad cI cZ (jis st 1 v) := rfl
theorem wX_g10 (ad : Nat → Nat) (cI cZ : ClassId) (st : jS) : (wX ad cI cZ st)[10]? = some (ad 10, .inl (cI, 40, .inl (st.1 10))) := rfl
theorem wX_s10 (ad : Nat → Nat) (cI cZ : ClassId) (st : jS) (f : Nat → Int32) : (wX ad cI cZ st).set 10 (ad 10, .inl (cI, 40, .inl f)) = wX ad cI cZ (jaf st 10 f) := rfl
theorem wX_g11 (ad : Nat → Nat) (cI cZ : ClassId) (st : jS) : (wX ad cI cZ st)[11]? = some (ad 11, .inr (1, [.ref (ad 12), .ref (ad 13), .ref (ad 14)])) := rfl
theorem wX_g12 (ad : Nat → Nat) (cI cZ : ClassId) (st : jS) : (wX ad cI cZ st)[12]? = some (ad 12, .inl (cI, 410, .inl (st.1 12))) := rfl
theorem wX_s12 (ad : Nat → Nat) (cI cZ : ClassId) (st : jS) (f : Nat → Int32) : (wX ad cI cZ st).set 12 (ad 12, .inl (cI, 410, .inl f)) = wX ad cI cZ (jaf st 12 f) := rfl
theorem wX_g13 (ad : Nat → Nat) (cI cZ : ClassId) (st : jS) : (wX ad cI cZ st)[13]? = some (ad 13, .inl (cI, 410, .inl (st.1 13))) := rfl
theorem wX_s13 (ad : Nat → Nat) (cI cZ : ClassId) (st : jS) (f : Nat → Int32) : (wX ad cI cZ st).set 13 (ad 13, .inl (cI, 410, .inl f)) = wX ad cI cZ (jaf st 13 f) := rfl
theorem wX_g14 (ad : Nat → Nat) (cI cZ : ClassId) (st : jS) : (wX ad cI cZ st)[14]? = some (ad 14, .inl (cI, 410, .inl (st.1 14))) := rfl
theorem wX_s14 (ad : Nat → Nat) (cI cZ : ClassId) (st : jS) (f : Nat → Int32) : (wX ad cI cZ st).set 14 (ad 14, .inl (cI, 410, .inl f)) = wX ad cI cZ (jaf st 14 f) := rfl
theorem wX_g15 (ad : Nat → Nat) (cI cZ : ClassId) (st : jS) : (wX ad cI cZ st)[15]? = some (ad 15, .inr (2, [.ref (ad 16), .ref (ad 17), .ref (ad 18), .ref (ad 19), .ref (ad 20), .ref (ad 21), .ref (ad 22), .ref (ad 23), .ref (ad 24), .int (st.2 2)])) := rfl
theorem wX_p15_9 (ad : Nat → Nat) (cI cZ : ClassId) (st : jS) (v : Int32) : (wX ad cI cZ st).set 15 (ad 15, .inr (2, ([.ref (ad 16), .ref (ad 17), .ref (ad 18), .ref (ad 19), .ref (ad 20), .ref (ad 21), .ref (ad 22), .ref (ad 23), .ref (ad 24), .int (st.2 2)] : List Value).set 9 (.int v))) = wX ad cI cZ (jis st 2 v) := rfl
theorem wX_g16 (ad : Nat → Nat) (cI cZ : ClassId) (st : jS) : (wX ad cI cZ st)[16]? = some (ad 16, .inl (cI, 101, .inl (st.1 16))) := rfl
theorem wX_s16 (ad : Nat → Nat) (cI cZ : ClassId) (st : jS) (f : Nat → Int32) : (wX ad cI cZ st).set 16 (ad 16, .inl (cI, 101, .inl f)) = wX ad cI cZ (jaf st 16 f) := rfl
theorem wX_g17 (ad : Nat → Nat) (cI cZ : ClassId) (st : jS) : (wX ad cI cZ st)[17]? = some (ad 17, .inl (cI, 101, .inl (st.1 17))) := rfl
theorem wX_s17 (ad : Nat → Nat) (cI cZ : ClassId) (st : jS) (f : Nat → Int32) : (wX ad cI cZ st).set 17 (ad 17, .inl (cI, 101, .inl f)) = wX ad cI cZ (jaf st 17 f) := rfl
theorem wX_g18 (ad : Nat → Nat) (cI cZ : ClassId) (st : jS) : (wX ad cI cZ st)[18]? = some (ad 18, .inl (cI, 101, .inl (st.1 18))) := rfl
theorem wX_s18 (ad : Nat → Nat) (cI cZ : ClassId) (st : jS) (f : Nat → Int32) : (wX ad cI cZ st).set 18 (ad 18, .inl (cI, 101, .inl f)) = wX ad cI cZ (jaf st 18 f) := rfl
theorem wX_g19 (ad : Nat → Nat) (cI cZ : ClassId) (st : jS) : (wX ad cI cZ st)[19]? = some (ad 19, .inl (cZ, 101, .inl (st.1 19))) := rfl
theorem wX_s19 (ad : Nat → Nat) (cI cZ : ClassId) (st : jS) (f : Nat → Int32) : (wX ad cI cZ st).set 19 (ad 19, .inl (cZ, 101, .inl f)) = wX ad cI cZ (jaf st 19 f) := rfl
theorem wX_g20 (ad : Nat → Nat) (cI cZ : ClassId) (st : jS) : (wX ad cI cZ st)[20]? = some (ad 20, .inl (cI, 101, .inl (st.1 20))) := rfl
theorem wX_s20 (ad : Nat → Nat) (cI cZ : ClassId) (st : jS) (f : Nat → Int32) : (wX ad cI cZ st).set 20 (ad 20, .inl (cI, 101, .inl f)) = wX ad cI cZ (jaf st 20 f) := rfl
theorem wX_g21 (ad : Nat → Nat) (cI cZ : ClassId) (st : jS) : (wX ad cI cZ st)[21]? = some (ad 21, .inl (cI, 101, .inl (st.1 21))) := rfl
theorem wX_s21 (ad : Nat → Nat) (cI cZ : ClassId) (st : jS) (f : Nat → Int32) : (wX ad cI cZ st).set 21 (ad 21, .inl (cI, 101, .inl f)) = wX ad cI cZ (jaf st 21 f) := rfl
theorem wX_g22 (ad : Nat → Nat) (cI cZ : ClassId) (st : jS) : (wX ad cI cZ st)[22]? = some (ad 22, .inl (cI, 101, .inl (st.1 22))) := rfl
theorem wX_s22 (ad : Nat → Nat) (cI cZ : ClassId) (st : jS) (f : Nat → Int32) : (wX ad cI cZ st).set 22 (ad 22, .inl (cI, 101, .inl f)) = wX ad cI cZ (jaf st 22 f) := rfl
theorem wX_g23 (ad : Nat → Nat) (cI cZ : ClassId) (st : jS) : (wX ad cI cZ st)[23]? = some (ad 23, .inl (cI, 410, .inl (st.1 23))) := rfl
theorem wX_s23 (ad : Nat → Nat) (cI cZ : ClassId) (st : jS) (f : Nat → Int32) : (wX ad cI cZ st).set 23 (ad 23, .inl (cI, 410, .inl f)) = wX ad cI cZ (jaf st 23 f) := rfl
theorem wX_g24 (ad : Nat → Nat) (cI cZ : ClassId) (st : jS) : (wX ad cI cZ st)[24]? = some (ad 24, .inl (cI, 41, .inl (st.1 24))) := rfl
theorem wX_s24 (ad : Nat → Nat) (cI cZ : ClassId) (st : jS) (f : Nat → Int32) : (wX ad cI cZ st).set 24 (ad 24, .inl (cI, 41, .inl f)) = wX ad cI cZ (jaf st 24 f) := rfl
theorem wX_g25 (ad : Nat → Nat) (cI cZ : ClassId) (st : jS) : (wX ad cI cZ st)[25]? = some (ad 25, .inr (3, [.ref (ad 1), .ref (ad 9), .ref (ad 11), .ref (ad 15), .int (st.2 3), .int (st.2 4), .int (st.2 5), .int (st.2 6), .int (st.2 7)])) := rfl
theorem wX_p25_4 (ad : Nat → Nat) (cI cZ : ClassId) (st : jS) (v : Int32) : (wX ad cI cZ st).set 25 (ad 25, .inr (3, ([.ref (ad 1), .ref (ad 9), .ref (ad 11), .ref (ad 15), .int (st.2 3), .int (st.2 4), .int (st.2 5), .int (st.2 6), .int (st.2 7)] : List Value).set 4 (.int v))) = wX ad cI cZ (jis st 3 v) := rfl
theorem wX_p25_5 (ad : Nat → Nat) (cI cZ : ClassId) (st : jS) (v : Int32) : (wX ad cI cZ st).set 25 (ad 25, .inr (3, ([.ref (ad 1), .ref (ad 9), .ref (ad 11), .ref (ad 15), .int (st.2 3), .int (st.2 4), .int (st.2 5), .int (st.2 6), .int (st.2 7)] : List Value).set 5 (.int v))) = wX ad cI cZ (jis st 4 v) := rfl
theorem wX_p25_6 (ad : Nat → Nat) (cI cZ : ClassId) (st : jS) (v : Int32) : (wX ad cI cZ st).set 25 (ad 25, .inr (3, ([.ref (ad 1), .ref (ad 9), .ref (ad 11), .ref (ad 15), .int (st.2 3), .int (st.2 4), .int (st.2 5), .int (st.2 6), .int (st.2 7)] : List Value).set 6 (.int v))) = wX ad cI cZ (jis st 5 v) := rfl
theorem wX_p25_7 (ad : Nat → Nat) (cI cZ : ClassId) (st : jS) (v : Int32) : (wX ad cI cZ st).set 25 (ad 25, .inr (3, ([.ref (ad 1), .ref (ad 9), .ref (ad 11), .ref (ad 15), .int (st.2 3), .int (st.2 4), .int (st.2 5), .int (st.2 6), .int (st.2 7)] : List Value).set 7 (.int v))) = wX ad cI cZ (jis st 6 v) := rfl
theorem wX_p25_8 (ad : Nat → Nat) (cI cZ : ClassId) (st : jS) (v : Int32) : (wX ad cI cZ st).set 25 (ad 25, .inr (3, ([.ref (ad 1), .ref (ad 9), .ref (ad 11), .ref (ad 15), .int (st.2 3), .int (st.2 4), .int (st.2 5), .int (st.2 6), .int (st.2 7)] : List Value).set 8 (.int v))) = wX ad cI cZ (jis st 7 v) := rfl
def wM (ad : Nat → Nat) (cI cZ : ClassId) (st : jS) : va_W := [(ad 0, .inr (6, [.int (st.2 0), .int (st.2 1), .ref (ad 1), .ref (ad 2), .ref (ad 3), .ref (ad 4), .int (st.2 2), .ref (ad 5), .ref (ad 6), .ref (ad 7), .ref (ad 8), .ref (ad 9), .int (st.2 3), .ref (ad 10), .ref (ad 11), .ref (ad 12), .ref (ad 13), .ref (ad 14), .ref (ad 15), .ref (ad 16), .int (st.2 4), .int (st.2 5), .int (st.2 6), .int (st.2 7), .int (st.2 8), .int (st.2 9), .ref (ad 17), .ref (ad 18), .ref (ad 19)])), (ad 1, .inl (cI, 80, .inl (st.1 1))), (ad 2, .inl (cI, 80, .inl (st.1 2))), (ad 3, .inl (cI, 80, .inl (st.1 3))), (ad 4, .inl (cI, 10, .inl (st.1 4))), (ad 5, .inl (cI, 40, .inl (st.1 5))), (ad 6, .inl (cZ, 410, .inl (st.1 6))), (ad 7, .inl (cI, 410, .inl (st.1 7))), (ad 8, .inl (cI, 410, .inl (st.1 8))), (ad 9, .inl (cI, 410, .inl (st.1 9))), (ad 10, .inl (cI, 102, .inl (st.1 10))), (ad 11, .inl (cI, 102, .inl (st.1 11))), (ad 12, .inl (cI, 102, .inl (st.1 12))), (ad 13, .inl (cZ, 102, .inl (st.1 13))), (ad 14, .inl (cZ, 102, .inl (st.1 14))), (ad 15, .inl (cI, 102, .inl (st.1 15))), (ad 16, .inl (cI, 102, .inl (st.1 16))), (ad 17, .inl (cZ, 10, .inl (st.1 17))), (ad 18, .inl (cZ, 80, .inl (st.1 18))), (ad 19, .inl (cI, 80, .inl (st.1 19)))]
theorem wM_g0 (ad : Nat → Nat) (cI cZ : ClassId) (st : jS) : (wM ad cI cZ st)[0]? = some (ad 0, .inr (6, [.int (st.2 0), .int (st.2 1), .ref (ad 1), .ref (ad 2), .ref (ad 3), .ref (ad 4), .int (st.2 2), .ref (ad 5), .ref (ad 6), .ref (ad 7), .ref (ad 8), .ref (ad 9), .int (st.2 3), .ref (ad 10), .ref (ad 11), .ref (ad 12), .ref (ad 13), .ref (ad 14), .ref (ad 15), .ref (ad 16), .int (st.2 4), .int (st.2 5), .int (st.2 6), .int (st.2 7), .int (st.2 8), .int (st.2 9), .ref (ad 17), .ref (ad 18), .ref (ad 19)])) := rfl
theorem wM_p0_0 (ad : Nat → Nat) (cI cZ : ClassId) (st : jS) (v : Int32) : (wM ad cI cZ st).set 0 (ad 0, .inr (6, ([.int (st.2 0), .int (st.2 1), .ref (ad 1), .ref (ad 2), .ref (ad 3), .ref (ad 4), .int (st.2 2), .ref (ad 5), .ref (ad 6), .ref (ad 7), .ref (ad 8), .ref (ad 9), .int (st.2 3), .ref (ad 10), .ref (ad 11), .ref (ad 12), .ref (ad 13), .ref (ad 14), .ref (ad 15), .ref (ad 16), .int (st.2 4), .int (st.2 5), .int (st.2 6), .int (st.2 7), .int (st.2 8), .int (st.2 9), .ref (ad 17), .ref (ad 18), .ref (ad 19)] : List Value).set 0 (.int v))) = wM ad cI cZ (jis st 0 v) := rfl
theorem wM_p0_1 (ad : Nat → Nat) (cI cZ : ClassId) (st : jS) (v : Int32) : (wM ad cI cZ st).set 0 (ad 0, .inr (6, ([.int (st.2 0), .int (st.2 1), .ref (ad 1), .ref (ad 2), .ref (ad 3), .ref (ad 4), .int (st.2 2), .ref (ad 5), .ref (ad 6), .ref (ad 7), .ref (ad 8), .ref (ad 9), .int (st.2 3), .ref (ad 10), .ref (ad 11), .ref (ad 12), .ref (ad 13), .ref (ad 14), .ref (ad 15), .ref (ad 16), .int (st.2 4), .int (st.2 5), .int (st.2 6), .int (st.2 7), .int (st.2 8), .int (st.2 9), .ref (ad 17), .ref (ad 18), .ref (ad 19)] : List Value).set 1 (.int v))) = wM ad cI cZ (jis st 1 v) := rfl
theorem wM_p0_6 (ad : Nat → Nat) (cI cZ : ClassId) (st : jS) (v : Int32) : (wM ad cI cZ st).set 0 (ad 0, .inr (6, ([.int (st.2 0), .int (st.2 1), .ref (ad 1), .ref (ad 2), .ref (ad 3), .ref (ad 4), .int (st.2 2), .ref (ad 5), .ref (ad 6), .ref (ad 7), .ref (ad 8), .ref (ad 9), .int (st.2 3), .ref (ad 10), .ref (ad 11), .ref (ad 12), .ref (ad 13), .ref (ad 14), .ref (ad 15), .ref (ad 16), .int (st.2 4), .int (st.2 5), .int (st.2 6), .int (st.2 7), .int (st.2 8), .int (st.2 9), .ref (ad 17), .ref (ad 18), .ref (ad 19)] : List Value).set 6 (.int v))) = wM ad cI cZ (jis st 2 v) := rfl
theorem wM_p0_12 (ad : Nat → Nat) (cI cZ : ClassId) (st : jS) (v : Int32) : (wM ad cI cZ st).set 0 (ad 0, .inr (6, ([.int (st.2 0), .int (st.2 1), .ref (ad 1), .ref (ad 2), .ref (ad 3), .ref (ad 4), .int (st.2 2), .ref (ad 5), .ref (ad 6), .ref (ad 7), .ref (ad 8), .ref (ad 9), .int (st.2 3), .ref (ad 10), .ref (ad 11), .ref (ad 12), .ref (ad 13), .ref (ad 14), .ref (ad 15), .ref (ad 16), .int (st.2 4), .int (st.2 5), .int (st.2 6), .int (st.2 7), .int (st.2 8), .int (st.2 9), .ref (ad 17), .ref (ad 18), .ref (ad 19)] : List Value).set 12 (.int v))) = wM ad cI cZ (jis st 3 v) := rfl
theorem wM_p0_20 (ad : Nat → Nat) (cI cZ : ClassId) (st : jS) (v : Int32) : (wM ad cI cZ st).set 0 (ad 0, .inr (6, ([.int (st.2 0), .int (st.2 1), .ref (ad 1), .ref (ad 2), .ref (ad 3), .ref (ad 4), .int (st.2 2), .ref (ad 5), .ref (ad 6), .ref (ad 7), .ref (ad 8), .ref (ad 9), .int (st.2 3), .ref (ad 10), .ref (ad 11), .ref (ad 12), .ref (ad 13), .ref (ad 14), .ref (ad 15), .ref (ad 16), .int (st.2 4), .int (st.2 5), .int (st.2 6), .int (st.2 7), .int (st.2 8), .int (st.2 9), .ref (ad 17), .ref (ad 18), .ref (ad 19)] : List Value).set 20 (.int v))) = wM ad cI cZ (jis st 4 v) := rfl
theorem wM_p0_21 (ad : Nat → Nat) (cI cZ : ClassId) (st : jS) (v : Int32) : (wM ad cI cZ st).set 0 (ad 0, .inr (6, ([.int (st.2 0), .int (st.2 1), .ref (ad 1), .ref (ad 2), .ref (ad 3), .ref (ad 4), .int (st.2 2), .ref (ad 5), .ref (ad 6), .ref (ad 7), .ref (ad 8), .ref (ad 9), .int (st.2 3), .ref (ad 10), .ref (ad 11), .ref (ad 12), .ref (ad 13), .ref (ad 14), .ref (ad 15), .ref (ad 16), .int (st.2 4), .int (st.2 5), .int (st.2 6), .int (st.2 7), .int (st.2 8), .int (st.2 9), .ref (ad 17), .ref (ad 18), .ref (ad 19)] : List Value).set 21 (.int v))) = wM ad cI cZ (jis st 5 v) := rfl
theorem wM_p0_22 (ad : Nat → Nat) (cI cZ : ClassId) (st : jS) (v : Int32) : (wM ad cI cZ st).set 0 (ad 0, .inr (6, ([.int (st.2 0), .int (st.2 1), .ref (ad 1), .ref (ad 2), .ref (ad 3), .ref (ad 4), .int (st.2 2), .ref (ad 5), .ref (ad 6), .ref (ad 7), .ref (ad 8), .ref (ad 9), .int (st.2 3), .ref (ad 10), .ref (ad 11), .ref (ad 12), .ref (ad 13), .ref (ad 14), .ref (ad 15), .ref (ad 16), .int (st.2 4), .int (st.2 5), .int (st.2 6), .int (st.2 7), .int (st.2 8), .int (st.2 9), .ref (ad 17), .ref (ad 18), .ref (ad 19)] : List Value).set 22 (.int v))) = wM ad cI cZ (jis st 6 v) := rfl
theorem wM_p0_23 (ad : Nat → Nat) (cI cZ : ClassId) (st : jS) (v : Int32) : (wM ad cI cZ st).set 0 (ad 0, .inr (6, ([.int (st.2 0), .int (st.2 1), .ref (ad 1), .ref (ad 2), .ref (ad 3), .ref (ad 4), .int (st.2 2), .ref (ad 5), .ref (ad 6), .ref (ad 7), .ref (ad 8), .ref (ad 9), .int (st.2 3), .ref (ad 10), .ref (ad 11), .ref (ad 12), .ref (ad 13), .ref (ad 14), .ref (ad 15), .ref (ad 16), .int (st.2 4), .int (st.2 5), .int (st.2 6), .int (st.2 7), .int (st.2 8), .int (st.2 9), .ref (ad 17), .ref (ad 18), .ref (ad 19)] : List Value).set 23 (.int v))) = wM ad cI cZ (jis st 7 v) := rfl
theorem wM_p0_24 (ad : Nat → Nat) (cI cZ : ClassId) (st : jS) (v : Int32) : (wM ad cI cZ st).set 0 (ad 0, .inr (6, ([.int (st.2 0), .int (st.2 1), .ref (ad 1), .ref (ad 2), .ref (ad 3), .ref (ad 4), .int (st.2 2), .ref (ad 5), .ref (ad 6), .ref (ad 7), .ref (ad 8), .ref (ad 9), .int (st.2 3), .ref (ad 10), .ref (ad 11), .ref (ad 12), .ref (ad 13), .ref (ad 14), .ref (ad 15), .ref (ad 16), .int (st.2 4), .int (st.2 5), .int (st.2 6), .int (st.2 7), .int (st.2 8), .int (st.2 9), .ref (ad 17), .ref (ad 18), .ref (ad 19)] : List Value).set 24 (.int v))) = wM ad cI cZ (jis st 8 v) := rfl
theorem wM_p0_25 (ad : Nat → Nat) (cI cZ : ClassId) (st : jS) (v : Int32) : (wM ad cI cZ st).set 0 (ad 0, .inr (6, ([.int (st.2 0), .int (st.2 1), .ref (ad 1), .ref (ad 2), .ref (ad 3), .ref (ad 4), .int (st.2 2), .ref (ad 5), .ref (ad 6), .ref (ad 7), .ref (ad 8), .ref (ad 9), .int (st.2 3), .ref (ad 10), .ref (ad 11), .ref (ad 12), .ref (ad 13), .ref (ad 14), .ref (ad 15), .ref (ad 16), .int (st.2 4), .int (st.2 5), .int (st.2 6), .int (st.2 7), .int (st.2 8), .int (st.2 9), .ref (ad 17), .ref (ad 18), .ref (ad 19)] : List Value).set 25 (.int v))) = wM ad cI cZ (jis st 9 v) := rfl
theorem wM_g1 (ad : Nat → Nat) (cI cZ : ClassId) (st : jS) : (wM ad cI cZ st)[1]? = some (ad 1, .inl (cI, 80, .inl (st.1 1))) := rfl
theorem wM_s1 (ad : Nat → Nat) (cI cZ : ClassId) (st : jS) (f : Nat → Int32) : (wM ad cI cZ st).set 1 (ad 1, .inl (cI, 80, .inl f)) = wM ad cI cZ (jaf st 1 f) := rfl
theorem wM_g2 (ad : Nat → Nat) (cI cZ : ClassId) (st : jS) : (wM ad cI cZ st)[2]? = some (ad 2, .inl (cI, 80, .inl (st.1 2))) := rfl
theorem wM_s2 (ad : Nat → Nat) (cI cZ : ClassId) (st : jS) (f : Nat → Int32) : (wM ad cI cZ st).set 2 (ad 2, .inl (cI, 80, .inl f)) = wM ad cI cZ (jaf st 2 f) := rfl
theorem wM_g3 (ad : Nat → Nat) (cI cZ : ClassId) (st : jS) : (wM ad cI cZ st)[3]? = some (ad 3, .inl (cI, 80, .inl (st.1 3))) := rfl
theorem wM_s3 (ad : Nat → Nat) (cI cZ : ClassId) (st : jS) (f : Nat → Int32) : (wM ad cI cZ st).set 3 (ad 3, .inl (cI, 80, .inl f)) = wM ad cI cZ (jaf st 3 f) := rfl
theorem wM_g4 (ad : Nat → Nat) (cI cZ : ClassId) (st : jS) : (wM ad cI cZ st)[4]? = some (ad 4, .inl (cI, 10, .inl (st.1 4))) := rfl
theorem wM_s4 (ad : Nat → Nat) (cI cZ : ClassId) (st : jS) (f : Nat → Int32) : (wM ad cI cZ st).set 4 (ad 4, .inl (cI, 10, .inl f)) = wM ad cI cZ (jaf st 4 f) := rfl
theorem wM_g5 (ad : Nat → Nat) (cI cZ : ClassId) (st : jS) : (wM ad cI cZ st)[5]? = some (ad 5, .inl (cI, 40, .inl (st.1 5))) := rfl
theorem wM_s5 (ad : Nat → Nat) (cI cZ : ClassId) (st : jS) (f : Nat → Int32) : (wM ad cI cZ st).set 5 (ad 5, .inl (cI, 40, .inl f)) = wM ad cI cZ (jaf st 5 f) := rfl
theorem wM_g6 (ad : Nat → Nat) (cI cZ : ClassId) (st : jS) : (wM ad cI cZ st)[6]? = some (ad 6, .inl (cZ, 410, .inl (st.1 6))) := rfl
theorem wM_s6 (ad : Nat → Nat) (cI cZ : ClassId) (st : jS) (f : Nat → Int32) : (wM ad cI cZ st).set 6 (ad 6, .inl (cZ, 410, .inl f)) = wM ad cI cZ (jaf st 6 f) := rfl
theorem wM_g7 (ad : Nat → Nat) (cI cZ : ClassId) (st : jS) : (wM ad cI cZ st)[7]? = some (ad 7, .inl (cI, 410, .inl (st.1 7))) := rfl
theorem wM_s7 (ad : Nat → Nat) (cI cZ : ClassId) (st : jS) (f : Nat → Int32) : (wM ad cI cZ st).set 7 (ad 7, .inl (cI, 410, .inl f)) = wM ad cI cZ (jaf st 7 f) := rfl
theorem wM_g8 (ad : Nat → Nat) (cI cZ : ClassId) (st : jS) : (wM ad cI cZ st)[8]? = some (ad 8, .inl (cI, 410, .inl (st.1 8))) := rfl
theorem wM_s8 (ad : Nat → Nat) (cI cZ : ClassId) (st : jS) (f : Nat → Int32) : (wM ad cI cZ st).set 8 (ad 8, .inl (cI, 410, .inl f)) = wM ad cI cZ (jaf st 8 f) := rfl
theorem wM_g9 (ad : Nat → Nat) (cI cZ : ClassId) (st : jS) : (wM ad cI cZ st)[9]? = some (ad 9, .inl (cI, 410, .inl (st.1 9))) := rfl
theorem wM_s9 (ad : Nat → Nat) (cI cZ : ClassId) (st : jS) (f : Nat → Int32) : (wM ad cI cZ st).set 9 (ad 9, .inl (cI, 410, .inl f)) = wM ad cI cZ (jaf st 9 f) := rfl
theorem wM_g10 (ad : Nat → Nat) (cI cZ : ClassId) (st : jS) : (wM ad cI cZ st)[10]? = some (ad 10, .inl (cI, 102, .inl (st.1 10))) := rfl
theorem wM_s10 (ad : Nat → Nat) (cI cZ : ClassId) (st : jS) (f : Nat → Int32) : (wM ad cI cZ st).set 10 (ad 10, .inl (cI, 102, .inl f)) = wM ad cI cZ (jaf st 10 f) := rfl
theorem wM_g11 (ad : Nat → Nat) (cI cZ : ClassId) (st : jS) : (wM ad cI cZ st)[11]? = some (ad 11, .inl (cI, 102, .inl (st.1 11))) := rfl
theorem wM_s11 (ad : Nat → Nat) (cI cZ : ClassId) (st : jS) (f : Nat → Int32) : (wM ad cI cZ st).set 11 (ad 11, .inl (cI, 102, .inl f)) = wM ad cI cZ (jaf st 11 f) := rfl
theorem wM_g12 (ad : Nat → Nat) (cI cZ : ClassId) (st : jS) : (wM ad cI cZ st)[12]? = some (ad 12, .inl (cI, 102, .inl (st.1 12))) := rfl
theorem wM_s12 (ad : Nat → Nat) (cI cZ : ClassId) (st : jS) (f : Nat → Int32) : (wM ad cI cZ st).set 12 (ad 12, .inl (cI, 102, .inl f)) = wM ad cI cZ (jaf st 12 f) := rfl
theorem wM_g13 (ad : Nat → Nat) (cI cZ : ClassId) (st : jS) : (wM ad cI cZ st)[13]? = some (ad 13, .inl (cZ, 102, .inl (st.1 13))) := rfl
theorem wM_s13 (ad : Nat → Nat) (cI cZ : ClassId) (st : jS) (f : Nat → Int32) : (wM ad cI cZ st).set 13 (ad 13, .inl (cZ, 102, .inl f)) = wM ad cI cZ (jaf st 13 f) := rfl
theorem wM_g14 (ad : Nat → Nat) (cI cZ : ClassId) (st : jS) : (wM ad cI cZ st)[14]? = some (ad 14, .inl (cZ, 102, .inl (st.1 14))) := rfl
theorem wM_s14 (ad : Nat → Nat) (cI cZ : ClassId) (st : jS) (f : Nat → Int32) : (wM ad cI cZ st).set 14 (ad 14, .inl (cZ, 102, .inl f)) = wM ad cI cZ (jaf st 14 f) := rfl
theorem wM_g15 (ad : Nat → Nat) (cI cZ : ClassId) (st : jS) : (wM ad cI cZ st)[15]? = some (ad 15, .inl (cI, 102, .inl (st.1 15))) := rfl
theorem wM_s15 (ad : Nat → Nat) (cI cZ : ClassId) (st : jS) (f : Nat → Int32) : (wM ad cI cZ st).set 15 (ad 15, .inl (cI, 102, .inl f)) = wM ad cI cZ (jaf st 15 f) := rfl
theorem wM_g16 (ad : Nat → Nat) (cI cZ : ClassId) (st : jS) : (wM ad cI cZ st)[16]? = some (ad 16, .inl (cI, 102, .inl (st.1 16))) := rfl
theorem wM_s16 (ad : Nat → Nat) (cI cZ : ClassId) (st : jS) (f : Nat → Int32) : (wM ad cI cZ st).set 16 (ad 16, .inl (cI, 102, .inl f)) = wM ad cI cZ (jaf st 16 f) := rfl
theorem wM_g17 (ad : Nat → Nat) (cI cZ : ClassId) (st : jS) : (wM ad cI cZ st)[17]? = some (ad 17, .inl (cZ, 10, .inl (st.1 17))) := rfl
theorem wM_s17 (ad : Nat → Nat) (cI cZ : ClassId) (st : jS) (f : Nat → Int32) : (wM ad cI cZ st).set 17 (ad 17, .inl (cZ, 10, .inl f)) = wM ad cI cZ (jaf st 17 f) := rfl
theorem wM_g18 (ad : Nat → Nat) (cI cZ : ClassId) (st : jS) : (wM ad cI cZ st)[18]? = some (ad 18, .inl (cZ, 80, .inl (st.1 18))) := rfl
theorem wM_s18 (ad : Nat → Nat) (cI cZ : ClassId) (st : jS) (f : Nat → Int32) : (wM ad cI cZ st).set 18 (ad 18, .inl (cZ, 80, .inl f)) = wM ad cI cZ (jaf st 18 f) := rfl
theorem wM_g19 (ad : Nat → Nat) (cI cZ : ClassId) (st : jS) : (wM ad cI cZ st)[19]? = some (ad 19, .inl (cI, 80, .inl (st.1 19))) := rfl
theorem wM_s19 (ad : Nat → Nat) (cI cZ : ClassId) (st : jS) (f : Nat → Int32) : (wM ad cI cZ st).set 19 (ad 19, .inl (cI, 80, .inl f)) = wM ad cI cZ (jaf st 19 f) := rfl
end
section
def jFuel : Nat := 100000
theorem jOut_int {x : Int32} {n : Int} (h : x.toInt = n) : x = Int32.ofInt n := by rw [← h, Int32.ofInt_toInt]
theorem kc_m1 : Int32.ofInt (-1) = (-1) := by decide
theorem kc_0 : Int32.ofInt (0) = 0 := by decide
theorem kc_1 : Int32.ofInt (1) = 1 := by decide
theorem kc_2 : Int32.ofInt (2) = 2 := by decide
theorem kc_3 : Int32.ofInt (3) = 3 := by decide
theorem kc_4 : Int32.ofInt (4) = 4 := by decide
theorem kc_5 : Int32.ofInt (5) = 5 := by decide
theorem kb_m3 : (Int8.ofInt (-3)).toInt32 = (-3) := by decide
theorem kb_7 : (Int8.ofInt (7)).toInt32 = 7 := by decide
theorem kb_8 : (Int8.ofInt (8)).toInt32 = 8 := by decide
theorem kb_10 : (Int8.ofInt (10)).toInt32 = 10 := by decide
theorem kb_32 : (Int8.ofInt (32)).toInt32 = 32 := by decide
theorem kb_80 : (Int8.ofInt (80)).toInt32 = 80 := by decide
theorem kb_101 : (Int8.ofInt (101)).toInt32 = 101 := by decide
theorem kb_126 : (Int8.ofInt (126)).toInt32 = 126 := by decide
theorem ks_255 : (Int16.ofInt (255)).toInt32 = 255 := by decide
theorem ks_409 : (Int16.ofInt (409)).toInt32 = 409 := by decide
theorem ks_410 : (Int16.ofInt (410)).toInt32 = 410 := by decide
theorem jOut0_5 {x : Int32} (h0 : ¬ x = 0) (h1 : ¬ x = 1) (h2 : ¬ x = 2) (h3 : ¬ x = 3) (h4 : ¬ x = 4) (h5 : ¬ x = 5) : x.toInt < 0 ∨ 5 < x.toInt := by
  by_cases p1 : x.toInt < 0
  · exact Or.inl p1
  · by_cases p2 : 5 < x.toInt
    · exact Or.inr p2
    exfalso
    by_cases q0 : x.toInt = 0
    · exact absurd ((jOut_int q0).trans kc_0) h0
    by_cases q1 : x.toInt = 1
    · exact absurd ((jOut_int q1).trans kc_1) h1
    by_cases q2 : x.toInt = 2
    · exact absurd ((jOut_int q2).trans kc_2) h2
    by_cases q3 : x.toInt = 3
    · exact absurd ((jOut_int q3).trans kc_3) h3
    by_cases q4 : x.toInt = 4
    · exact absurd ((jOut_int q4).trans kc_4) h4
    by_cases q5 : x.toInt = 5
    · exact absurd ((jOut_int q5).trans kc_5) h5
    omega
theorem jOut2_5 {x : Int32} (h2 : ¬ x = 2) (h3 : ¬ x = 3) (h4 : ¬ x = 4) (h5 : ¬ x = 5) : x.toInt < 2 ∨ 5 < x.toInt := by
  by_cases p1 : x.toInt < 2
  · exact Or.inl p1
  · by_cases p2 : 5 < x.toInt
    · exact Or.inr p2
    exfalso
    by_cases q2 : x.toInt = 2
    · exact absurd ((jOut_int q2).trans kc_2) h2
    by_cases q3 : x.toInt = 3
    · exact absurd ((jOut_int q3).trans kc_3) h3
    by_cases q4 : x.toInt = 4
    · exact absurd ((jOut_int q4).trans kc_4) h4
    by_cases q5 : x.toInt = 5
    · exact absurd ((jOut_int q5).trans kc_5) h5
    omega
end
section
abbrev rm_X5_bit : Room := { frames := 0, cells := 0, slots := 0, locals := 0 }
def f_X5_bit (a1 : Int32) : Option Int32 :=
  some (1 <<< (a1 &&& 31))
set_option maxHeartbeats 4000000 in
set_option maxRecDepth 100000 in
theorem c_X5_bit {l : Launch} {D : va_G} {S : Type} {wf : S → va_W} {st : S} {tys : List (ClassId × FieldType)} {a1 : Int32} {o : Int32} (h : f_X5_bit a1 = some o) : CtI l D tys wf yX5_bit wsX5_bit (rm_X5_bit) [.int a1] st o st := by
  refine ctI_of (o := (o, st)) (cc := cX5_bit) (nL := 1) (own := RX5) (by decide) rfl rfl (Nat.le_of_ble_eq_true rfl) (lv0 := [(0, .int a1)]) rfl ?_
  intro p e s m args below meth c A E hr
  rw [f_X5_bit] at h
  refine j_iconst E (kc_1) dX5_bit_0 ?_
  refine j_iload_n E 0 rfl rfl dX5_bit_1 ?_
  refine j_ishl E dX5_bit_2 ?_
  exact j_iret E hr rfl (congrArg (fun z => (z, st)) (Option.some.inj h)) dX5_bit_3
abbrev rm_X5_cell : Room := { frames := 0, cells := 0, slots := 0, locals := 0 }
def f_X5_cell (a1 : Int32) (a2 : Int32) : Option Int32 :=
  some ((a2 * 10) + a1)
set_option maxHeartbeats 4000000 in
set_option maxRecDepth 100000 in
theorem c_X5_cell {l : Launch} {D : va_G} {S : Type} {wf : S → va_W} {st : S} {tys : List (ClassId × FieldType)} {a1 : Int32} {a2 : Int32} {o : Int32} (h : f_X5_cell a1 a2 = some o) : CtI l D tys wf yX5_cell wsX5_cell (rm_X5_cell) [.int a1, .int a2] st o st := by
  refine ctI_of (o := (o, st)) (cc := cX5_cell) (nL := 2) (own := RX5) (by decide) rfl rfl (Nat.le_of_ble_eq_true rfl) (lv0 := [(0, .int a1), (1, .int a2)]) rfl ?_
  intro p e s m args below meth c A E hr
  rw [f_X5_cell] at h
  refine j_iload_n E 1 rfl rfl dX5_cell_0 ?_
  refine j_bipush E (kb_10) dX5_cell_1 ?_
  refine j_imul E dX5_cell_3 ?_
  refine j_iload_n E 0 rfl rfl dX5_cell_4 ?_
  refine j_iadd E dX5_cell_5 ?_
  exact j_iret E hr rfl (congrArg (fun z => (z, st)) (Option.some.inj h)) dX5_cell_6
abbrev rm_X5_mix : Room := { frames := 0, cells := 0, slots := 0, locals := 0 }
def f_X5_mix (a1 : Int64) (a2 : Int32) : Option Int64 :=
  some ((a1 * (31 : Int64)) + (a2).toInt64)
set_option maxHeartbeats 4000000 in
set_option maxRecDepth 100000 in
theorem c_X5_mix {l : Launch} {D : va_G} {S : Type} {wf : S → va_W} {st : S} {tys : List (ClassId × FieldType)} {a1 : Int64} {a2 : Int32} {o : Int64} (h : f_X5_mix a1 a2 = some o) : CtL l D tys wf yX5_mix wsX5_mix (rm_X5_mix) [.long a1, .int a2] st o st := by
  refine ctL_of (o := (o, st)) (cc := cX5_mix) (nL := 3) (own := RX5) (by decide) rfl rfl (Nat.le_of_ble_eq_true rfl) (lv0 := [(0, .long a1), (2, .int a2)]) rfl ?_
  intro p e s m args below meth c A E hr
  rw [f_X5_mix] at h
  refine j_lload_n E 0 rfl rfl dX5_mix_0 ?_
  refine j_ldc2 E (List.mem_of_getElem? (i := 1) rfl) dX5_mix_1 ?_
  refine j_lmul E dX5_mix_4 ?_
  refine j_iload_n E 1 rfl rfl dX5_mix_5 ?_
  refine j_i2l E dX5_mix_6 ?_
  refine j_ladd E dX5_mix_7 ?_
  exact j_lret E hr (congrArg (fun z => (z, st)) (Option.some.inj h)) dX5_mix_8
abbrev rm_X5_isByte : Room := { frames := 0, cells := 0, slots := 0, locals := 0 }
def f_X5_isByte (a1 : Int32) : Option Int32 :=
  if a1 < 32 then
    some 0
  else
  if a1 > 126 then
    some 0
  else
  some 1
set_option maxHeartbeats 4000000 in
set_option maxRecDepth 100000 in
theorem c_X5_isByte {l : Launch} {D : va_G} {S : Type} {wf : S → va_W} {st : S} {tys : List (ClassId × FieldType)} {a1 : Int32} {o : Int32} (h : f_X5_isByte a1 = some o) : CtI l D tys wf yX5_isByte wsX5_isByte (rm_X5_isByte) [.int a1] st o st := by
  refine ctI_of (o := (o, st)) (cc := cX5_isByte) (nL := 1) (own := RX5) (by decide) rfl rfl (Nat.le_of_ble_eq_true rfl) (lv0 := [(0, .int a1)]) rfl ?_
  intro p e s m args below meth c A E hr
  rw [f_X5_isByte] at h
  refine j_iload_n E 0 rfl rfl dX5_isByte_0 ?_
  refine j_bipush E (kb_32) dX5_isByte_1 ?_
  refine j_icmp_lt E (tgt := 16) (by decide) dX5_isByte_3 (fun c1 => ?_) (fun c1 => ?_)
  · have h := jit h c1
    refine j_iconst E (kc_0) dX5_isByte_16 ?_
    exact j_iret E hr rfl (congrArg (fun z => (z, st)) (Option.some.inj h)) dX5_isByte_17
  · have h := jif h c1
    refine j_iload_n E 0 rfl rfl dX5_isByte_6 ?_
    refine j_bipush E (kb_126) dX5_isByte_7 ?_
    refine j_icmp_gt E (tgt := 16) (by decide) dX5_isByte_9 (fun c2 => ?_) (fun c2 => ?_)
    · have h := jit h c2
      refine j_iconst E (kc_0) dX5_isByte_16 ?_
      exact j_iret E hr rfl (congrArg (fun z => (z, st)) (Option.some.inj h)) dX5_isByte_17
    · have h := jif h c2
      refine j_iconst E (kc_1) dX5_isByte_12 ?_
      refine j_goto E (tgt := 17) (by decide) dX5_isByte_13 ?_
      exact j_iret E hr rfl (congrArg (fun z => (z, st)) (Option.some.inj h)) dX5_isByte_17
abbrev rm_X5_packedByte : Room := { frames := 0, cells := 0, slots := 0, locals := 0 }
def f_X5_packedByte (a1 : Int64) (a2 : Int32) : Option Int32 :=
  some (((((a1).toUInt64 >>> (((8 * (7 - a2))).toInt64.toUInt64 &&& Int64.toUInt64 63)).toInt64)).toInt32 &&& 255)
set_option maxHeartbeats 4000000 in
set_option maxRecDepth 100000 in
theorem c_X5_packedByte {l : Launch} {D : va_G} {S : Type} {wf : S → va_W} {st : S} {tys : List (ClassId × FieldType)} {a1 : Int64} {a2 : Int32} {o : Int32} (h : f_X5_packedByte a1 a2 = some o) : CtI l D tys wf yX5_packedByte wsX5_packedByte (rm_X5_packedByte) [.long a1, .int a2] st o st := by
  refine ctI_of (o := (o, st)) (cc := cX5_packedByte) (nL := 3) (own := RX5) (by decide) rfl rfl (Nat.le_of_ble_eq_true rfl) (lv0 := [(0, .long a1), (2, .int a2)]) rfl ?_
  intro p e s m args below meth c A E hr
  rw [f_X5_packedByte] at h
  refine j_lload_n E 0 rfl rfl dX5_packedByte_0 ?_
  refine j_bipush E (kb_8) dX5_packedByte_1 ?_
  refine j_bipush E (kb_7) dX5_packedByte_3 ?_
  refine j_iload_n E 1 rfl rfl dX5_packedByte_5 ?_
  refine j_isub E dX5_packedByte_6 ?_
  refine j_imul E dX5_packedByte_7 ?_
  refine j_lushr E dX5_packedByte_8 ?_
  refine j_l2i E dX5_packedByte_9 ?_
  refine j_sipush E (ks_255) dX5_packedByte_10 ?_
  refine j_iand E dX5_packedByte_13 ?_
  exact j_iret E hr rfl (congrArg (fun z => (z, st)) (Option.some.inj h)) dX5_packedByte_14
abbrev rm_X5_countBytes : Room := { frames := 1, cells := 0, slots := 0, locals := 22 }
def f_X5_countBytes_4 (K : Int64 → Int32 → Int32 → Option Int32) : Nat → Int64 → Int32 → Int32 → Option Int32
  | 0, _, _, _ => none
  | n + 1, v0, v2, v3 =>
    if v3 ≥ 8 then
      K v0 v2 v3
    else
    (f_X5_packedByte v0 v3).bind fun r2 =>
    if r2 = 0 then
      jl (v3 + 1) fun x4 =>
      f_X5_countBytes_4 K n v0 v2 x4
    else
    jl (v2 + 1) fun x5 =>
    jl (v3 + 1) fun x6 =>
    f_X5_countBytes_4 K n v0 x5 x6
def f_X5_countBytes (a1 : Int64) : Option Int32 :=
  f_X5_countBytes_4 (fun y7 y8 y9 =>
    some y8
    ) jFuel a1 0 0
set_option maxHeartbeats 4000000 in
set_option maxRecDepth 100000 in
theorem w_X5_countBytes_4 {S : Type} {wf : S → va_W} {st : S} {tys : List (ClassId × FieldType)} {p : Program} {l : Launch} {e : Env} {s : State} {m : MethodId} {args : Array Value} {below : List Frame} {meth : Method} {c : Code} {D : va_G} {A : Nat → Prop} {o : Int32} (E : jE p s m args meth c cX5_countBytes 4 RX5 wsX5_countBytes D tys A) (hr : meth.sig.returnType = (some .int)) {K : Int64 → Int32 → Int32 → Option Int32} (hK : ∀ (v0 : Int64) (v2 : Int32) (v3 : Int32), K v0 v2 v3 = some o → J p l e (rm_X5_countBytes) s m args below meth c 4 D A wf (jZI D wf A below args s (o, st)) 0 0 st 27 [(0, .long v0), (2, .int v2), (3, .int v3)] []) :
    ∀ (n : Nat) (v0 : Int64) (v2 : Int32) (v3 : Int32), f_X5_countBytes_4 K n v0 v2 v3 = some o → J p l e (rm_X5_countBytes) s m args below meth c 4 D A wf (jZI D wf A below args s (o, st)) 0 0 st 4 [(0, .long v0), (2, .int v2), (3, .int v3)] [] := by
  intro n
  induction n with
  | zero => intro v0 v2 v3 h; cases h
  | succ n ih =>
    intro v0 v2 v3 h
    rw [f_X5_countBytes_4] at h
    refine j_iload_n E 2 rfl rfl dX5_countBytes_4 ?_
    refine j_bipush E (kb_8) dX5_countBytes_5 ?_
    refine j_icmp_ge E (tgt := 27) (by decide) dX5_countBytes_7 (fun c1 => ?_) (fun c1 => ?_)
    · have h := jit h c1
      refine j_sub [0, 1, 2] (lv' := [(0, .long v0), (2, .int v2), (3, .int v3)]) rfl ?_
      exact hK _ _ _ h
    · have h := jif h c1
      refine j_lload_n E 0 rfl rfl dX5_countBytes_10 ?_
      refine j_iload_n E 2 rfl rfl dX5_countBytes_11 ?_
      obtain ⟨r2, er2, h⟩ := jbd h
      refine j_callSi E (As := [.long v0, .int v3]) (c_X5_packedByte er2) (va_cwS 2 E.1.2.2.2.2 gX5_countBytes_X5_packedByte rfl rfl rfl (by decide +kernel) ⟨Nat.le_of_ble_eq_true rfl, Nat.le_of_ble_eq_true rfl⟩) rfl rfl (Nat.le_of_ble_eq_true rfl) ⟨Nat.zero_le _, Nat.zero_le _⟩ dX5_countBytes_12 ?_
      refine j_if_eq E (tgt := 21) (by decide) dX5_countBytes_15 (fun c3 => ?_) (fun c3 => ?_)
      · have h := jit h c3
        obtain ⟨x4, ex4, h⟩ := jle h
        refine j_iinc E 2 rfl kc_1 ex4 (by decide) (lv' := [(3, .int x4), (0, .long v0), (2, .int v2)]) rfl dX5_countBytes_21 ?_
        refine j_goto E (tgt := 4) (by decide) dX5_countBytes_24 ?_
        refine j_sub [1, 2, 0] (lv' := [(0, .long v0), (2, .int v2), (3, .int x4)]) rfl ?_
        exact ih _ _ _ h
      · have h := jif h c3
        obtain ⟨x5, ex5, h⟩ := jle h
        refine j_iinc E 1 rfl kc_1 ex5 (by decide) (lv' := [(2, .int x5), (0, .long v0), (3, .int v3)]) rfl dX5_countBytes_18 ?_
        obtain ⟨x6, ex6, h⟩ := jle h
        refine j_iinc E 2 rfl kc_1 ex6 (by decide) (lv' := [(3, .int x6), (2, .int x5), (0, .long v0)]) rfl dX5_countBytes_21 ?_
        refine j_goto E (tgt := 4) (by decide) dX5_countBytes_24 ?_
        refine j_sub [2, 1, 0] (lv' := [(0, .long v0), (2, .int x5), (3, .int x6)]) rfl ?_
        exact ih _ _ _ h
set_option maxHeartbeats 4000000 in
set_option maxRecDepth 100000 in
theorem c_X5_countBytes {l : Launch} {D : va_G} {S : Type} {wf : S → va_W} {st : S} {tys : List (ClassId × FieldType)} {a1 : Int64} {o : Int32} (h : f_X5_countBytes a1 = some o) : CtI l D tys wf yX5_countBytes wsX5_countBytes (rm_X5_countBytes) [.long a1] st o st := by
  refine ctI_of (o := (o, st)) (cc := cX5_countBytes) (nL := 4) (own := RX5) (by decide) rfl rfl (Nat.le_of_ble_eq_true rfl) (lv0 := [(0, .long a1)]) rfl ?_
  intro p e s m args below meth c A E hr
  rw [f_X5_countBytes] at h
  refine j_iconst E (kc_0) dX5_countBytes_0 ?_
  refine j_istore_n E rfl (by decide) (lv' := [(2, .int 0), (0, .long a1)]) rfl dX5_countBytes_1 ?_
  refine j_iconst E (kc_0) dX5_countBytes_2 ?_
  refine j_istore_n E rfl (by decide) (lv' := [(3, .int 0), (2, .int 0), (0, .long a1)]) rfl dX5_countBytes_3 ?_
  refine j_sub [2, 1, 0] (lv' := [(0, .long a1), (2, .int 0), (3, .int 0)]) rfl ?_
  refine w_X5_countBytes_4 E hr (fun y7 y8 y9 h => ?_) _ _ _ _ h
  refine j_iload_n E 1 rfl rfl dX5_countBytes_27 ?_
  exact j_iret E hr rfl (congrArg (fun z => (z, st)) (Option.some.inj h)) dX5_countBytes_28
abbrev rm_X5_areBytes : Room := { frames := 1, cells := 0, slots := 0, locals := 22 }
def f_X5_areBytes_2 (K : Int64 → Int32 → Option Int32) : Nat → Int64 → Int32 → Option Int32
  | 0, _, _ => none
  | n + 1, v0, v2 =>
    if v2 ≥ 8 then
      K v0 v2
    else
    (f_X5_packedByte v0 v2).bind fun r2 =>
    if r2 = 0 then
      jl (v2 + 1) fun x4 =>
      f_X5_areBytes_2 K n v0 x4
    else
    (f_X5_isByte r2).bind fun r5 =>
    if r5 = 0 then
      some 0
    else
    jl (v2 + 1) fun x7 =>
    f_X5_areBytes_2 K n v0 x7
def f_X5_areBytes (a1 : Int64) : Option Int32 :=
  f_X5_areBytes_2 (fun y8 y9 =>
    some 1
    ) jFuel a1 0
set_option maxHeartbeats 4000000 in
set_option maxRecDepth 100000 in
theorem w_X5_areBytes_2 {S : Type} {wf : S → va_W} {st : S} {tys : List (ClassId × FieldType)} {p : Program} {l : Launch} {e : Env} {s : State} {m : MethodId} {args : Array Value} {below : List Frame} {meth : Method} {c : Code} {D : va_G} {A : Nat → Prop} {o : Int32} (E : jE p s m args meth c cX5_areBytes 4 RX5 wsX5_areBytes D tys A) (hr : meth.sig.returnType = (some .boolean)) {K : Int64 → Int32 → Option Int32} (hK : ∀ (v0 : Int64) (v2 : Int32), K v0 v2 = some o → J p l e (rm_X5_areBytes) s m args below meth c 4 D A wf (jZI D wf A below args s (o, st)) 0 0 st 33 [(0, .long v0), (2, .int v2)] []) :
    ∀ (n : Nat) (v0 : Int64) (v2 : Int32), f_X5_areBytes_2 K n v0 v2 = some o → J p l e (rm_X5_areBytes) s m args below meth c 4 D A wf (jZI D wf A below args s (o, st)) 0 0 st 2 [(0, .long v0), (2, .int v2)] [] := by
  intro n
  induction n with
  | zero => intro v0 v2 h; cases h
  | succ n ih =>
    intro v0 v2 h
    rw [f_X5_areBytes_2] at h
    refine j_iload_n E 1 rfl rfl dX5_areBytes_2 ?_
    refine j_bipush E (kb_8) dX5_areBytes_3 ?_
    refine j_icmp_ge E (tgt := 33) (by decide) dX5_areBytes_5 (fun c1 => ?_) (fun c1 => ?_)
    · have h := jit h c1
      refine j_sub [0, 1] (lv' := [(0, .long v0), (2, .int v2)]) rfl ?_
      exact hK _ _ h
    · have h := jif h c1
      refine j_lload_n E 0 rfl rfl dX5_areBytes_8 ?_
      refine j_iload_n E 1 rfl rfl dX5_areBytes_9 ?_
      obtain ⟨r2, er2, h⟩ := jbd h
      refine j_callSi E (As := [.long v0, .int v2]) (c_X5_packedByte er2) (va_cwS 2 E.1.2.2.2.2 gX5_areBytes_X5_packedByte rfl rfl rfl (by decide +kernel) ⟨Nat.le_of_ble_eq_true rfl, Nat.le_of_ble_eq_true rfl⟩) rfl rfl (Nat.le_of_ble_eq_true rfl) ⟨Nat.zero_le _, Nat.zero_le _⟩ dX5_areBytes_10 ?_
      refine j_istore_n E rfl (by decide) (lv' := [(3, .int r2), (0, .long v0), (2, .int v2)]) rfl dX5_areBytes_13 ?_
      refine j_iload_n E 0 rfl rfl dX5_areBytes_14 ?_
      refine j_if_eq E (tgt := 27) (by decide) dX5_areBytes_15 (fun c3 => ?_) (fun c3 => ?_)
      · have h := jit h c3
        obtain ⟨x4, ex4, h⟩ := jle h
        refine j_iinc E 2 rfl kc_1 ex4 (by decide) (lv' := [(2, .int x4), (3, .int r2), (0, .long v0)]) rfl dX5_areBytes_27 ?_
        refine j_goto E (tgt := 2) (by decide) dX5_areBytes_30 ?_
        refine j_sub [2, 0] (lv' := [(0, .long v0), (2, .int x4)]) rfl ?_
        exact ih _ _ h
      · have h := jif h c3
        refine j_iload_n E 0 rfl rfl dX5_areBytes_18 ?_
        obtain ⟨r5, er5, h⟩ := jbd h
        refine j_callSi E (As := [.int r2]) (c_X5_isByte er5) (va_cwS 1 E.1.2.2.2.2 gX5_areBytes_X5_isByte rfl rfl rfl (by decide +kernel) ⟨Nat.le_of_ble_eq_true rfl, Nat.le_of_ble_eq_true rfl⟩) rfl rfl (Nat.le_of_ble_eq_true rfl) ⟨Nat.zero_le _, Nat.zero_le _⟩ dX5_areBytes_19 ?_
        refine j_if_ne E (tgt := 27) (by decide) dX5_areBytes_22 (fun c6 => ?_) (fun c6 => ?_)
        · have h := jif h c6
          obtain ⟨x7, ex7, h⟩ := jle h
          refine j_iinc E 2 rfl kc_1 ex7 (by decide) (lv' := [(2, .int x7), (3, .int r2), (0, .long v0)]) rfl dX5_areBytes_27 ?_
          refine j_goto E (tgt := 2) (by decide) dX5_areBytes_30 ?_
          refine j_sub [2, 0] (lv' := [(0, .long v0), (2, .int x7)]) rfl ?_
          exact ih _ _ h
        · have h := jit h c6
          refine j_iconst E (kc_0) dX5_areBytes_25 ?_
          exact j_iret E hr rfl (congrArg (fun z => (z, st)) (Option.some.inj h)) dX5_areBytes_26
set_option maxHeartbeats 4000000 in
set_option maxRecDepth 100000 in
theorem c_X5_areBytes {l : Launch} {D : va_G} {S : Type} {wf : S → va_W} {st : S} {tys : List (ClassId × FieldType)} {a1 : Int64} {o : Int32} (h : f_X5_areBytes a1 = some o) : CtI l D tys wf yX5_areBytes wsX5_areBytes (rm_X5_areBytes) [.long a1] st o st := by
  refine ctI_of (o := (o, st)) (cc := cX5_areBytes) (nL := 4) (own := RX5) (by decide) rfl rfl (Nat.le_of_ble_eq_true rfl) (lv0 := [(0, .long a1)]) rfl ?_
  intro p e s m args below meth c A E hr
  rw [f_X5_areBytes] at h
  refine j_iconst E (kc_0) dX5_areBytes_0 ?_
  refine j_istore_n E rfl (by decide) (lv' := [(2, .int 0), (0, .long a1)]) rfl dX5_areBytes_1 ?_
  refine j_sub [1, 0] (lv' := [(0, .long a1), (2, .int 0)]) rfl ?_
  refine w_X5_areBytes_2 E hr (fun y8 y9 h => ?_) _ _ _ h
  refine j_iconst E (kc_1) dX5_areBytes_33 ?_
  exact j_iret E hr rfl (congrArg (fun z => (z, st)) (Option.some.inj h)) dX5_areBytes_34
abbrev rm_X1_holds : Room := { frames := 0, cells := 0, slots := 0, locals := 0 }
theorem in_X1_holds_X1 : ∀ w ∈ u_ws RX1 TX1 3, w ∈ wsX1_holds := fun w h => (List.mem_cons_of_mem _ (List.mem_append_right _ h))
def f_X1_holds (st : jS) (a1 : Int32) : Option (Int32 × jS) :=
  bif job a1 410 then none else
  if (jag st 12 a1) = (-3) then
    some (0, st)
  else
  some (1, st)
set_option maxHeartbeats 4000000 in
set_option maxRecDepth 100000 in
theorem c_X1_holds {l : Launch} {D : va_G} {ad : Nat → Nat} {cI cZ : ClassId} {st : jS} {a1 : Int32} {o : (Int32 × jS)} (h : f_X1_holds st a1 = some o) : CtI l D (jT cI cZ) (wX ad cI cZ) yX1_holds wsX1_holds (rm_X1_holds) [.ref (ad 11), .int a1] st o.1 o.2 := by
  refine ctI_of (o := o) (cc := cX1_holds) (nL := 2) (own := RX1) (by decide) rfl rfl (Nat.le_of_ble_eq_true rfl) (lv0 := [(0, .ref (ad 11)), (1, .int a1)]) rfl ?_
  intro p e s m args below meth c A E hr
  rw [f_X1_holds] at h
  refine j_aload_n E 0 rfl rfl dX1_holds_0 ?_
  refine j_get E 11 (wX_g11 ad cI cZ _) rfl 0 rfl in_X1_holds_X1 (by decide) (List.mem_of_getElem? (i := 1) rfl) (fun _ h9 => h9) dX1_holds_1 ?_
  refine j_iload_n E 1 rfl rfl dX1_holds_4 ?_
  obtain ⟨b1, h⟩ := job_else h
  refine j_iald E 12 0 (wX_g12 ad cI cZ _) rfl b1 dX1_holds_5 ?_
  refine j_bipush E (kb_m3) dX1_holds_6 ?_
  refine j_icmp_eq E (tgt := 15) (by decide) dX1_holds_8 (fun c2 => ?_) (fun c2 => ?_)
  · have h := jit h c2
    refine j_iconst E (kc_0) dX1_holds_15 ?_
    exact j_iret E hr rfl (Option.some.inj h) dX1_holds_16
  · have h := jif h c2
    refine j_iconst E (kc_1) dX1_holds_11 ?_
    refine j_goto E (tgt := 16) (by decide) dX1_holds_12 ?_
    exact j_iret E hr rfl (Option.some.inj h) dX1_holds_16
abbrev rm_X1_put : Room := { frames := 0, cells := 0, slots := 0, locals := 0 }
theorem in_X1_put_X1 : ∀ w ∈ u_ws RX1 TX1 3, w ∈ wsX1_put := fun w h => (List.mem_cons_of_mem _ (List.mem_append_right _ h))
def f_X1_put (st : jS) (a1 : Int32) (a2 : Int32) (a3 : Int32) (a4 : Int32) : Option jS :=
  bif job a1 410 then none else
  jl (jas st 12 a1 a2) fun s2 =>
  bif job a1 410 then none else
  jl (jas s2 13 a1 a3) fun s4 =>
  bif job a1 410 then none else
  jl (jas s4 14 a1 a4) fun s6 =>
  some s6
set_option maxHeartbeats 4000000 in
set_option maxRecDepth 100000 in
theorem c_X1_put {l : Launch} {D : va_G} {ad : Nat → Nat} {cI cZ : ClassId} {st : jS} {a1 : Int32} {a2 : Int32} {a3 : Int32} {a4 : Int32} {o : jS} (h : f_X1_put st a1 a2 a3 a4 = some o) : CtV l D (jT cI cZ) (wX ad cI cZ) yX1_put wsX1_put (rm_X1_put) [.ref (ad 11), .int a1, .int a2, .int a3, .int a4] st o := by
  refine ctV_of (o := o) (cc := cX1_put) (nL := 5) (own := RX1) (by decide) rfl rfl (Nat.le_of_ble_eq_true rfl) (lv0 := [(0, .ref (ad 11)), (1, .int a1), (2, .int a2), (3, .int a3), (4, .int a4)]) rfl ?_
  intro p e s m args below meth c A E hr
  rw [f_X1_put] at h
  refine j_aload_n E 0 rfl rfl dX1_put_0 ?_
  refine j_get E 11 (wX_g11 ad cI cZ _) rfl 0 rfl in_X1_put_X1 (by decide) (List.mem_of_getElem? (i := 1) rfl) (fun _ h9 => h9) dX1_put_1 ?_
  refine j_iload_n E 1 rfl rfl dX1_put_4 ?_
  refine j_iload_n E 2 rfl rfl dX1_put_5 ?_
  obtain ⟨b1, h⟩ := job_else h
  obtain ⟨s2, es2, h⟩ := jle h
  refine j_iast E 12 0 (wX_g12 ad cI cZ _) rfl (wX_s12 ad cI cZ _ _) b1 dX1_put_6 ?_
  refine j_st es2 ?_
  refine j_aload_n E 0 rfl rfl dX1_put_7 ?_
  refine j_get E 11 (wX_g11 ad cI cZ _) rfl 1 rfl in_X1_put_X1 (by decide) (List.mem_of_getElem? (i := 2) rfl) (fun _ h9 => h9) dX1_put_8 ?_
  refine j_iload_n E 1 rfl rfl dX1_put_11 ?_
  refine j_iload_n E 3 rfl rfl dX1_put_12 ?_
  obtain ⟨b3, h⟩ := job_else h
  obtain ⟨s4, es4, h⟩ := jle h
  refine j_iast E 13 0 (wX_g13 ad cI cZ _) rfl (wX_s13 ad cI cZ _ _) b3 dX1_put_13 ?_
  refine j_st es4 ?_
  refine j_aload_n E 0 rfl rfl dX1_put_14 ?_
  refine j_get E 11 (wX_g11 ad cI cZ _) rfl 2 rfl in_X1_put_X1 (by decide) (List.mem_of_getElem? (i := 3) rfl) (fun _ h9 => h9) dX1_put_15 ?_
  refine j_iload_n E 1 rfl rfl dX1_put_18 ?_
  refine j_iload E 4 rfl dX1_put_19 ?_
  obtain ⟨b5, h⟩ := job_else h
  obtain ⟨s6, es6, h⟩ := jle h
  refine j_iast E 14 0 (wX_g14 ad cI cZ _) rfl (wX_s14 ad cI cZ _ _) b5 dX1_put_21 ?_
  refine j_st es6 ?_
  exact j_vret E hr (Option.some.inj h) dX1_put_22
abbrev rm_X1_drop : Room := { frames := 1, cells := 0, slots := 0, locals := 24 }
def f_X1_drop (st : jS) (a1 : Int32) : Option jS :=
  (f_X1_put st a1 (-3) (-1) 0).bind fun r1 =>
  some r1
set_option maxHeartbeats 4000000 in
set_option maxRecDepth 100000 in
theorem c_X1_drop {l : Launch} {D : va_G} {ad : Nat → Nat} {cI cZ : ClassId} {st : jS} {a1 : Int32} {o : jS} (h : f_X1_drop st a1 = some o) : CtV l D (jT cI cZ) (wX ad cI cZ) yX1_drop wsX1_drop (rm_X1_drop) [.ref (ad 11), .int a1] st o := by
  refine ctV_of (o := o) (cc := cX1_drop) (nL := 2) (own := RX1) (by decide) rfl rfl (Nat.le_of_ble_eq_true rfl) (lv0 := [(0, .ref (ad 11)), (1, .int a1)]) rfl ?_
  intro p e s m args below meth c A E hr
  rw [f_X1_drop] at h
  refine j_aload_n E 0 rfl rfl dX1_drop_0 ?_
  refine j_iload_n E 1 rfl rfl dX1_drop_1 ?_
  refine j_bipush E (kb_m3) dX1_drop_2 ?_
  refine j_iconst E (kc_m1) dX1_drop_4 ?_
  refine j_iconst E (kc_0) dX1_drop_5 ?_
  obtain ⟨r1, er1, h⟩ := jbd h
  refine j_callVv E (As := [.int a1, .int (-3), .int (-1), .int 0]) (c_X1_put er1) (cwV 4 E.1.2.2.2.2 gX1_drop_X1_put rfl rfl rfl (by decide +kernel) ⟨Nat.le_of_ble_eq_true rfl, Nat.le_of_ble_eq_true rfl⟩) (wX_g11 ad cI cZ _) rfl rfl rfl (Nat.le_of_ble_eq_true rfl) ⟨Nat.zero_le _, Nat.zero_le _⟩ dX1_drop_6 ?_
  exact j_vret E hr (Option.some.inj h) dX1_drop_9
abbrev rm_X1_clear : Room := { frames := 2, cells := 0, slots := 0, locals := 45 }
def f_X1_clear_2 (K : jS → Int32 → Option jS) : Nat → jS → Int32 → Option jS
  | 0, _, _ => none
  | n + 1, st, v1 =>
    if v1 ≥ 410 then
      K st v1
    else
    (f_X1_drop st v1).bind fun r2 =>
    jl (v1 + 1) fun x3 =>
    f_X1_clear_2 K n r2 x3
def f_X1_clear (st : jS)  : Option jS :=
  f_X1_clear_2 (fun s5 y4 =>
    some s5
    ) jFuel st 0
set_option maxHeartbeats 4000000 in
set_option maxRecDepth 100000 in
theorem w_X1_clear_2 {ad : Nat → Nat} {cI cZ : ClassId} {p : Program} {l : Launch} {e : Env} {s : State} {m : MethodId} {args : Array Value} {below : List Frame} {meth : Method} {c : Code} {D : va_G} {A : Nat → Prop} {o : jS} (E : jE p s m args meth c cX1_clear 2 RX1 wsX1_clear D (jT cI cZ) A) (hr : meth.sig.returnType = none) {K : jS → Int32 → Option jS} (hK : ∀ (st : jS) (v1 : Int32), K st v1 = some o → J p l e (rm_X1_clear) s m args below meth c 2 D A (wX ad cI cZ) (jZV D (wX ad cI cZ) A below args s o) 0 0 st 20 [(0, .ref (ad 11)), (1, .int v1)] []) :
    ∀ (n : Nat) (st : jS) (v1 : Int32), f_X1_clear_2 K n st v1 = some o → J p l e (rm_X1_clear) s m args below meth c 2 D A (wX ad cI cZ) (jZV D (wX ad cI cZ) A below args s o) 0 0 st 2 [(0, .ref (ad 11)), (1, .int v1)] [] := by
  intro n
  induction n with
  | zero => intro st v1 h; cases h
  | succ n ih =>
    intro st v1 h
    rw [f_X1_clear_2] at h
    refine j_iload_n E 1 rfl rfl dX1_clear_2 ?_
    refine j_sipush E (ks_410) dX1_clear_3 ?_
    refine j_icmp_ge E (tgt := 20) (by decide) dX1_clear_6 (fun c1 => ?_) (fun c1 => ?_)
    · have h := jit h c1
      refine j_sub [0, 1] (lv' := [(0, .ref (ad 11)), (1, .int v1)]) rfl ?_
      exact hK _ _ h
    · have h := jif h c1
      refine j_aload_n E 0 rfl rfl dX1_clear_9 ?_
      refine j_iload_n E 1 rfl rfl dX1_clear_10 ?_
      obtain ⟨r2, er2, h⟩ := jbd h
      refine j_callVv E (As := [.int v1]) (c_X1_drop er2) (cwV 1 E.1.2.2.2.2 gX1_clear_X1_drop rfl rfl rfl (by decide +kernel) ⟨Nat.le_of_ble_eq_true rfl, Nat.le_of_ble_eq_true rfl⟩) (wX_g11 ad cI cZ _) rfl rfl rfl (Nat.le_of_ble_eq_true rfl) ⟨Nat.zero_le _, Nat.zero_le _⟩ dX1_clear_11 ?_
      obtain ⟨x3, ex3, h⟩ := jle h
      refine j_iinc E 1 rfl kc_1 ex3 (by decide) (lv' := [(1, .int x3), (0, .ref (ad 11))]) rfl dX1_clear_14 ?_
      refine j_goto E (tgt := 2) (by decide) dX1_clear_17 ?_
      refine j_sub [1, 0] (lv' := [(0, .ref (ad 11)), (1, .int x3)]) rfl ?_
      exact ih _ _ h
set_option maxHeartbeats 4000000 in
set_option maxRecDepth 100000 in
theorem c_X1_clear {l : Launch} {D : va_G} {ad : Nat → Nat} {cI cZ : ClassId} {st : jS}  {o : jS} (h : f_X1_clear st = some o) : CtV l D (jT cI cZ) (wX ad cI cZ) yX1_clear wsX1_clear (rm_X1_clear) [.ref (ad 11)] st o := by
  refine ctV_of (o := o) (cc := cX1_clear) (nL := 2) (own := RX1) (by decide) rfl rfl (Nat.le_of_ble_eq_true rfl) (lv0 := [(0, .ref (ad 11))]) rfl ?_
  intro p e s m args below meth c A E hr
  rw [f_X1_clear] at h
  refine j_iconst E (kc_0) dX1_clear_0 ?_
  refine j_istore_n E rfl (by decide) (lv' := [(1, .int 0), (0, .ref (ad 11))]) rfl dX1_clear_1 ?_
  refine j_sub [1, 0] (lv' := [(0, .ref (ad 11)), (1, .int 0)]) rfl ?_
  refine w_X1_clear_2 E hr (fun s5 y4 h => ?_) _ _ _ h
  exact j_vret E hr (Option.some.inj h) dX1_clear_20
abbrev rm_X1_count : Room := { frames := 1, cells := 0, slots := 0, locals := 21 }
def f_X1_count_4 (K : jS → Int32 → Int32 → Option (Int32 × jS)) : Nat → jS → Int32 → Int32 → Option (Int32 × jS)
  | 0, _, _, _ => none
  | n + 1, st, v1, v2 =>
    if v2 ≥ 410 then
      K st v1 v2
    else
    (f_X1_holds st v2).bind fun r2 =>
    if r2.1 = 0 then
      jl (v2 + 1) fun x4 =>
      f_X1_count_4 K n r2.2 v1 x4
    else
    jl (v1 + 1) fun x5 =>
    jl (v2 + 1) fun x6 =>
    f_X1_count_4 K n r2.2 x5 x6
def f_X1_count (st : jS)  : Option (Int32 × jS) :=
  f_X1_count_4 (fun s9 y7 y8 =>
    some (y7, s9)
    ) jFuel st 0 0
set_option maxHeartbeats 4000000 in
set_option maxRecDepth 100000 in
theorem w_X1_count_4 {ad : Nat → Nat} {cI cZ : ClassId} {p : Program} {l : Launch} {e : Env} {s : State} {m : MethodId} {args : Array Value} {below : List Frame} {meth : Method} {c : Code} {D : va_G} {A : Nat → Prop} {o : (Int32 × jS)} (E : jE p s m args meth c cX1_count 3 RX1 wsX1_count D (jT cI cZ) A) (hr : meth.sig.returnType = (some .int)) {K : jS → Int32 → Int32 → Option (Int32 × jS)} (hK : ∀ (st : jS) (v1 : Int32) (v2 : Int32), K st v1 v2 = some o → J p l e (rm_X1_count) s m args below meth c 3 D A (wX ad cI cZ) (jZI D (wX ad cI cZ) A below args s o) 0 0 st 28 [(0, .ref (ad 11)), (1, .int v1), (2, .int v2)] []) :
    ∀ (n : Nat) (st : jS) (v1 : Int32) (v2 : Int32), f_X1_count_4 K n st v1 v2 = some o → J p l e (rm_X1_count) s m args below meth c 3 D A (wX ad cI cZ) (jZI D (wX ad cI cZ) A below args s o) 0 0 st 4 [(0, .ref (ad 11)), (1, .int v1), (2, .int v2)] [] := by
  intro n
  induction n with
  | zero => intro st v1 v2 h; cases h
  | succ n ih =>
    intro st v1 v2 h
    rw [f_X1_count_4] at h
    refine j_iload_n E 2 rfl rfl dX1_count_4 ?_
    refine j_sipush E (ks_410) dX1_count_5 ?_
    refine j_icmp_ge E (tgt := 28) (by decide) dX1_count_8 (fun c1 => ?_) (fun c1 => ?_)
    · have h := jit h c1
      refine j_sub [0, 1, 2] (lv' := [(0, .ref (ad 11)), (1, .int v1), (2, .int v2)]) rfl ?_
      exact hK _ _ _ h
    · have h := jif h c1
      refine j_aload_n E 0 rfl rfl dX1_count_11 ?_
      refine j_iload_n E 2 rfl rfl dX1_count_12 ?_
      obtain ⟨r2, er2, h⟩ := jbd h
      refine j_callVi E (As := [.int v2]) (c_X1_holds er2) (cwV 1 E.1.2.2.2.2 gX1_count_X1_holds rfl rfl rfl (by decide +kernel) ⟨Nat.le_of_ble_eq_true rfl, Nat.le_of_ble_eq_true rfl⟩) (wX_g11 ad cI cZ _) rfl rfl rfl (Nat.le_of_ble_eq_true rfl) ⟨Nat.zero_le _, Nat.zero_le _⟩ dX1_count_13 ?_
      refine j_if_eq E (tgt := 22) (by decide) dX1_count_16 (fun c3 => ?_) (fun c3 => ?_)
      · have h := jit h c3
        obtain ⟨x4, ex4, h⟩ := jle h
        refine j_iinc E 2 rfl kc_1 ex4 (by decide) (lv' := [(2, .int x4), (0, .ref (ad 11)), (1, .int v1)]) rfl dX1_count_22 ?_
        refine j_goto E (tgt := 4) (by decide) dX1_count_25 ?_
        refine j_sub [1, 2, 0] (lv' := [(0, .ref (ad 11)), (1, .int v1), (2, .int x4)]) rfl ?_
        exact ih _ _ _ h
      · have h := jif h c3
        obtain ⟨x5, ex5, h⟩ := jle h
        refine j_iinc E 1 rfl kc_1 ex5 (by decide) (lv' := [(1, .int x5), (0, .ref (ad 11)), (2, .int v2)]) rfl dX1_count_19 ?_
        obtain ⟨x6, ex6, h⟩ := jle h
        refine j_iinc E 2 rfl kc_1 ex6 (by decide) (lv' := [(2, .int x6), (1, .int x5), (0, .ref (ad 11))]) rfl dX1_count_22 ?_
        refine j_goto E (tgt := 4) (by decide) dX1_count_25 ?_
        refine j_sub [2, 1, 0] (lv' := [(0, .ref (ad 11)), (1, .int x5), (2, .int x6)]) rfl ?_
        exact ih _ _ _ h
set_option maxHeartbeats 4000000 in
set_option maxRecDepth 100000 in
theorem c_X1_count {l : Launch} {D : va_G} {ad : Nat → Nat} {cI cZ : ClassId} {st : jS}  {o : (Int32 × jS)} (h : f_X1_count st = some o) : CtI l D (jT cI cZ) (wX ad cI cZ) yX1_count wsX1_count (rm_X1_count) [.ref (ad 11)] st o.1 o.2 := by
  refine ctI_of (o := o) (cc := cX1_count) (nL := 3) (own := RX1) (by decide) rfl rfl (Nat.le_of_ble_eq_true rfl) (lv0 := [(0, .ref (ad 11))]) rfl ?_
  intro p e s m args below meth c A E hr
  rw [f_X1_count] at h
  refine j_iconst E (kc_0) dX1_count_0 ?_
  refine j_istore_n E rfl (by decide) (lv' := [(1, .int 0), (0, .ref (ad 11))]) rfl dX1_count_1 ?_
  refine j_iconst E (kc_0) dX1_count_2 ?_
  refine j_istore_n E rfl (by decide) (lv' := [(2, .int 0), (1, .int 0), (0, .ref (ad 11))]) rfl dX1_count_3 ?_
  refine j_sub [2, 1, 0] (lv' := [(0, .ref (ad 11)), (1, .int 0), (2, .int 0)]) rfl ?_
  refine w_X1_count_4 E hr (fun s9 y7 y8 h => ?_) _ _ _ _ h
  refine j_iload_n E 1 rfl rfl dX1_count_28 ?_
  exact j_iret E hr rfl (Option.some.inj h) dX1_count_29
abbrev rm_X1_keepUnchanged : Room := { frames := 2, cells := 0, slots := 0, locals := 45 }
theorem in_X1_keepUnchanged_X1 : ∀ w ∈ u_ws RX1 TX1 3, w ∈ wsX1_keepUnchanged := fun w h => (List.mem_cons_of_mem _ (List.mem_append_right _ h))
def f_X1_keepUnchanged_5 (K : jS → Int32 → Int32 → Int32 → Int32 → Option (Int32 × jS)) : Nat → jS → Int32 → Int32 → Int32 → Int32 → Option (Int32 × jS)
  | 0, _, _, _, _, _ => none
  | n + 1, st, v1, v2, v3, v4 =>
    if v4 ≥ (v2 * 10) then
      K st v1 v2 v3 v4
    else
    (f_X1_holds st v4).bind fun r2 =>
    if r2.1 = 0 then
      jl (v4 + 1) fun x4 =>
      f_X1_keepUnchanged_5 K n r2.2 v1 v2 v3 x4
    else
    bif job v4 410 then none else
    if (jag r2.2 13 v4) ≤ v1 then
      jl (v4 + 1) fun x7 =>
      f_X1_keepUnchanged_5 K n r2.2 v1 v2 v3 x7
    else
    (f_X1_drop r2.2 v4).bind fun r8 =>
    jl (v3 + 1) fun x9 =>
    jl (v4 + 1) fun x10 =>
    f_X1_keepUnchanged_5 K n r8 v1 v2 x9 x10
def f_X1_keepUnchanged (st : jS) (a1 : Int32) (a2 : Int32) : Option (Int32 × jS) :=
  f_X1_keepUnchanged_5 (fun s15 y11 y12 y13 y14 =>
    some (y13, s15)
    ) jFuel st a1 a2 0 0
set_option maxHeartbeats 4000000 in
set_option maxRecDepth 100000 in
theorem w_X1_keepUnchanged_5 {ad : Nat → Nat} {cI cZ : ClassId} {p : Program} {l : Launch} {e : Env} {s : State} {m : MethodId} {args : Array Value} {below : List Frame} {meth : Method} {c : Code} {D : va_G} {A : Nat → Prop} {o : (Int32 × jS)} (E : jE p s m args meth c cX1_keepUnchanged 5 RX1 wsX1_keepUnchanged D (jT cI cZ) A) (hr : meth.sig.returnType = (some .int)) {K : jS → Int32 → Int32 → Int32 → Int32 → Option (Int32 × jS)} (hK : ∀ (st : jS) (v1 : Int32) (v2 : Int32) (v3 : Int32) (v4 : Int32), K st v1 v2 v3 v4 = some o → J p l e (rm_X1_keepUnchanged) s m args below meth c 5 D A (wX ad cI cZ) (jZI D (wX ad cI cZ) A below args s o) 0 0 st 49 [(0, .ref (ad 11)), (1, .int v1), (2, .int v2), (3, .int v3), (4, .int v4)] []) :
    ∀ (n : Nat) (st : jS) (v1 : Int32) (v2 : Int32) (v3 : Int32) (v4 : Int32), f_X1_keepUnchanged_5 K n st v1 v2 v3 v4 = some o → J p l e (rm_X1_keepUnchanged) s m args below meth c 5 D A (wX ad cI cZ) (jZI D (wX ad cI cZ) A below args s o) 0 0 st 5 [(0, .ref (ad 11)), (1, .int v1), (2, .int v2), (3, .int v3), (4, .int v4)] [] := by
  intro n
  induction n with
  | zero => intro st v1 v2 v3 v4 h; cases h
  | succ n ih =>
    intro st v1 v2 v3 v4 h
    rw [f_X1_keepUnchanged_5] at h
    refine j_iload E 4 rfl dX1_keepUnchanged_5 ?_
    refine j_iload_n E 2 rfl rfl dX1_keepUnchanged_7 ?_
    refine j_bipush E (kb_10) dX1_keepUnchanged_8 ?_
    refine j_imul E dX1_keepUnchanged_10 ?_
    refine j_icmp_ge E (tgt := 49) (by decide) dX1_keepUnchanged_11 (fun c1 => ?_) (fun c1 => ?_)
    · have h := jit h c1
      refine j_sub [0, 1, 2, 3, 4] (lv' := [(0, .ref (ad 11)), (1, .int v1), (2, .int v2), (3, .int v3), (4, .int v4)]) rfl ?_
      exact hK _ _ _ _ _ h
    · have h := jif h c1
      refine j_aload_n E 0 rfl rfl dX1_keepUnchanged_14 ?_
      refine j_iload E 4 rfl dX1_keepUnchanged_15 ?_
      obtain ⟨r2, er2, h⟩ := jbd h
      refine j_callVi E (As := [.int v4]) (c_X1_holds er2) (cwV 1 E.1.2.2.2.2 gX1_keepUnchanged_X1_holds rfl rfl rfl (by decide +kernel) ⟨Nat.le_of_ble_eq_true rfl, Nat.le_of_ble_eq_true rfl⟩) (wX_g11 ad cI cZ _) rfl rfl rfl (Nat.le_of_ble_eq_true rfl) ⟨Nat.zero_le _, Nat.zero_le _⟩ dX1_keepUnchanged_17 ?_
      refine j_if_eq E (tgt := 43) (by decide) dX1_keepUnchanged_20 (fun c3 => ?_) (fun c3 => ?_)
      · have h := jit h c3
        obtain ⟨x4, ex4, h⟩ := jle h
        refine j_iinc E 4 rfl kc_1 ex4 (by decide) (lv' := [(4, .int x4), (0, .ref (ad 11)), (1, .int v1), (2, .int v2), (3, .int v3)]) rfl dX1_keepUnchanged_43 ?_
        refine j_goto E (tgt := 5) (by decide) dX1_keepUnchanged_46 ?_
        refine j_sub [1, 2, 3, 4, 0] (lv' := [(0, .ref (ad 11)), (1, .int v1), (2, .int v2), (3, .int v3), (4, .int x4)]) rfl ?_
        exact ih _ _ _ _ _ h
      · have h := jif h c3
        refine j_aload_n E 0 rfl rfl dX1_keepUnchanged_23 ?_
        refine j_get E 11 (wX_g11 ad cI cZ _) rfl 1 rfl in_X1_keepUnchanged_X1 (by decide) (List.mem_of_getElem? (i := 1) rfl) (fun _ h9 => h9) dX1_keepUnchanged_24 ?_
        refine j_iload E 4 rfl dX1_keepUnchanged_27 ?_
        obtain ⟨b5, h⟩ := job_else h
        refine j_iald E 13 0 (wX_g13 ad cI cZ _) rfl b5 dX1_keepUnchanged_29 ?_
        refine j_iload_n E 1 rfl rfl dX1_keepUnchanged_30 ?_
        refine j_icmp_le E (tgt := 43) (by decide) dX1_keepUnchanged_31 (fun c6 => ?_) (fun c6 => ?_)
        · have h := jit h c6
          obtain ⟨x7, ex7, h⟩ := jle h
          refine j_iinc E 4 rfl kc_1 ex7 (by decide) (lv' := [(4, .int x7), (0, .ref (ad 11)), (1, .int v1), (2, .int v2), (3, .int v3)]) rfl dX1_keepUnchanged_43 ?_
          refine j_goto E (tgt := 5) (by decide) dX1_keepUnchanged_46 ?_
          refine j_sub [1, 2, 3, 4, 0] (lv' := [(0, .ref (ad 11)), (1, .int v1), (2, .int v2), (3, .int v3), (4, .int x7)]) rfl ?_
          exact ih _ _ _ _ _ h
        · have h := jif h c6
          refine j_aload_n E 0 rfl rfl dX1_keepUnchanged_34 ?_
          refine j_iload E 4 rfl dX1_keepUnchanged_35 ?_
          obtain ⟨r8, er8, h⟩ := jbd h
          refine j_callVv E (As := [.int v4]) (c_X1_drop er8) (cwV 1 E.1.2.2.2.2 gX1_keepUnchanged_X1_drop rfl rfl rfl (by decide +kernel) ⟨Nat.le_of_ble_eq_true rfl, Nat.le_of_ble_eq_true rfl⟩) (wX_g11 ad cI cZ _) rfl rfl rfl (Nat.le_of_ble_eq_true rfl) ⟨Nat.zero_le _, Nat.zero_le _⟩ dX1_keepUnchanged_37 ?_
          obtain ⟨x9, ex9, h⟩ := jle h
          refine j_iinc E 3 rfl kc_1 ex9 (by decide) (lv' := [(3, .int x9), (0, .ref (ad 11)), (1, .int v1), (2, .int v2), (4, .int v4)]) rfl dX1_keepUnchanged_40 ?_
          obtain ⟨x10, ex10, h⟩ := jle h
          refine j_iinc E 4 rfl kc_1 ex10 (by decide) (lv' := [(4, .int x10), (3, .int x9), (0, .ref (ad 11)), (1, .int v1), (2, .int v2)]) rfl dX1_keepUnchanged_43 ?_
          refine j_goto E (tgt := 5) (by decide) dX1_keepUnchanged_46 ?_
          refine j_sub [2, 3, 4, 1, 0] (lv' := [(0, .ref (ad 11)), (1, .int v1), (2, .int v2), (3, .int x9), (4, .int x10)]) rfl ?_
          exact ih _ _ _ _ _ h
set_option maxHeartbeats 4000000 in
set_option maxRecDepth 100000 in
theorem c_X1_keepUnchanged {l : Launch} {D : va_G} {ad : Nat → Nat} {cI cZ : ClassId} {st : jS} {a1 : Int32} {a2 : Int32} {o : (Int32 × jS)} (h : f_X1_keepUnchanged st a1 a2 = some o) : CtI l D (jT cI cZ) (wX ad cI cZ) yX1_keepUnchanged wsX1_keepUnchanged (rm_X1_keepUnchanged) [.ref (ad 11), .int a1, .int a2] st o.1 o.2 := by
  refine ctI_of (o := o) (cc := cX1_keepUnchanged) (nL := 5) (own := RX1) (by decide) rfl rfl (Nat.le_of_ble_eq_true rfl) (lv0 := [(0, .ref (ad 11)), (1, .int a1), (2, .int a2)]) rfl ?_
  intro p e s m args below meth c A E hr
  rw [f_X1_keepUnchanged] at h
  refine j_iconst E (kc_0) dX1_keepUnchanged_0 ?_
  refine j_istore_n E rfl (by decide) (lv' := [(3, .int 0), (0, .ref (ad 11)), (1, .int a1), (2, .int a2)]) rfl dX1_keepUnchanged_1 ?_
  refine j_iconst E (kc_0) dX1_keepUnchanged_2 ?_
  refine j_istore E (by decide) (lv' := [(4, .int 0), (3, .int 0), (0, .ref (ad 11)), (1, .int a1), (2, .int a2)]) rfl dX1_keepUnchanged_3 ?_
  refine j_sub [2, 3, 4, 1, 0] (lv' := [(0, .ref (ad 11)), (1, .int a1), (2, .int a2), (3, .int 0), (4, .int 0)]) rfl ?_
  refine w_X1_keepUnchanged_5 E hr (fun s15 y11 y12 y13 y14 h => ?_) _ _ _ _ _ _ h
  refine j_iload_n E 3 rfl rfl dX1_keepUnchanged_49 ?_
  exact j_iret E hr rfl (Option.some.inj h) dX1_keepUnchanged_50
abbrev rm_X1_move : Room := { frames := 2, cells := 0, slots := 0, locals := 45 }
theorem in_X1_move_X1 : ∀ w ∈ u_ws RX1 TX1 3, w ∈ wsX1_move := fun w h => (List.mem_cons_of_mem _ (List.mem_append_right _ h))
def f_X1_move (st : jS) (a1 : Int32) (a2 : Int32) : Option jS :=
  jl (a1 + (a2 * 10)) fun x1 =>
  (f_X1_holds st a1).bind fun r2 =>
  if r2.1 = 0 then
    some r2.2
  else
  if x1 < 0 then
    some r2.2
  else
  if x1 < 410 then
    bif job a1 410 then none else
    if (jag r2.2 12 a1) = (-1) then
      bif job a1 410 then none else
      bif job a1 410 then none else
      (f_X1_put r2.2 x1 (-1) ((jag r2.2 13 a1) + a2) (jag r2.2 14 a1)).bind fun r16 =>
      (f_X1_drop r16 a1).bind fun r17 =>
      some r17
    else
    bif job a1 410 then none else
    jl ((jag r2.2 12 a1) + a2) fun x9 =>
    bif job a1 410 then none else
    bif job a1 410 then none else
    (f_X1_put r2.2 x1 x9 ((jag r2.2 13 a1) + a2) (jag r2.2 14 a1)).bind fun r12 =>
    (f_X1_drop r12 a1).bind fun r13 =>
    some r13
  else
  some r2.2
set_option maxHeartbeats 4000000 in
set_option maxRecDepth 100000 in
theorem c_X1_move {l : Launch} {D : va_G} {ad : Nat → Nat} {cI cZ : ClassId} {st : jS} {a1 : Int32} {a2 : Int32} {o : jS} (h : f_X1_move st a1 a2 = some o) : CtV l D (jT cI cZ) (wX ad cI cZ) yX1_move wsX1_move (rm_X1_move) [.ref (ad 11), .int a1, .int a2] st o := by
  refine ctV_of (o := o) (cc := cX1_move) (nL := 5) (own := RX1) (by decide) rfl rfl (Nat.le_of_ble_eq_true rfl) (lv0 := [(0, .ref (ad 11)), (1, .int a1), (2, .int a2)]) rfl ?_
  intro p e s m args below meth c A E hr
  rw [f_X1_move] at h
  refine j_iload_n E 1 rfl rfl dX1_move_0 ?_
  refine j_iload_n E 2 rfl rfl dX1_move_1 ?_
  refine j_bipush E (kb_10) dX1_move_2 ?_
  refine j_imul E dX1_move_4 ?_
  refine j_iadd E dX1_move_5 ?_
  obtain ⟨x1, ex1, h⟩ := jle h
  refine j_topi ex1 ?_
  refine j_istore_n E rfl (by decide) (lv' := [(3, .int x1), (0, .ref (ad 11)), (1, .int a1), (2, .int a2)]) rfl dX1_move_6 ?_
  refine j_aload_n E 1 rfl rfl dX1_move_7 ?_
  refine j_iload_n E 2 rfl rfl dX1_move_8 ?_
  obtain ⟨r2, er2, h⟩ := jbd h
  refine j_callVi E (As := [.int a1]) (c_X1_holds er2) (cwV 1 E.1.2.2.2.2 gX1_move_X1_holds rfl rfl rfl (by decide +kernel) ⟨Nat.le_of_ble_eq_true rfl, Nat.le_of_ble_eq_true rfl⟩) (wX_g11 ad cI cZ _) rfl rfl rfl (Nat.le_of_ble_eq_true rfl) ⟨Nat.zero_le _, Nat.zero_le _⟩ dX1_move_9 ?_
  refine j_if_eq E (tgt := 26) (by decide) dX1_move_12 (fun c3 => ?_) (fun c3 => ?_)
  · have h := jit h c3
    exact j_vret E hr (Option.some.inj h) dX1_move_26
  · have h := jif h c3
    refine j_iload_n E 0 rfl rfl dX1_move_15 ?_
    refine j_if_lt E (tgt := 26) (by decide) dX1_move_16 (fun c4 => ?_) (fun c4 => ?_)
    · have h := jit h c4
      exact j_vret E hr (Option.some.inj h) dX1_move_26
    · have h := jif h c4
      refine j_iload_n E 0 rfl rfl dX1_move_19 ?_
      refine j_sipush E (ks_410) dX1_move_20 ?_
      refine j_icmp_lt E (tgt := 27) (by decide) dX1_move_23 (fun c5 => ?_) (fun c5 => ?_)
      · have h := jit h c5
        refine j_aload_n E 1 rfl rfl dX1_move_27 ?_
        refine j_get E 11 (wX_g11 ad cI cZ _) rfl 0 rfl in_X1_move_X1 (by decide) (List.mem_of_getElem? (i := 1) rfl) (fun _ h9 => h9) dX1_move_28 ?_
        refine j_iload_n E 2 rfl rfl dX1_move_31 ?_
        obtain ⟨b6, h⟩ := job_else h
        refine j_iald E 12 0 (wX_g12 ad cI cZ _) rfl b6 dX1_move_32 ?_
        refine j_iconst E (kc_m1) dX1_move_33 ?_
        refine j_icmp_ne E (tgt := 41) (by decide) dX1_move_34 (fun c7 => ?_) (fun c7 => ?_)
        · have h := jif h c7
          refine j_aload_n E 1 rfl rfl dX1_move_41 ?_
          refine j_get E 11 (wX_g11 ad cI cZ _) rfl 0 rfl in_X1_move_X1 (by decide) (List.mem_of_getElem? (i := 1) rfl) (fun _ h9 => h9) dX1_move_42 ?_
          refine j_iload_n E 2 rfl rfl dX1_move_45 ?_
          obtain ⟨b8, h⟩ := job_else h
          refine j_iald E 12 0 (wX_g12 ad cI cZ _) rfl b8 dX1_move_46 ?_
          refine j_iload_n E 3 rfl rfl dX1_move_47 ?_
          refine j_iadd E dX1_move_48 ?_
          obtain ⟨x9, ex9, h⟩ := jle h
          refine j_topi ex9 ?_
          refine j_istore E (by decide) (lv' := [(4, .int x9), (3, .int x1), (0, .ref (ad 11)), (1, .int a1), (2, .int a2)]) rfl dX1_move_49 ?_
          refine j_aload_n E 2 rfl rfl dX1_move_51 ?_
          refine j_iload_n E 1 rfl rfl dX1_move_52 ?_
          refine j_iload E 0 rfl dX1_move_53 ?_
          refine j_aload_n E 2 rfl rfl dX1_move_55 ?_
          refine j_get E 11 (wX_g11 ad cI cZ _) rfl 1 rfl in_X1_move_X1 (by decide) (List.mem_of_getElem? (i := 2) rfl) (fun _ h9 => h9) dX1_move_56 ?_
          refine j_iload_n E 3 rfl rfl dX1_move_59 ?_
          obtain ⟨b10, h⟩ := job_else h
          refine j_iald E 13 0 (wX_g13 ad cI cZ _) rfl b10 dX1_move_60 ?_
          refine j_iload_n E 4 rfl rfl dX1_move_61 ?_
          refine j_iadd E dX1_move_62 ?_
          refine j_aload_n E 2 rfl rfl dX1_move_63 ?_
          refine j_get E 11 (wX_g11 ad cI cZ _) rfl 2 rfl in_X1_move_X1 (by decide) (List.mem_of_getElem? (i := 3) rfl) (fun _ h9 => h9) dX1_move_64 ?_
          refine j_iload_n E 3 rfl rfl dX1_move_67 ?_
          obtain ⟨b11, h⟩ := job_else h
          refine j_iald E 14 0 (wX_g14 ad cI cZ _) rfl b11 dX1_move_68 ?_
          obtain ⟨r12, er12, h⟩ := jbd h
          refine j_callVv E (As := [.int x1, .int x9, .int ((jag r2.2 13 a1) + a2), .int (jag r2.2 14 a1)]) (c_X1_put er12) (cwV 4 E.1.2.2.2.2 gX1_move_X1_put rfl rfl rfl (by decide +kernel) ⟨Nat.le_of_ble_eq_true rfl, Nat.le_of_ble_eq_true rfl⟩) (wX_g11 ad cI cZ _) rfl rfl rfl (Nat.le_of_ble_eq_true rfl) ⟨Nat.zero_le _, Nat.zero_le _⟩ dX1_move_69 ?_
          refine j_aload_n E 2 rfl rfl dX1_move_72 ?_
          refine j_iload_n E 3 rfl rfl dX1_move_73 ?_
          obtain ⟨r13, er13, h⟩ := jbd h
          refine j_callVv E (As := [.int a1]) (c_X1_drop er13) (cwV 1 E.1.2.2.2.2 gX1_move_X1_drop rfl rfl rfl (by decide +kernel) ⟨Nat.le_of_ble_eq_true rfl, Nat.le_of_ble_eq_true rfl⟩) (wX_g11 ad cI cZ _) rfl rfl rfl (Nat.le_of_ble_eq_true rfl) ⟨Nat.zero_le _, Nat.zero_le _⟩ dX1_move_74 ?_
          exact j_vret E hr (Option.some.inj h) dX1_move_77
        · have h := jit h c7
          refine j_iconst E (kc_m1) dX1_move_37 ?_
          refine j_goto E (tgt := 49) (by decide) dX1_move_38 ?_
          refine j_istore E (by decide) (lv' := [(4, .int (-1)), (3, .int x1), (0, .ref (ad 11)), (1, .int a1), (2, .int a2)]) rfl dX1_move_49 ?_
          refine j_aload_n E 2 rfl rfl dX1_move_51 ?_
          refine j_iload_n E 1 rfl rfl dX1_move_52 ?_
          refine j_iload E 0 rfl dX1_move_53 ?_
          refine j_aload_n E 2 rfl rfl dX1_move_55 ?_
          refine j_get E 11 (wX_g11 ad cI cZ _) rfl 1 rfl in_X1_move_X1 (by decide) (List.mem_of_getElem? (i := 2) rfl) (fun _ h9 => h9) dX1_move_56 ?_
          refine j_iload_n E 3 rfl rfl dX1_move_59 ?_
          obtain ⟨b14, h⟩ := job_else h
          refine j_iald E 13 0 (wX_g13 ad cI cZ _) rfl b14 dX1_move_60 ?_
          refine j_iload_n E 4 rfl rfl dX1_move_61 ?_
          refine j_iadd E dX1_move_62 ?_
          refine j_aload_n E 2 rfl rfl dX1_move_63 ?_
          refine j_get E 11 (wX_g11 ad cI cZ _) rfl 2 rfl in_X1_move_X1 (by decide) (List.mem_of_getElem? (i := 3) rfl) (fun _ h9 => h9) dX1_move_64 ?_
          refine j_iload_n E 3 rfl rfl dX1_move_67 ?_
          obtain ⟨b15, h⟩ := job_else h
          refine j_iald E 14 0 (wX_g14 ad cI cZ _) rfl b15 dX1_move_68 ?_
          obtain ⟨r16, er16, h⟩ := jbd h
          refine j_callVv E (As := [.int x1, .int (-1), .int ((jag r2.2 13 a1) + a2), .int (jag r2.2 14 a1)]) (c_X1_put er16) (cwV 4 E.1.2.2.2.2 gX1_move_X1_put rfl rfl rfl (by decide +kernel) ⟨Nat.le_of_ble_eq_true rfl, Nat.le_of_ble_eq_true rfl⟩) (wX_g11 ad cI cZ _) rfl rfl rfl (Nat.le_of_ble_eq_true rfl) ⟨Nat.zero_le _, Nat.zero_le _⟩ dX1_move_69 ?_
          refine j_aload_n E 2 rfl rfl dX1_move_72 ?_
          refine j_iload_n E 3 rfl rfl dX1_move_73 ?_
          obtain ⟨r17, er17, h⟩ := jbd h
          refine j_callVv E (As := [.int a1]) (c_X1_drop er17) (cwV 1 E.1.2.2.2.2 gX1_move_X1_drop rfl rfl rfl (by decide +kernel) ⟨Nat.le_of_ble_eq_true rfl, Nat.le_of_ble_eq_true rfl⟩) (wX_g11 ad cI cZ _) rfl rfl rfl (Nat.le_of_ble_eq_true rfl) ⟨Nat.zero_le _, Nat.zero_le _⟩ dX1_move_74 ?_
          exact j_vret E hr (Option.some.inj h) dX1_move_77
      · have h := jif h c5
        exact j_vret E hr (Option.some.inj h) dX1_move_26
abbrev rm_X1_shift : Room := { frames := 3, cells := 0, slots := 0, locals := 69 }
def f_X1_shift_45 (K : jS → Int32 → Int32 → Int32 → Int32 → Option jS) : Nat → jS → Int32 → Int32 → Int32 → Int32 → Option jS
  | 0, _, _, _, _, _ => none
  | n + 1, st, v1, v2, v3, v4 =>
    if v4 < v3 then
      K st v1 v2 v3 v4
    else
    (f_X1_move st v4 v2).bind fun r5 =>
    jl (v4 + (-1)) fun x6 =>
    f_X1_shift_45 K n r5 v1 v2 v3 x6
def f_X1_shift_12 (K : jS → Int32 → Int32 → Int32 → Int32 → Option jS) : Nat → jS → Int32 → Int32 → Int32 → Int32 → Option jS
  | 0, _, _, _, _, _ => none
  | n + 1, st, v1, v2, v3, v4 =>
    if v4 ≥ 410 then
      K st v1 v2 v3 v4
    else
    (f_X1_move st v4 v2).bind fun r13 =>
    jl (v4 + 1) fun x14 =>
    f_X1_shift_12 K n r13 v1 v2 v3 x14
def f_X1_shift (st : jS) (a1 : Int32) (a2 : Int32) : Option jS :=
  jl (a1 * 10) fun x1 =>
  if a2 ≥ 0 then
    if a2 ≤ 0 then
      some st
    else
    f_X1_shift_45 (fun s11 y7 y8 y9 y10 =>
      some s11
      ) jFuel st a1 a2 x1 409
  else
  f_X1_shift_12 (fun s19 y15 y16 y17 y18 =>
    some s19
    ) jFuel st a1 a2 x1 x1
set_option maxHeartbeats 4000000 in
set_option maxRecDepth 100000 in
theorem w_X1_shift_45 {ad : Nat → Nat} {cI cZ : ClassId} {p : Program} {l : Launch} {e : Env} {s : State} {m : MethodId} {args : Array Value} {below : List Frame} {meth : Method} {c : Code} {D : va_G} {A : Nat → Prop} {o : jS} (E : jE p s m args meth c cX1_shift 5 RX1 wsX1_shift D (jT cI cZ) A) (hr : meth.sig.returnType = none) {K : jS → Int32 → Int32 → Int32 → Int32 → Option jS} (hK : ∀ (st : jS) (v1 : Int32) (v2 : Int32) (v3 : Int32) (v4 : Int32), K st v1 v2 v3 v4 = some o → J p l e (rm_X1_shift) s m args below meth c 5 D A (wX ad cI cZ) (jZV D (wX ad cI cZ) A below args s o) 0 0 st 64 [(0, .ref (ad 11)), (1, .int v1), (2, .int v2), (3, .int v3), (4, .int v4)] []) :
    ∀ (n : Nat) (st : jS) (v1 : Int32) (v2 : Int32) (v3 : Int32) (v4 : Int32), f_X1_shift_45 K n st v1 v2 v3 v4 = some o → J p l e (rm_X1_shift) s m args below meth c 5 D A (wX ad cI cZ) (jZV D (wX ad cI cZ) A below args s o) 0 0 st 45 [(0, .ref (ad 11)), (1, .int v1), (2, .int v2), (3, .int v3), (4, .int v4)] [] := by
  intro n
  induction n with
  | zero => intro st v1 v2 v3 v4 h; cases h
  | succ n ih =>
    intro st v1 v2 v3 v4 h
    rw [f_X1_shift_45] at h
    refine j_iload E 4 rfl dX1_shift_45 ?_
    refine j_iload_n E 3 rfl rfl dX1_shift_47 ?_
    refine j_icmp_lt E (tgt := 64) (by decide) dX1_shift_48 (fun c4 => ?_) (fun c4 => ?_)
    · have h := jit h c4
      refine j_sub [0, 1, 2, 3, 4] (lv' := [(0, .ref (ad 11)), (1, .int v1), (2, .int v2), (3, .int v3), (4, .int v4)]) rfl ?_
      exact hK _ _ _ _ _ h
    · have h := jif h c4
      refine j_aload_n E 0 rfl rfl dX1_shift_51 ?_
      refine j_iload E 4 rfl dX1_shift_52 ?_
      refine j_iload_n E 2 rfl rfl dX1_shift_54 ?_
      obtain ⟨r5, er5, h⟩ := jbd h
      refine j_callVv E (As := [.int v4, .int v2]) (c_X1_move er5) (cwV 2 E.1.2.2.2.2 gX1_shift_X1_move rfl rfl rfl (by decide +kernel) ⟨Nat.le_of_ble_eq_true rfl, Nat.le_of_ble_eq_true rfl⟩) (wX_g11 ad cI cZ _) rfl rfl rfl (Nat.le_of_ble_eq_true rfl) ⟨Nat.zero_le _, Nat.zero_le _⟩ dX1_shift_55 ?_
      obtain ⟨x6, ex6, h⟩ := jle h
      refine j_iinc E 4 rfl kc_m1 ex6 (by decide) (lv' := [(4, .int x6), (0, .ref (ad 11)), (1, .int v1), (2, .int v2), (3, .int v3)]) rfl dX1_shift_58 ?_
      refine j_goto E (tgt := 45) (by decide) dX1_shift_61 ?_
      refine j_sub [1, 2, 3, 4, 0] (lv' := [(0, .ref (ad 11)), (1, .int v1), (2, .int v2), (3, .int v3), (4, .int x6)]) rfl ?_
      exact ih _ _ _ _ _ h
set_option maxHeartbeats 4000000 in
set_option maxRecDepth 100000 in
theorem w_X1_shift_12 {ad : Nat → Nat} {cI cZ : ClassId} {p : Program} {l : Launch} {e : Env} {s : State} {m : MethodId} {args : Array Value} {below : List Frame} {meth : Method} {c : Code} {D : va_G} {A : Nat → Prop} {o : jS} (E : jE p s m args meth c cX1_shift 5 RX1 wsX1_shift D (jT cI cZ) A) (hr : meth.sig.returnType = none) {K : jS → Int32 → Int32 → Int32 → Int32 → Option jS} (hK : ∀ (st : jS) (v1 : Int32) (v2 : Int32) (v3 : Int32) (v4 : Int32), K st v1 v2 v3 v4 = some o → J p l e (rm_X1_shift) s m args below meth c 5 D A (wX ad cI cZ) (jZV D (wX ad cI cZ) A below args s o) 0 0 st 33 [(0, .ref (ad 11)), (1, .int v1), (2, .int v2), (3, .int v3), (4, .int v4)] []) :
    ∀ (n : Nat) (st : jS) (v1 : Int32) (v2 : Int32) (v3 : Int32) (v4 : Int32), f_X1_shift_12 K n st v1 v2 v3 v4 = some o → J p l e (rm_X1_shift) s m args below meth c 5 D A (wX ad cI cZ) (jZV D (wX ad cI cZ) A below args s o) 0 0 st 12 [(0, .ref (ad 11)), (1, .int v1), (2, .int v2), (3, .int v3), (4, .int v4)] [] := by
  intro n
  induction n with
  | zero => intro st v1 v2 v3 v4 h; cases h
  | succ n ih =>
    intro st v1 v2 v3 v4 h
    rw [f_X1_shift_12] at h
    refine j_iload E 4 rfl dX1_shift_12 ?_
    refine j_sipush E (ks_410) dX1_shift_14 ?_
    refine j_icmp_ge E (tgt := 33) (by decide) dX1_shift_17 (fun c12 => ?_) (fun c12 => ?_)
    · have h := jit h c12
      refine j_sub [0, 1, 2, 3, 4] (lv' := [(0, .ref (ad 11)), (1, .int v1), (2, .int v2), (3, .int v3), (4, .int v4)]) rfl ?_
      exact hK _ _ _ _ _ h
    · have h := jif h c12
      refine j_aload_n E 0 rfl rfl dX1_shift_20 ?_
      refine j_iload E 4 rfl dX1_shift_21 ?_
      refine j_iload_n E 2 rfl rfl dX1_shift_23 ?_
      obtain ⟨r13, er13, h⟩ := jbd h
      refine j_callVv E (As := [.int v4, .int v2]) (c_X1_move er13) (cwV 2 E.1.2.2.2.2 gX1_shift_X1_move rfl rfl rfl (by decide +kernel) ⟨Nat.le_of_ble_eq_true rfl, Nat.le_of_ble_eq_true rfl⟩) (wX_g11 ad cI cZ _) rfl rfl rfl (Nat.le_of_ble_eq_true rfl) ⟨Nat.zero_le _, Nat.zero_le _⟩ dX1_shift_24 ?_
      obtain ⟨x14, ex14, h⟩ := jle h
      refine j_iinc E 4 rfl kc_1 ex14 (by decide) (lv' := [(4, .int x14), (0, .ref (ad 11)), (1, .int v1), (2, .int v2), (3, .int v3)]) rfl dX1_shift_27 ?_
      refine j_goto E (tgt := 12) (by decide) dX1_shift_30 ?_
      refine j_sub [1, 2, 3, 4, 0] (lv' := [(0, .ref (ad 11)), (1, .int v1), (2, .int v2), (3, .int v3), (4, .int x14)]) rfl ?_
      exact ih _ _ _ _ _ h
set_option maxHeartbeats 4000000 in
set_option maxRecDepth 100000 in
theorem c_X1_shift {l : Launch} {D : va_G} {ad : Nat → Nat} {cI cZ : ClassId} {st : jS} {a1 : Int32} {a2 : Int32} {o : jS} (h : f_X1_shift st a1 a2 = some o) : CtV l D (jT cI cZ) (wX ad cI cZ) yX1_shift wsX1_shift (rm_X1_shift) [.ref (ad 11), .int a1, .int a2] st o := by
  refine ctV_of (o := o) (cc := cX1_shift) (nL := 5) (own := RX1) (by decide) rfl rfl (Nat.le_of_ble_eq_true rfl) (lv0 := [(0, .ref (ad 11)), (1, .int a1), (2, .int a2)]) rfl ?_
  intro p e s m args below meth c A E hr
  rw [f_X1_shift] at h
  refine j_iload_n E 1 rfl rfl dX1_shift_0 ?_
  refine j_bipush E (kb_10) dX1_shift_1 ?_
  refine j_imul E dX1_shift_3 ?_
  obtain ⟨x1, ex1, h⟩ := jle h
  refine j_topi ex1 ?_
  refine j_istore_n E rfl (by decide) (lv' := [(3, .int x1), (0, .ref (ad 11)), (1, .int a1), (2, .int a2)]) rfl dX1_shift_4 ?_
  refine j_iload_n E 3 rfl rfl dX1_shift_5 ?_
  refine j_if_ge E (tgt := 36) (by decide) dX1_shift_6 (fun c2 => ?_) (fun c2 => ?_)
  · have h := jit h c2
    refine j_iload_n E 3 rfl rfl dX1_shift_36 ?_
    refine j_if_le E (tgt := 64) (by decide) dX1_shift_37 (fun c3 => ?_) (fun c3 => ?_)
    · have h := jit h c3
      exact j_vret E hr (Option.some.inj h) dX1_shift_64
    · have h := jif h c3
      refine j_sipush E (ks_409) dX1_shift_40 ?_
      refine j_istore E (by decide) (lv' := [(4, .int 409), (3, .int x1), (0, .ref (ad 11)), (1, .int a1), (2, .int a2)]) rfl dX1_shift_43 ?_
      refine j_sub [2, 3, 4, 1, 0] (lv' := [(0, .ref (ad 11)), (1, .int a1), (2, .int a2), (3, .int x1), (4, .int 409)]) rfl ?_
      refine w_X1_shift_45 E hr (fun s11 y7 y8 y9 y10 h => ?_) _ _ _ _ _ _ h
      exact j_vret E hr (Option.some.inj h) dX1_shift_64
  · have h := jif h c2
    refine j_iload_n E 0 rfl rfl dX1_shift_9 ?_
    refine j_istore E (by decide) (lv' := [(4, .int x1), (3, .int x1), (0, .ref (ad 11)), (1, .int a1), (2, .int a2)]) rfl dX1_shift_10 ?_
    refine j_sub [2, 3, 4, 1, 0] (lv' := [(0, .ref (ad 11)), (1, .int a1), (2, .int a2), (3, .int x1), (4, .int x1)]) rfl ?_
    refine w_X1_shift_12 E hr (fun s19 y15 y16 y17 y18 h => ?_) _ _ _ _ _ _ h
    refine j_goto E (tgt := 64) (by decide) dX1_shift_33 ?_
    exact j_vret E hr (Option.some.inj h) dX1_shift_64
abbrev rm_X1_addToDigest : Room := { frames := 1, cells := 0, slots := 0, locals := 22 }
theorem in_X1_addToDigest_X1 : ∀ w ∈ u_ws RX1 TX1 3, w ∈ wsX1_addToDigest := fun w h => (List.mem_cons_of_mem _ (List.mem_append_right _ h))
def f_X1_addToDigest_5 (K : jS → Int64 → Int64 → Int32 → Option (Int64 × jS)) : Nat → jS → Int64 → Int64 → Int32 → Option (Int64 × jS)
  | 0, _, _, _, _ => none
  | n + 1, st, v1, v3, v5 =>
    if v5 ≥ 410 then
      K st v1 v3 v5
    else
    (f_X1_holds st v5).bind fun r2 =>
    if r2.1 = 0 then
      jl (v5 + 1) fun x4 =>
      f_X1_addToDigest_5 K n r2.2 v1 v3 x4
    else
    (f_X5_mix v3 (v5 / 10)).bind fun r5 =>
    (f_X5_mix r5 (v5 - v5 / 10 * 10)).bind fun r6 =>
    bif job v5 410 then none else
    (f_X5_mix r6 (jag r2.2 12 v5)).bind fun r8 =>
    bif job v5 410 then none else
    (f_X5_mix r8 (jag r2.2 13 v5)).bind fun r10 =>
    jl (v5 + 1) fun x11 =>
    f_X1_addToDigest_5 K n r2.2 v1 r10 x11
def f_X1_addToDigest (st : jS) (a1 : Int64) : Option (Int64 × jS) :=
  f_X1_addToDigest_5 (fun s15 y12 y13 y14 =>
    some (y13, s15)
    ) jFuel st a1 a1 0
set_option maxHeartbeats 4000000 in
set_option maxRecDepth 100000 in
theorem w_X1_addToDigest_5 {ad : Nat → Nat} {cI cZ : ClassId} {p : Program} {l : Launch} {e : Env} {s : State} {m : MethodId} {args : Array Value} {below : List Frame} {meth : Method} {c : Code} {D : va_G} {A : Nat → Prop} {o : (Int64 × jS)} (E : jE p s m args meth c cX1_addToDigest 6 RX1 wsX1_addToDigest D (jT cI cZ) A) (hr : meth.sig.returnType = (some .long)) {K : jS → Int64 → Int64 → Int32 → Option (Int64 × jS)} (hK : ∀ (st : jS) (v1 : Int64) (v3 : Int64) (v5 : Int32), K st v1 v3 v5 = some o → J p l e (rm_X1_addToDigest) s m args below meth c 6 D A (wX ad cI cZ) (jZL D (wX ad cI cZ) A below args s o) 0 0 st 72 [(0, .ref (ad 11)), (1, .long v1), (3, .long v3), (5, .int v5)] []) :
    ∀ (n : Nat) (st : jS) (v1 : Int64) (v3 : Int64) (v5 : Int32), f_X1_addToDigest_5 K n st v1 v3 v5 = some o → J p l e (rm_X1_addToDigest) s m args below meth c 6 D A (wX ad cI cZ) (jZL D (wX ad cI cZ) A below args s o) 0 0 st 5 [(0, .ref (ad 11)), (1, .long v1), (3, .long v3), (5, .int v5)] [] := by
  intro n
  induction n with
  | zero => intro st v1 v3 v5 h; cases h
  | succ n ih =>
    intro st v1 v3 v5 h
    rw [f_X1_addToDigest_5] at h
    refine j_iload E 3 rfl dX1_addToDigest_5 ?_
    refine j_sipush E (ks_410) dX1_addToDigest_7 ?_
    refine j_icmp_ge E (tgt := 72) (by decide) dX1_addToDigest_10 (fun c1 => ?_) (fun c1 => ?_)
    · have h := jit h c1
      refine j_sub [0, 1, 2, 3] (lv' := [(0, .ref (ad 11)), (1, .long v1), (3, .long v3), (5, .int v5)]) rfl ?_
      exact hK _ _ _ _ h
    · have h := jif h c1
      refine j_aload_n E 0 rfl rfl dX1_addToDigest_13 ?_
      refine j_iload E 3 rfl dX1_addToDigest_14 ?_
      obtain ⟨r2, er2, h⟩ := jbd h
      refine j_callVi E (As := [.int v5]) (c_X1_holds er2) (cwV 1 E.1.2.2.2.2 gX1_addToDigest_X1_holds rfl rfl rfl (by decide +kernel) ⟨Nat.le_of_ble_eq_true rfl, Nat.le_of_ble_eq_true rfl⟩) (wX_g11 ad cI cZ _) rfl rfl rfl (Nat.le_of_ble_eq_true rfl) ⟨Nat.zero_le _, Nat.zero_le _⟩ dX1_addToDigest_16 ?_
      refine j_if_eq E (tgt := 66) (by decide) dX1_addToDigest_19 (fun c3 => ?_) (fun c3 => ?_)
      · have h := jit h c3
        obtain ⟨x4, ex4, h⟩ := jle h
        refine j_iinc E 3 rfl kc_1 ex4 (by decide) (lv' := [(5, .int x4), (0, .ref (ad 11)), (1, .long v1), (3, .long v3)]) rfl dX1_addToDigest_66 ?_
        refine j_goto E (tgt := 5) (by decide) dX1_addToDigest_69 ?_
        refine j_sub [1, 2, 3, 0] (lv' := [(0, .ref (ad 11)), (1, .long v1), (3, .long v3), (5, .int x4)]) rfl ?_
        exact ih _ _ _ _ h
      · have h := jif h c3
        refine j_lload_n E 2 rfl rfl dX1_addToDigest_22 ?_
        refine j_iload E 3 rfl dX1_addToDigest_23 ?_
        refine j_bipush E (kb_10) dX1_addToDigest_25 ?_
        refine j_idiv E (by decide) dX1_addToDigest_27 ?_
        obtain ⟨r5, er5, h⟩ := jbd h
        refine j_callSNl E (As := [.long v3, .int (v5 / 10)]) (c_X5_mix er5) ⟨va_cnB 2 E.1.2.2.2.2 gX1_addToDigest_X5_mix_n39 rfl rfl rfl (E.2.2.2.1.2 _ (List.mem_of_getElem? (i := 3) rfl)) (E.1.2.2.2.2 _ (List.mem_of_getElem? (i := 9) rfl)) (by decide +kernel) ⟨Nat.le_of_ble_eq_true rfl, Nat.le_of_ble_eq_true rfl⟩, E.1.2.2.2.2 _ (List.mem_of_getElem? (i := 8) rfl), trivial⟩ rfl rfl (Nat.le_of_ble_eq_true rfl) ⟨Nat.zero_le _, Nat.zero_le _⟩ dX1_addToDigest_28 ?_
        refine j_lstore_n E rfl (by decide) (lv' := [(3, .long r5), (0, .ref (ad 11)), (1, .long v1), (5, .int v5)]) rfl dX1_addToDigest_31 ?_
        refine j_lload_n E 0 rfl rfl dX1_addToDigest_32 ?_
        refine j_iload E 3 rfl dX1_addToDigest_33 ?_
        refine j_bipush E (kb_10) dX1_addToDigest_35 ?_
        refine j_irem E (by decide) dX1_addToDigest_37 ?_
        obtain ⟨r6, er6, h⟩ := jbd h
        refine j_callSNl E (As := [.long r5, .int (v5 - v5 / 10 * 10)]) (c_X5_mix er6) ⟨va_cnB 2 E.1.2.2.2.2 gX1_addToDigest_X5_mix_n39 rfl rfl rfl (E.2.2.2.1.2 _ (List.mem_of_getElem? (i := 3) rfl)) (E.1.2.2.2.2 _ (List.mem_of_getElem? (i := 9) rfl)) (by decide +kernel) ⟨Nat.le_of_ble_eq_true rfl, Nat.le_of_ble_eq_true rfl⟩, E.1.2.2.2.2 _ (List.mem_of_getElem? (i := 8) rfl), trivial⟩ rfl rfl (Nat.le_of_ble_eq_true rfl) ⟨Nat.zero_le _, Nat.zero_le _⟩ dX1_addToDigest_38 ?_
        refine j_lstore_n E rfl (by decide) (lv' := [(3, .long r6), (0, .ref (ad 11)), (1, .long v1), (5, .int v5)]) rfl dX1_addToDigest_41 ?_
        refine j_lload_n E 0 rfl rfl dX1_addToDigest_42 ?_
        refine j_aload_n E 1 rfl rfl dX1_addToDigest_43 ?_
        refine j_get E 11 (wX_g11 ad cI cZ _) rfl 0 rfl in_X1_addToDigest_X1 (by decide) (List.mem_of_getElem? (i := 1) rfl) (fun _ h9 => h9) dX1_addToDigest_44 ?_
        refine j_iload E 3 rfl dX1_addToDigest_47 ?_
        obtain ⟨b7, h⟩ := job_else h
        refine j_iald E 12 0 (wX_g12 ad cI cZ _) rfl b7 dX1_addToDigest_49 ?_
        obtain ⟨r8, er8, h⟩ := jbd h
        refine j_callSNl E (As := [.long r6, .int (jag r2.2 12 v5)]) (c_X5_mix er8) ⟨va_cnB 2 E.1.2.2.2.2 gX1_addToDigest_X5_mix_n39 rfl rfl rfl (E.2.2.2.1.2 _ (List.mem_of_getElem? (i := 3) rfl)) (E.1.2.2.2.2 _ (List.mem_of_getElem? (i := 9) rfl)) (by decide +kernel) ⟨Nat.le_of_ble_eq_true rfl, Nat.le_of_ble_eq_true rfl⟩, E.1.2.2.2.2 _ (List.mem_of_getElem? (i := 8) rfl), trivial⟩ rfl rfl (Nat.le_of_ble_eq_true rfl) ⟨Nat.zero_le _, Nat.zero_le _⟩ dX1_addToDigest_50 ?_
        refine j_lstore_n E rfl (by decide) (lv' := [(3, .long r8), (0, .ref (ad 11)), (1, .long v1), (5, .int v5)]) rfl dX1_addToDigest_53 ?_
        refine j_lload_n E 0 rfl rfl dX1_addToDigest_54 ?_
        refine j_aload_n E 1 rfl rfl dX1_addToDigest_55 ?_
        refine j_get E 11 (wX_g11 ad cI cZ _) rfl 1 rfl in_X1_addToDigest_X1 (by decide) (List.mem_of_getElem? (i := 2) rfl) (fun _ h9 => h9) dX1_addToDigest_56 ?_
        refine j_iload E 3 rfl dX1_addToDigest_59 ?_
        obtain ⟨b9, h⟩ := job_else h
        refine j_iald E 13 0 (wX_g13 ad cI cZ _) rfl b9 dX1_addToDigest_61 ?_
        obtain ⟨r10, er10, h⟩ := jbd h
        refine j_callSNl E (As := [.long r8, .int (jag r2.2 13 v5)]) (c_X5_mix er10) ⟨va_cnB 2 E.1.2.2.2.2 gX1_addToDigest_X5_mix_n39 rfl rfl rfl (E.2.2.2.1.2 _ (List.mem_of_getElem? (i := 3) rfl)) (E.1.2.2.2.2 _ (List.mem_of_getElem? (i := 9) rfl)) (by decide +kernel) ⟨Nat.le_of_ble_eq_true rfl, Nat.le_of_ble_eq_true rfl⟩, E.1.2.2.2.2 _ (List.mem_of_getElem? (i := 8) rfl), trivial⟩ rfl rfl (Nat.le_of_ble_eq_true rfl) ⟨Nat.zero_le _, Nat.zero_le _⟩ dX1_addToDigest_62 ?_
        refine j_lstore_n E rfl (by decide) (lv' := [(3, .long r10), (0, .ref (ad 11)), (1, .long v1), (5, .int v5)]) rfl dX1_addToDigest_65 ?_
        obtain ⟨x11, ex11, h⟩ := jle h
        refine j_iinc E 3 rfl kc_1 ex11 (by decide) (lv' := [(5, .int x11), (3, .long r10), (0, .ref (ad 11)), (1, .long v1)]) rfl dX1_addToDigest_66 ?_
        refine j_goto E (tgt := 5) (by decide) dX1_addToDigest_69 ?_
        refine j_sub [2, 3, 1, 0] (lv' := [(0, .ref (ad 11)), (1, .long v1), (3, .long r10), (5, .int x11)]) rfl ?_
        exact ih _ _ _ _ h
set_option maxHeartbeats 4000000 in
set_option maxRecDepth 100000 in
theorem c_X1_addToDigest {l : Launch} {D : va_G} {ad : Nat → Nat} {cI cZ : ClassId} {st : jS} {a1 : Int64} {o : (Int64 × jS)} (h : f_X1_addToDigest st a1 = some o) : CtL l D (jT cI cZ) (wX ad cI cZ) yX1_addToDigest wsX1_addToDigest (rm_X1_addToDigest) [.ref (ad 11), .long a1] st o.1 o.2 := by
  refine ctL_of (o := o) (cc := cX1_addToDigest) (nL := 6) (own := RX1) (by decide) rfl rfl (Nat.le_of_ble_eq_true rfl) (lv0 := [(0, .ref (ad 11)), (1, .long a1)]) rfl ?_
  intro p e s m args below meth c A E hr
  rw [f_X1_addToDigest] at h
  refine j_lload_n E 1 rfl rfl dX1_addToDigest_0 ?_
  refine j_lstore_n E rfl (by decide) (lv' := [(3, .long a1), (0, .ref (ad 11)), (1, .long a1)]) rfl dX1_addToDigest_1 ?_
  refine j_iconst E (kc_0) dX1_addToDigest_2 ?_
  refine j_istore E (by decide) (lv' := [(5, .int 0), (3, .long a1), (0, .ref (ad 11)), (1, .long a1)]) rfl dX1_addToDigest_3 ?_
  refine j_sub [2, 3, 1, 0] (lv' := [(0, .ref (ad 11)), (1, .long a1), (3, .long a1), (5, .int 0)]) rfl ?_
  refine w_X1_addToDigest_5 E hr (fun s15 y12 y13 y14 h => ?_) _ _ _ _ _ h
  refine j_lload_n E 2 rfl rfl dX1_addToDigest_72 ?_
  exact j_lret E hr (Option.some.inj h) dX1_addToDigest_73
end
