section
-- ===== PART A: goes FIRST, ahead of the names: the tables' words, and 'selects' of the private methods out of them =====
/-- a private method of a class that the tables say can be made, by its rows of tables_1 -/
def lw_okq (q : MethodName × Nat) : Prop := (q.1.cls ≠ "java/lang/invoke/MethodHandle" ∧ q.1.cls ≠ "java/lang/invoke/VarHandle") ∧ Cond.instantiable q.1.cls q.2 ∈ tables_1 ∧ Cond.privateMethod q.1 ∈ tables_1 ∧ Cond.instanceMethod q.1 ∈ tables_1
theorem lw_p0 : lw_okq (⟨"CheckRules", "find", "(I)LCheckRules$Rule;"⟩, 7) := ⟨⟨by decide +kernel, by decide +kernel⟩, List.mem_of_getElem? (i := 25) (by decide +kernel), List.mem_of_getElem? (i := 196) (by decide +kernel), List.mem_of_getElem? (i := 197) (by decide +kernel)⟩
theorem lw_p1 : lw_okq (⟨"CheckRules", "checkOne", "(LCheckRules$Rule;)V"⟩, 7) := ⟨⟨by decide +kernel, by decide +kernel⟩, List.mem_of_getElem? (i := 25) (by decide +kernel), List.mem_of_getElem? (i := 238) (by decide +kernel), List.mem_of_getElem? (i := 239) (by decide +kernel)⟩
theorem lw_p2 : lw_okq (⟨"CheckRules$Worker", "workOutNode", "(LCheckRules$Tree;I)V"⟩, 3) := ⟨⟨by decide +kernel, by decide +kernel⟩, List.mem_of_getElem? (i := 116) (by decide +kernel), List.mem_of_getElem? (i := 258) (by decide +kernel), List.mem_of_getElem? (i := 259) (by decide +kernel)⟩
theorem lw_p3 : lw_okq (⟨"CheckRules$Tree", "has", "(I)Z"⟩, 4) := ⟨⟨by decide +kernel, by decide +kernel⟩, List.mem_of_getElem? (i := 53) (by decide +kernel), List.mem_of_getElem? (i := 266) (by decide +kernel), List.mem_of_getElem? (i := 267) (by decide +kernel)⟩
theorem lw_p4 : lw_okq (⟨"CheckRules$Worker", "setOnAllLines", "(II)V"⟩, 3) := ⟨⟨by decide +kernel, by decide +kernel⟩, List.mem_of_getElem? (i := 116) (by decide +kernel), List.mem_of_getElem? (i := 274) (by decide +kernel), List.mem_of_getElem? (i := 275) (by decide +kernel)⟩
theorem lw_p5 : lw_okq (⟨"CheckRules$Worker", "setResult", "(III)V"⟩, 3) := ⟨⟨by decide +kernel, by decide +kernel⟩, List.mem_of_getElem? (i := 116) (by decide +kernel), List.mem_of_getElem? (i := 278) (by decide +kernel), List.mem_of_getElem? (i := 279) (by decide +kernel)⟩
theorem lw_p6 : lw_okq (⟨"CheckRules$Worker", "overLines", "(II)I"⟩, 3) := ⟨⟨by decide +kernel, by decide +kernel⟩, List.mem_of_getElem? (i := 116) (by decide +kernel), List.mem_of_getElem? (i := 294) (by decide +kernel), List.mem_of_getElem? (i := 295) (by decide +kernel)⟩
theorem lw_p7 : lw_okq (⟨"CheckRules$Worker", "resultOf", "(II)I"⟩, 3) := ⟨⟨by decide +kernel, by decide +kernel⟩, List.mem_of_getElem? (i := 116) (by decide +kernel), List.mem_of_getElem? (i := 298) (by decide +kernel), List.mem_of_getElem? (i := 299) (by decide +kernel)⟩
theorem lw_p8 : lw_okq (⟨"CheckRules", "findBad", "(IZ)I"⟩, 7) := ⟨⟨by decide +kernel, by decide +kernel⟩, List.mem_of_getElem? (i := 25) (by decide +kernel), List.mem_of_getElem? (i := 330) (by decide +kernel), List.mem_of_getElem? (i := 331) (by decide +kernel)⟩
theorem lw_p9 : lw_okq (⟨"CheckRules", "countBad", "(Z)I"⟩, 7) := ⟨⟨by decide +kernel, by decide +kernel⟩, List.mem_of_getElem? (i := 25) (by decide +kernel), List.mem_of_getElem? (i := 358) (by decide +kernel), List.mem_of_getElem? (i := 359) (by decide +kernel)⟩
theorem lw_p10 : lw_okq (⟨"CheckRules", "countNodes", "(I)I"⟩, 7) := ⟨⟨by decide +kernel, by decide +kernel⟩, List.mem_of_getElem? (i := 25) (by decide +kernel), List.mem_of_getElem? (i := 363) (by decide +kernel), List.mem_of_getElem? (i := 364) (by decide +kernel)⟩
theorem lw_p11 : lw_okq (⟨"java/lang/Throwable", "fillInStackTrace", "(I)Ljava/lang/Throwable;"⟩, 6) := ⟨⟨by decide +kernel, by decide +kernel⟩, List.mem_of_getElem? (i := 414) (by decide +kernel), List.mem_of_getElem? (i := 412) (by decide +kernel), List.mem_of_getElem? (i := 413) (by decide +kernel)⟩
theorem lw_p12 : lw_okq (⟨"CheckRules$Reader", "beginLevel", "(I)Z"⟩, 14) := ⟨⟨by decide +kernel, by decide +kernel⟩, List.mem_of_getElem? (i := 33) (by decide +kernel), List.mem_of_getElem? (i := 452) (by decide +kernel), List.mem_of_getElem? (i := 453) (by decide +kernel)⟩
theorem lw_p13 : lw_okq (⟨"CheckRules$Reader", "readToken", "()V"⟩, 14) := ⟨⟨by decide +kernel, by decide +kernel⟩, List.mem_of_getElem? (i := 33) (by decide +kernel), List.mem_of_getElem? (i := 457) (by decide +kernel), List.mem_of_getElem? (i := 458) (by decide +kernel)⟩
theorem lw_p14 : lw_okq (⟨"CheckRules$Reader", "readNumber", "(I)Z"⟩, 14) := ⟨⟨by decide +kernel, by decide +kernel⟩, List.mem_of_getElem? (i := 33) (by decide +kernel), List.mem_of_getElem? (i := 468) (by decide +kernel), List.mem_of_getElem? (i := 469) (by decide +kernel)⟩
theorem lw_p15 : lw_okq (⟨"CheckRules$Reader", "readWord", "()I"⟩, 14) := ⟨⟨by decide +kernel, by decide +kernel⟩, List.mem_of_getElem? (i := 33) (by decide +kernel), List.mem_of_getElem? (i := 475) (by decide +kernel), List.mem_of_getElem? (i := 476) (by decide +kernel)⟩
def lw_privs_1 : List (MethodName × Nat) := [(⟨"CheckRules", "find", "(I)LCheckRules$Rule;"⟩, 7), (⟨"CheckRules", "checkOne", "(LCheckRules$Rule;)V"⟩, 7), (⟨"CheckRules$Worker", "workOutNode", "(LCheckRules$Tree;I)V"⟩, 3), (⟨"CheckRules$Tree", "has", "(I)Z"⟩, 4), (⟨"CheckRules$Worker", "setOnAllLines", "(II)V"⟩, 3), (⟨"CheckRules$Worker", "setResult", "(III)V"⟩, 3), (⟨"CheckRules$Worker", "overLines", "(II)I"⟩, 3), (⟨"CheckRules$Worker", "resultOf", "(II)I"⟩, 3), (⟨"CheckRules", "findBad", "(IZ)I"⟩, 7), (⟨"CheckRules", "countBad", "(Z)I"⟩, 7), (⟨"CheckRules", "countNodes", "(I)I"⟩, 7), (⟨"java/lang/Throwable", "fillInStackTrace", "(I)Ljava/lang/Throwable;"⟩, 6), (⟨"CheckRules$Reader", "beginLevel", "(I)Z"⟩, 14), (⟨"CheckRules$Reader", "readToken", "()V"⟩, 14), (⟨"CheckRules$Reader", "readNumber", "(I)Z"⟩, 14), (⟨"CheckRules$Reader", "readWord", "()I"⟩, 14)]
theorem lw_r1 : ∀ q ∈ lw_privs_1, lw_okq q := List.forall_mem_cons.mpr ⟨lw_p0, List.forall_mem_cons.mpr ⟨lw_p1, List.forall_mem_cons.mpr ⟨lw_p2, List.forall_mem_cons.mpr ⟨lw_p3, List.forall_mem_cons.mpr ⟨lw_p4, List.forall_mem_cons.mpr ⟨lw_p5, List.forall_mem_cons.mpr ⟨lw_p6, List.forall_mem_cons.mpr ⟨lw_p7, List.forall_mem_cons.mpr ⟨lw_p8, List.forall_mem_cons.mpr ⟨lw_p9, List.forall_mem_cons.mpr ⟨lw_p10, List.forall_mem_cons.mpr ⟨lw_p11, List.forall_mem_cons.mpr ⟨lw_p12, List.forall_mem_cons.mpr ⟨lw_p13, List.forall_mem_cons.mpr ⟨lw_p14, List.forall_mem_cons.mpr ⟨lw_p15, fun _ h => absurd h List.not_mem_nil⟩⟩⟩⟩⟩⟩⟩⟩⟩⟩⟩⟩⟩⟩⟩⟩
theorem lw_p16 : lw_okq (⟨"CheckRules$Reader", "isWord", "(Ljava/lang/String;)Z"⟩, 14) := ⟨⟨by decide +kernel, by decide +kernel⟩, List.mem_of_getElem? (i := 33) (by decide +kernel), List.mem_of_getElem? (i := 480) (by decide +kernel), List.mem_of_getElem? (i := 481) (by decide +kernel)⟩
theorem lw_p17 : lw_okq (⟨"CheckRules$Reader", "takeToken", "()Z"⟩, 14) := ⟨⟨by decide +kernel, by decide +kernel⟩, List.mem_of_getElem? (i := 33) (by decide +kernel), List.mem_of_getElem? (i := 536) (by decide +kernel), List.mem_of_getElem? (i := 537) (by decide +kernel)⟩
theorem lw_p18 : lw_okq (⟨"CheckRules$Reader", "takePart", "()Z"⟩, 14) := ⟨⟨by decide +kernel, by decide +kernel⟩, List.mem_of_getElem? (i := 33) (by decide +kernel), List.mem_of_getElem? (i := 540) (by decide +kernel), List.mem_of_getElem? (i := 541) (by decide +kernel)⟩
theorem lw_p19 : lw_okq (⟨"CheckRules$Reader", "goDeeper", "()Z"⟩, 14) := ⟨⟨by decide +kernel, by decide +kernel⟩, List.mem_of_getElem? (i := 33) (by decide +kernel), List.mem_of_getElem? (i := 544) (by decide +kernel), List.mem_of_getElem? (i := 545) (by decide +kernel)⟩
theorem lw_p20 : lw_okq (⟨"CheckRules$Reader", "takeTerm", "()Z"⟩, 14) := ⟨⟨by decide +kernel, by decide +kernel⟩, List.mem_of_getElem? (i := 33) (by decide +kernel), List.mem_of_getElem? (i := 552) (by decide +kernel), List.mem_of_getElem? (i := 553) (by decide +kernel)⟩
theorem lw_p21 : lw_okq (⟨"CheckRules$Reader", "takeFieldOfSum", "()Z"⟩, 14) := ⟨⟨by decide +kernel, by decide +kernel⟩, List.mem_of_getElem? (i := 33) (by decide +kernel), List.mem_of_getElem? (i := 556) (by decide +kernel), List.mem_of_getElem? (i := 557) (by decide +kernel)⟩
theorem lw_p22 : lw_okq (⟨"CheckRules$Reader", "takeBehindTerm", "()Z"⟩, 14) := ⟨⟨by decide +kernel, by decide +kernel⟩, List.mem_of_getElem? (i := 33) (by decide +kernel), List.mem_of_getElem? (i := 564) (by decide +kernel), List.mem_of_getElem? (i := 565) (by decide +kernel)⟩
theorem lw_p23 : lw_okq (⟨"CheckRules$Reader", "kindOfToken", "()I"⟩, 14) := ⟨⟨by decide +kernel, by decide +kernel⟩, List.mem_of_getElem? (i := 33) (by decide +kernel), List.mem_of_getElem? (i := 568) (by decide +kernel), List.mem_of_getElem? (i := 569) (by decide +kernel)⟩
theorem lw_p24 : lw_okq (⟨"CheckRules$Reader", "compare", "()Z"⟩, 14) := ⟨⟨by decide +kernel, by decide +kernel⟩, List.mem_of_getElem? (i := 33) (by decide +kernel), List.mem_of_getElem? (i := 635) (by decide +kernel), List.mem_of_getElem? (i := 636) (by decide +kernel)⟩
theorem lw_p25 : lw_okq (⟨"CheckRules$Reader", "takeBehindPart", "()Z"⟩, 14) := ⟨⟨by decide +kernel, by decide +kernel⟩, List.mem_of_getElem? (i := 33) (by decide +kernel), List.mem_of_getElem? (i := 639) (by decide +kernel), List.mem_of_getElem? (i := 640) (by decide +kernel)⟩
theorem lw_p26 : lw_okq (⟨"CheckRules$Reader", "endLevel", "()Z"⟩, 14) := ⟨⟨by decide +kernel, by decide +kernel⟩, List.mem_of_getElem? (i := 33) (by decide +kernel), List.mem_of_getElem? (i := 643) (by decide +kernel), List.mem_of_getElem? (i := 644) (by decide +kernel)⟩
theorem lw_p27 : lw_okq (⟨"CheckRules$Printer", "printNode", "(LCheckRules$Tree;II)V"⟩, 1) := ⟨⟨by decide +kernel, by decide +kernel⟩, List.mem_of_getElem? (i := 147) (by decide +kernel), List.mem_of_getElem? (i := 800) (by decide +kernel), List.mem_of_getElem? (i := 801) (by decide +kernel)⟩
theorem lw_p28 : lw_okq (⟨"CheckRules$Printer", "printBelow", "(LCheckRules$Tree;III)V"⟩, 1) := ⟨⟨by decide +kernel, by decide +kernel⟩, List.mem_of_getElem? (i := 147) (by decide +kernel), List.mem_of_getElem? (i := 807) (by decide +kernel), List.mem_of_getElem? (i := 808) (by decide +kernel)⟩
theorem lw_p29 : lw_okq (⟨"CheckRules$Printer", "addWord", "(Ljava/lang/String;)V"⟩, 1) := ⟨⟨by decide +kernel, by decide +kernel⟩, List.mem_of_getElem? (i := 147) (by decide +kernel), List.mem_of_getElem? (i := 817) (by decide +kernel), List.mem_of_getElem? (i := 818) (by decide +kernel)⟩
theorem lw_p30 : lw_okq (⟨"CheckRules$Printer", "printTerm", "(II)V"⟩, 1) := ⟨⟨by decide +kernel, by decide +kernel⟩, List.mem_of_getElem? (i := 147) (by decide +kernel), List.mem_of_getElem? (i := 824) (by decide +kernel), List.mem_of_getElem? (i := 825) (by decide +kernel)⟩
theorem lw_p31 : lw_okq (⟨"CheckRules$Printer", "addNumber", "(I)V"⟩, 1) := ⟨⟨by decide +kernel, by decide +kernel⟩, List.mem_of_getElem? (i := 147) (by decide +kernel), List.mem_of_getElem? (i := 830) (by decide +kernel), List.mem_of_getElem? (i := 831) (by decide +kernel)⟩
def lw_privs_2 : List (MethodName × Nat) := [(⟨"CheckRules$Reader", "isWord", "(Ljava/lang/String;)Z"⟩, 14), (⟨"CheckRules$Reader", "takeToken", "()Z"⟩, 14), (⟨"CheckRules$Reader", "takePart", "()Z"⟩, 14), (⟨"CheckRules$Reader", "goDeeper", "()Z"⟩, 14), (⟨"CheckRules$Reader", "takeTerm", "()Z"⟩, 14), (⟨"CheckRules$Reader", "takeFieldOfSum", "()Z"⟩, 14), (⟨"CheckRules$Reader", "takeBehindTerm", "()Z"⟩, 14), (⟨"CheckRules$Reader", "kindOfToken", "()I"⟩, 14), (⟨"CheckRules$Reader", "compare", "()Z"⟩, 14), (⟨"CheckRules$Reader", "takeBehindPart", "()Z"⟩, 14), (⟨"CheckRules$Reader", "endLevel", "()Z"⟩, 14), (⟨"CheckRules$Printer", "printNode", "(LCheckRules$Tree;II)V"⟩, 1), (⟨"CheckRules$Printer", "printBelow", "(LCheckRules$Tree;III)V"⟩, 1), (⟨"CheckRules$Printer", "addWord", "(Ljava/lang/String;)V"⟩, 1), (⟨"CheckRules$Printer", "printTerm", "(II)V"⟩, 1), (⟨"CheckRules$Printer", "addNumber", "(I)V"⟩, 1)]
theorem lw_r2 : ∀ q ∈ lw_privs_2, lw_okq q := List.forall_mem_cons.mpr ⟨lw_p16, List.forall_mem_cons.mpr ⟨lw_p17, List.forall_mem_cons.mpr ⟨lw_p18, List.forall_mem_cons.mpr ⟨lw_p19, List.forall_mem_cons.mpr ⟨lw_p20, List.forall_mem_cons.mpr ⟨lw_p21, List.forall_mem_cons.mpr ⟨lw_p22, List.forall_mem_cons.mpr ⟨lw_p23, List.forall_mem_cons.mpr ⟨lw_p24, List.forall_mem_cons.mpr ⟨lw_p25, List.forall_mem_cons.mpr ⟨lw_p26, List.forall_mem_cons.mpr ⟨lw_p27, List.forall_mem_cons.mpr ⟨lw_p28, List.forall_mem_cons.mpr ⟨lw_p29, List.forall_mem_cons.mpr ⟨lw_p30, List.forall_mem_cons.mpr ⟨lw_p31, fun _ h => absurd h List.not_mem_nil⟩⟩⟩⟩⟩⟩⟩⟩⟩⟩⟩⟩⟩⟩⟩⟩
theorem lw_p32 : lw_okq (⟨"CheckRules$Printer", "addSignOf", "(I)V"⟩, 1) := ⟨⟨by decide +kernel, by decide +kernel⟩, List.mem_of_getElem? (i := 147) (by decide +kernel), List.mem_of_getElem? (i := 835) (by decide +kernel), List.mem_of_getElem? (i := 836) (by decide +kernel)⟩
theorem lw_p33 : lw_okq (⟨"CheckRulesModel", "read", "()I"⟩, 38) := ⟨⟨by decide +kernel, by decide +kernel⟩, List.mem_of_getElem? (i := 849) (by decide +kernel), List.mem_of_getElem? (i := 987) (by decide +kernel), List.mem_of_getElem? (i := 988) (by decide +kernel)⟩
theorem lw_p34 : lw_okq (⟨"CheckRulesModel", "begins", "()Z"⟩, 38) := ⟨⟨by decide +kernel, by decide +kernel⟩, List.mem_of_getElem? (i := 849) (by decide +kernel), List.mem_of_getElem? (i := 991) (by decide +kernel), List.mem_of_getElem? (i := 992) (by decide +kernel)⟩
theorem lw_p35 : lw_okq (⟨"CheckRulesModel", "look", "()I"⟩, 38) := ⟨⟨by decide +kernel, by decide +kernel⟩, List.mem_of_getElem? (i := 849) (by decide +kernel), List.mem_of_getElem? (i := 995) (by decide +kernel), List.mem_of_getElem? (i := 996) (by decide +kernel)⟩
theorem lw_p36 : lw_okq (⟨"CheckRulesModel", "word", "()I"⟩, 38) := ⟨⟨by decide +kernel, by decide +kernel⟩, List.mem_of_getElem? (i := 849) (by decide +kernel), List.mem_of_getElem? (i := 999) (by decide +kernel), List.mem_of_getElem? (i := 1000) (by decide +kernel)⟩
theorem lw_p37 : lw_okq (⟨"CheckRulesModel", "node", "(II)I"⟩, 38) := ⟨⟨by decide +kernel, by decide +kernel⟩, List.mem_of_getElem? (i := 849) (by decide +kernel), List.mem_of_getElem? (i := 1013) (by decide +kernel), List.mem_of_getElem? (i := 1014) (by decide +kernel)⟩
theorem lw_p38 : lw_okq (⟨"CheckRulesModel", "fail", "(I)V"⟩, 38) := ⟨⟨by decide +kernel, by decide +kernel⟩, List.mem_of_getElem? (i := 849) (by decide +kernel), List.mem_of_getElem? (i := 1017) (by decide +kernel), List.mem_of_getElem? (i := 1018) (by decide +kernel)⟩
theorem lw_p39 : lw_okq (⟨"CheckRulesModel", "enter", "(I)V"⟩, 38) := ⟨⟨by decide +kernel, by decide +kernel⟩, List.mem_of_getElem? (i := 849) (by decide +kernel), List.mem_of_getElem? (i := 1021) (by decide +kernel), List.mem_of_getElem? (i := 1022) (by decide +kernel)⟩
theorem lw_p40 : lw_okq (⟨"CheckRulesModel", "push", "(II)V"⟩, 38) := ⟨⟨by decide +kernel, by decide +kernel⟩, List.mem_of_getElem? (i := 849) (by decide +kernel), List.mem_of_getElem? (i := 1025) (by decide +kernel), List.mem_of_getElem? (i := 1026) (by decide +kernel)⟩
theorem lw_p41 : lw_okq (⟨"CheckRulesModel", "comparison", "()I"⟩, 38) := ⟨⟨by decide +kernel, by decide +kernel⟩, List.mem_of_getElem? (i := 849) (by decide +kernel), List.mem_of_getElem? (i := 1029) (by decide +kernel), List.mem_of_getElem? (i := 1030) (by decide +kernel)⟩
theorem lw_p42 : lw_okq (⟨"CheckRulesModel", "sum", "()I"⟩, 38) := ⟨⟨by decide +kernel, by decide +kernel⟩, List.mem_of_getElem? (i := 849) (by decide +kernel), List.mem_of_getElem? (i := 1033) (by decide +kernel), List.mem_of_getElem? (i := 1034) (by decide +kernel)⟩
theorem lw_p43 : lw_okq (⟨"CheckRulesModel", "term", "()I"⟩, 38) := ⟨⟨by decide +kernel, by decide +kernel⟩, List.mem_of_getElem? (i := 849) (by decide +kernel), List.mem_of_getElem? (i := 1037) (by decide +kernel), List.mem_of_getElem? (i := 1038) (by decide +kernel)⟩
theorem lw_p44 : lw_okq (⟨"CheckRulesModel", "digits", "(II)I"⟩, 38) := ⟨⟨by decide +kernel, by decide +kernel⟩, List.mem_of_getElem? (i := 849) (by decide +kernel), List.mem_of_getElem? (i := 1044) (by decide +kernel), List.mem_of_getElem? (i := 1045) (by decide +kernel)⟩
theorem lw_p45 : lw_okq (⟨"CheckRulesModel", "field", "()I"⟩, 38) := ⟨⟨by decide +kernel, by decide +kernel⟩, List.mem_of_getElem? (i := 849) (by decide +kernel), List.mem_of_getElem? (i := 1048) (by decide +kernel), List.mem_of_getElem? (i := 1049) (by decide +kernel)⟩
theorem lw_p46 : lw_okq (⟨"CheckRulesModel", "taken", "(I)I"⟩, 38) := ⟨⟨by decide +kernel, by decide +kernel⟩, List.mem_of_getElem? (i := 849) (by decide +kernel), List.mem_of_getElem? (i := 1052) (by decide +kernel), List.mem_of_getElem? (i := 1053) (by decide +kernel)⟩
theorem lw_p47 : lw_okq (⟨"CheckRulesModel", "or", "(I)I"⟩, 38) := ⟨⟨by decide +kernel, by decide +kernel⟩, List.mem_of_getElem? (i := 849) (by decide +kernel), List.mem_of_getElem? (i := 1056) (by decide +kernel), List.mem_of_getElem? (i := 1057) (by decide +kernel)⟩
def lw_privs_3 : List (MethodName × Nat) := [(⟨"CheckRules$Printer", "addSignOf", "(I)V"⟩, 1), (⟨"CheckRulesModel", "read", "()I"⟩, 38), (⟨"CheckRulesModel", "begins", "()Z"⟩, 38), (⟨"CheckRulesModel", "look", "()I"⟩, 38), (⟨"CheckRulesModel", "word", "()I"⟩, 38), (⟨"CheckRulesModel", "node", "(II)I"⟩, 38), (⟨"CheckRulesModel", "fail", "(I)V"⟩, 38), (⟨"CheckRulesModel", "enter", "(I)V"⟩, 38), (⟨"CheckRulesModel", "push", "(II)V"⟩, 38), (⟨"CheckRulesModel", "comparison", "()I"⟩, 38), (⟨"CheckRulesModel", "sum", "()I"⟩, 38), (⟨"CheckRulesModel", "term", "()I"⟩, 38), (⟨"CheckRulesModel", "digits", "(II)I"⟩, 38), (⟨"CheckRulesModel", "field", "()I"⟩, 38), (⟨"CheckRulesModel", "taken", "(I)I"⟩, 38), (⟨"CheckRulesModel", "or", "(I)I"⟩, 38)]
theorem lw_r3 : ∀ q ∈ lw_privs_3, lw_okq q := List.forall_mem_cons.mpr ⟨lw_p32, List.forall_mem_cons.mpr ⟨lw_p33, List.forall_mem_cons.mpr ⟨lw_p34, List.forall_mem_cons.mpr ⟨lw_p35, List.forall_mem_cons.mpr ⟨lw_p36, List.forall_mem_cons.mpr ⟨lw_p37, List.forall_mem_cons.mpr ⟨lw_p38, List.forall_mem_cons.mpr ⟨lw_p39, List.forall_mem_cons.mpr ⟨lw_p40, List.forall_mem_cons.mpr ⟨lw_p41, List.forall_mem_cons.mpr ⟨lw_p42, List.forall_mem_cons.mpr ⟨lw_p43, List.forall_mem_cons.mpr ⟨lw_p44, List.forall_mem_cons.mpr ⟨lw_p45, List.forall_mem_cons.mpr ⟨lw_p46, List.forall_mem_cons.mpr ⟨lw_p47, fun _ h => absurd h List.not_mem_nil⟩⟩⟩⟩⟩⟩⟩⟩⟩⟩⟩⟩⟩⟩⟩⟩
theorem lw_p48 : lw_okq (⟨"CheckRulesModel", "number", "(II)V"⟩, 38) := ⟨⟨by decide +kernel, by decide +kernel⟩, List.mem_of_getElem? (i := 849) (by decide +kernel), List.mem_of_getElem? (i := 1060) (by decide +kernel), List.mem_of_getElem? (i := 1061) (by decide +kernel)⟩
theorem lw_p49 : lw_okq (⟨"CheckRulesModel", "isRule", "(I)Z"⟩, 38) := ⟨⟨by decide +kernel, by decide +kernel⟩, List.mem_of_getElem? (i := 849) (by decide +kernel), List.mem_of_getElem? (i := 1068) (by decide +kernel), List.mem_of_getElem? (i := 1069) (by decide +kernel)⟩
theorem lw_p50 : lw_okq (⟨"CheckRulesModel", "work", "(I)I"⟩, 38) := ⟨⟨by decide +kernel, by decide +kernel⟩, List.mem_of_getElem? (i := 849) (by decide +kernel), List.mem_of_getElem? (i := 1095) (by decide +kernel), List.mem_of_getElem? (i := 1096) (by decide +kernel)⟩
theorem lw_p51 : lw_okq (⟨"CheckRulesModel", "workNode", "(III)V"⟩, 38) := ⟨⟨by decide +kernel, by decide +kernel⟩, List.mem_of_getElem? (i := 849) (by decide +kernel), List.mem_of_getElem? (i := 1099) (by decide +kernel), List.mem_of_getElem? (i := 1100) (by decide +kernel)⟩
theorem lw_p52 : lw_okq (⟨"CheckRulesModel", "workTerm", "(III)V"⟩, 38) := ⟨⟨by decide +kernel, by decide +kernel⟩, List.mem_of_getElem? (i := 849) (by decide +kernel), List.mem_of_getElem? (i := 1103) (by decide +kernel), List.mem_of_getElem? (i := 1104) (by decide +kernel)⟩
theorem lw_p53 : lw_okq (⟨"CheckRulesModel", "compared", "(III)I"⟩, 38) := ⟨⟨by decide +kernel, by decide +kernel⟩, List.mem_of_getElem? (i := 849) (by decide +kernel), List.mem_of_getElem? (i := 1107) (by decide +kernel), List.mem_of_getElem? (i := 1108) (by decide +kernel)⟩
theorem lw_p54 : lw_okq (⟨"CheckRulesModel", "over", "(II)I"⟩, 38) := ⟨⟨by decide +kernel, by decide +kernel⟩, List.mem_of_getElem? (i := 849) (by decide +kernel), List.mem_of_getElem? (i := 1111) (by decide +kernel), List.mem_of_getElem? (i := 1112) (by decide +kernel)⟩
theorem lw_p55 : lw_okq (⟨"CheckRulesModel", "isThere", "(I)Z"⟩, 38) := ⟨⟨by decide +kernel, by decide +kernel⟩, List.mem_of_getElem? (i := 849) (by decide +kernel), List.mem_of_getElem? (i := 1115) (by decide +kernel), List.mem_of_getElem? (i := 1116) (by decide +kernel)⟩
theorem lw_p56 : lw_okq (⟨"CheckRulesModel", "badAt", "(IZ)I"⟩, 38) := ⟨⟨by decide +kernel, by decide +kernel⟩, List.mem_of_getElem? (i := 849) (by decide +kernel), List.mem_of_getElem? (i := 1128) (by decide +kernel), List.mem_of_getElem? (i := 1129) (by decide +kernel)⟩
theorem lw_p57 : lw_okq (⟨"CheckRulesModel", "put", "(I)V"⟩, 38) := ⟨⟨by decide +kernel, by decide +kernel⟩, List.mem_of_getElem? (i := 849) (by decide +kernel), List.mem_of_getElem? (i := 1164) (by decide +kernel), List.mem_of_getElem? (i := 1165) (by decide +kernel)⟩
theorem lw_p58 : lw_okq (⟨"CheckRulesModel", "putTerm", "(I)V"⟩, 38) := ⟨⟨by decide +kernel, by decide +kernel⟩, List.mem_of_getElem? (i := 849) (by decide +kernel), List.mem_of_getElem? (i := 1168) (by decide +kernel), List.mem_of_getElem? (i := 1169) (by decide +kernel)⟩
theorem lw_p59 : lw_okq (⟨"CheckRulesModel", "putNumber", "(I)V"⟩, 38) := ⟨⟨by decide +kernel, by decide +kernel⟩, List.mem_of_getElem? (i := 849) (by decide +kernel), List.mem_of_getElem? (i := 1172) (by decide +kernel), List.mem_of_getElem? (i := 1173) (by decide +kernel)⟩
theorem lw_p60 : lw_okq (⟨"CheckRulesModel", "unfold", "(III)I"⟩, 38) := ⟨⟨by decide +kernel, by decide +kernel⟩, List.mem_of_getElem? (i := 849) (by decide +kernel), List.mem_of_getElem? (i := 1176) (by decide +kernel), List.mem_of_getElem? (i := 1177) (by decide +kernel)⟩
def lw_privs_4 : List (MethodName × Nat) := [(⟨"CheckRulesModel", "number", "(II)V"⟩, 38), (⟨"CheckRulesModel", "isRule", "(I)Z"⟩, 38), (⟨"CheckRulesModel", "work", "(I)I"⟩, 38), (⟨"CheckRulesModel", "workNode", "(III)V"⟩, 38), (⟨"CheckRulesModel", "workTerm", "(III)V"⟩, 38), (⟨"CheckRulesModel", "compared", "(III)I"⟩, 38), (⟨"CheckRulesModel", "over", "(II)I"⟩, 38), (⟨"CheckRulesModel", "isThere", "(I)Z"⟩, 38), (⟨"CheckRulesModel", "badAt", "(IZ)I"⟩, 38), (⟨"CheckRulesModel", "put", "(I)V"⟩, 38), (⟨"CheckRulesModel", "putTerm", "(I)V"⟩, 38), (⟨"CheckRulesModel", "putNumber", "(I)V"⟩, 38), (⟨"CheckRulesModel", "unfold", "(III)I"⟩, 38)]
theorem lw_r4 : ∀ q ∈ lw_privs_4, lw_okq q := List.forall_mem_cons.mpr ⟨lw_p48, List.forall_mem_cons.mpr ⟨lw_p49, List.forall_mem_cons.mpr ⟨lw_p50, List.forall_mem_cons.mpr ⟨lw_p51, List.forall_mem_cons.mpr ⟨lw_p52, List.forall_mem_cons.mpr ⟨lw_p53, List.forall_mem_cons.mpr ⟨lw_p54, List.forall_mem_cons.mpr ⟨lw_p55, List.forall_mem_cons.mpr ⟨lw_p56, List.forall_mem_cons.mpr ⟨lw_p57, List.forall_mem_cons.mpr ⟨lw_p58, List.forall_mem_cons.mpr ⟨lw_p59, List.forall_mem_cons.mpr ⟨lw_p60, fun _ h => absurd h List.not_mem_nil⟩⟩⟩⟩⟩⟩⟩⟩⟩⟩⟩⟩⟩
def lw_privs : List (MethodName × Nat) := lw_privs_1 ++ (lw_privs_2 ++ (lw_privs_3 ++ (lw_privs_4)))
def lw_tbl : List Cond := k2_sels lw_privs ++ tables_1
theorem lw_privs_ok : ∀ q ∈ lw_privs, lw_okq q := by
  show ∀ q ∈ lw_privs_1 ++ (lw_privs_2 ++ (lw_privs_3 ++ (lw_privs_4))), lw_okq q
  exact List.forall_mem_append.mpr ⟨lw_r1, List.forall_mem_append.mpr ⟨lw_r2, List.forall_mem_append.mpr ⟨lw_r3, lw_r4⟩⟩⟩
end
section
/-! Z: the walk over a heap that is a function. b0: where the cells of this run begin; N: the heap's size; f a: the cell at a (b0 ≤ a < N). -/
def zH (D : va_G) (cl : List vw_C) (b0 N : Nat) (f : Nat → va_E) (H : Heap) : Prop := H.size = N ∧ ∀ a : Nat, b0 ≤ a → a < N → va_at D cl (a, f a) H
def zL (ls : Array Slot) (nL : Nat) (lv : List (Nat × Value)) : Prop := lv_has ls nL lv
/-- a store at i hits no half of a listed long -/
def zok (lv : List (Nat × Value)) (i : Nat) : Bool := lv.all (fun q => !(q.1 + 1 == i && q.2.category == 2))
def zok2 (lv : List (Nat × Value)) (i : Nat) : Bool := lv.all (fun q => !(q.1 == i + 1) && !(q.1 + 1 == i && q.2.category == 2))
/-- the locals as a list: read, write -/
def zg : List (Nat × Value) → Nat → Option Value
  | [], _ => none
  | (j, v) :: t, i => if j = i then some v else zg t i
def zs (lv : List (Nat × Value)) (i : Nat) (v : Value) : List (Nat × Value) := if (lv.any fun q => q.1 == i) = true then lv.map (fun q => if q.1 = i then (i, v) else q) else lv ++ [(i, v)]
theorem zg_mem : ∀ {lv : List (Nat × Value)} {i : Nat} {v : Value}, zg lv i = some v → (i, v) ∈ lv
  | [], i, v, h => by cases h
  | (j, w) :: t, i, v, h => by
    unfold zg at h
    by_cases hj : j = i
    · rw [if_pos hj] at h
      cases h
      subst hj
      exact List.mem_cons_self
    · rw [if_neg hj] at h
      exact List.mem_cons_of_mem _ (zg_mem h)
theorem zL.get {ls : Array Slot} {nL : Nat} {lv : List (Nat × Value)} {i : Nat} {v : Value} (h : zL ls nL lv) (hg : zg lv i = some v) : ls[i]? = some (.val v) := h.2.2 (i, v) (zg_mem hg)
theorem zs_mem {lv : List (Nat × Value)} {i : Nat} {v : Value} {q : Nat × Value} (h : q ∈ zs lv i v) : q = (i, v) ∨ (q ∈ lv ∧ q.1 ≠ i) := by
  unfold zs at h
  by_cases ha : (lv.any fun q => q.1 == i) = true
  · rw [if_pos ha] at h
    obtain ⟨r, h1, h2⟩ := List.mem_map.mp h
    by_cases hr : r.1 = i
    · rw [if_pos hr] at h2
      exact Or.inl h2.symm
    · rw [if_neg hr] at h2
      subst h2
      exact Or.inr ⟨h1, hr⟩
  · rw [if_neg ha] at h
    rcases List.mem_append.mp h with h | h
    · refine Or.inr ⟨h, fun hi => ha ?_⟩
      exact List.any_eq_true.mpr ⟨q, h, by simp [hi]⟩
    · exact Or.inl (by simpa using h)
theorem zH.set {D : va_G} {cl : List vw_C} {b0 N : Nat} {f : Nat → va_E} {H H1 : Heap} (h : zH D cl b0 N f H) {a : Nat} {x : va_E} (hz : H1.size = H.size) (he : va_at D cl (a, x) H1) (ho : ∀ q : Nat, q ≠ a → H1[q]? = H[q]?) : zH D cl b0 N (va_up f a x) H1 := by
  refine ⟨hz.trans h.1, fun q h1 h2 => ?_⟩
  by_cases hq : q = a
  · subst hq
    rw [va_up_self]
    exact he
  · rw [va_up_ne _ _ hq]
    exact (h.2 q h1 h2).kept (ho q hq)
theorem zH.push {D : va_G} {cl : List vw_C} {b0 N : Nat} {f : Nat → va_E} {H H1 : Heap} (h : zH D cl b0 N f H) {x : va_E} (hz : H1.size = N + 1) (he : va_at D cl (N, x) H1) (ho : ∀ q : Nat, q < N → H1[q]? = H[q]?) : zH D cl b0 (N + 1) (va_up f N x) H1 := by
  refine ⟨hz, fun q h1 h2 => ?_⟩
  by_cases hq : q = N
  · subst hq
    rw [va_up_self]
    exact he
  · rw [va_up_ne _ _ hq]
    exact (h.2 q h1 (by omega)).kept (ho q (by omega))
/-- the frame: what lies below b0 stays -/
abbrev zA (b0 : Nat) : Nat → Prop := fun q => b0 ≤ q
theorem zS_put {b0 a i : Nat} {H0 H H1 : Heap} {locs : List Loc} (h : va_S (zA b0) H0 H locs) (z : H1.size = H.size) (o : ∀ q : Nat, q ≠ a → H1[q]? = H[q]?) (ha : b0 ≤ a) : va_S (zA b0) H0 H1 (locs ++ [⟨a, i⟩]) := by
  refine ⟨by rw [z]; exact h.1, fun q h1 h2 => ?_, fun l hl => ?_⟩
  · have hq : q ≠ a := fun e => h2 (by rw [e]; exact ha)
    rw [o q hq]
    exact h.2.1 q h1 h2
  · rcases List.mem_append.mp hl with hl | hl
    · exact h.2.2 l hl
    · rcases List.mem_singleton.mp hl with rfl
      exact ha
theorem zS_push {b0 N : Nat} {H0 H H1 : Heap} {locs : List Loc} (h : va_S (zA b0) H0 H locs) (hN : H.size = N) (z : H1.size = N + 1) (o : ∀ q : Nat, q < N → H1[q]? = H[q]?) : va_S (zA b0) H0 H1 locs := by
  refine ⟨by have := h.1; omega, fun q h1 h2 => ?_, h.2.2⟩
  rw [o q (by have := h.1; omega)]
  exact h.2.1 q h1 h2
/-- what a method's walk stands on -/
def zX (p : Program) (s : State) (m : MethodId) (args : Array Value) (meth : Method) (c : Code) (D : va_G) (cl : List vw_C) (tys : List (ClassId × FieldType)) (b0 : Nat) (G : State → Prop) (cc : ByteArray) (nL : Nat) (own : String) (Ts : List Cond) (ret : Option FieldType) : Prop :=
  p.tables.exec = Jvm.exec ∧ c.code = cc ∧ c.maxLocals = nL ∧ s.vm.findClass own = some m.cls ∧ (∀ w ∈ Ts, w.before args s = true) ∧ G s ∧ va_K D cl tys s ∧ meth.sig.returnType = ret ∧ meth.locks = false ∧ b0 ≤ s.heap.size
/-- the machine comes from here to a state with Q: pc, locals, operand stack, heap -/
def zW (p : Program) (l : Launch) (e : Env) (R : Room) (s : State) (m : MethodId) (args : Array Value) (below : List Frame) (meth : Method) (c : Code) (D : va_G) (cl : List vw_C) (b0 nL cells slots : Nat) (Q : State → Prop) (N : Nat) (f : Nat → va_E) (pc : Nat) (lv : List (Nat × Value)) (st : List Value) : Prop :=
  ∀ (H : Heap) (locs : List Loc) (ls : Array Slot), zH D cl b0 N f H → va_S (zA b0) s.heap H locs → zL ls nL lv → W p l e R s m args below meth c H locs cells slots Q (F0 m pc ls st)
/-- a call's end: an answer, a heap, and what is said of them -/
def zQ (D : va_G) (cl : List vw_C) (b0 : Nat) (P : Option Value → Nat → (Nat → va_E) → Prop) : Array Value → State → Outcome → State → Prop := fun _ u oc t => ∃ (r : Option Value) (N' : Nat) (f' : Nat → va_E), oc = .returned r ∧ zH D cl b0 N' f' t.heap ∧ (∀ q : Nat, q < b0 → t.heap[q]? = u.heap[q]?) ∧ u.heap.size ≤ N' ∧ P r N' f'
def zPc (D : va_G) (cl : List vw_C) (tys : List (ClassId × FieldType)) (b0 : Nat) (G : State → Prop) (As : List Value) (N : Nat) (f : Nat → va_E) : Array Value → State → Prop := va_Pc As (fun U => G U ∧ va_K D cl tys U ∧ zH D cl b0 N f U.heap ∧ b0 ≤ N)
/-- a contract: called with As in the heap (N, f), the method answers r and leaves (N', f') with P -/
def zM (l : Launch) (D : va_G) (cl : List vw_C) (tys : List (ClassId × FieldType)) (b0 : Nat) (G : State → Prop) (y : MethodName) (ws : List Cond) (rm : Room) (mc ms : Nat) (As : List Value) (N : Nat) (f : Nat → va_E) (P : Option Value → Nat → (Nat → va_E) → Prop) : Prop :=
  Met l y ws rm (zPc D cl tys b0 G As N f) (zQ D cl b0 P) mc ms (zA b0)
/-- G moves with the machine -/
def zGok (b0 : Nat) (G : State → Prop) : Prop := ∀ s U : State, s.WarmedH U.vm → b0 ≤ s.heap.size → (∀ q : Nat, q < b0 → U.heap[q]? = s.heap[q]?) → G s → G U
def zlv (As : List Value) : List (Nat × Value) := lv_args 0 As
theorem zL.sto {ls' : Array Slot} {nL : Nat} {lv : List (Nat × Value)} {i : Nat} {v : Value} (hz : zok lv i = true) (h1 : lv_has ls' nL ((i, v) :: lv.filter (fun q => !(q.1 == i) && !(q.1 + 1 == i && q.2.category == 2)))) : zL ls' nL (zs lv i v) := by
  refine ⟨h1.1, h1.2.1, fun q hq => ?_⟩
  rcases zs_mem hq with rfl | ⟨h2, h3⟩
  · exact h1.2.2 _ List.mem_cons_self
  · refine h1.2.2 q (List.mem_cons_of_mem _ (List.mem_filter.mpr ⟨h2, ?_⟩))
    have hc := List.all_eq_true.mp hz q h2
    simp only [Bool.and_eq_true] at hc ⊢
    exact ⟨by simp [h3], hc⟩
theorem zL.sto2 {ls' : Array Slot} {nL : Nat} {lv : List (Nat × Value)} {i : Nat} {v : Value} (hz : zok2 lv i = true) (h1 : lv_has ls' nL ((i, v) :: lv.filter (fun q => !(q.1 == i) && (!(q.1 == i + 1) && !(q.1 + 1 == i && q.2.category == 2))))) : zL ls' nL (zs lv i v) := by
  refine ⟨h1.1, h1.2.1, fun q hq => ?_⟩
  rcases zs_mem hq with rfl | ⟨h2, h3⟩
  · exact h1.2.2 _ List.mem_cons_self
  · refine h1.2.2 q (List.mem_cons_of_mem _ (List.mem_filter.mpr ⟨h2, ?_⟩))
    have hc := List.all_eq_true.mp hz q h2
    simp only [Bool.and_eq_true] at hc ⊢
    exact ⟨by simp [h3], hc⟩
theorem zP1 {D : va_G} {cl : List vw_C} {q : Nat × va_E} {H : Heap} (h : va_at D cl q H) : va_P D cl [q] H := by
  intro k r hk
  match k, hk with
  | 0, hk => cases hk; exact h
  | k + 1, hk => simp at hk
theorem zlow {b0 : Nat} {s : State} {H : Heap} {locs : List Loc} (hb : b0 ≤ s.heap.size) (hS : va_S (zA b0) s.heap H locs) : ∀ q : Nat, q < b0 → H[q]? = s.heap[q]? := fun q hq => hS.2.1 q (Nat.lt_of_lt_of_le hq hb) (Nat.not_le.mpr hq)
theorem zblind {D : va_G} {cl : List vw_C} {tys : List (ClassId × FieldType)} {b0 : Nat} {G : State → Prop} {As : List Value} {N : Nat} {f : Nat → va_E} (hg : zGok b0 G) : FrameBlind (zPc D cl tys b0 G As N f) := by
  intro a U g mk h
  obtain ⟨h1, h2, h3, h4, h5⟩ := h
  exact ⟨h1, hg U (U.calling g mk a) (State.WarmedH.refl U) (by rw [h4.1]; exact h5) (fun _ _ => rfl) h2, va_K.moved (u := U) (U := U.calling g mk a) (Vm.Alike.refl U.vm) h3, h4, h5⟩
section ZZ
variable {p : Program} {l : Launch} {e : Env} {R : Room} {s : State} {m : MethodId} {args : Array Value} {below : List Frame} {meth : Method} {c : Code} {cells slots : Nat} {Q : State → Prop} {D : va_G} {cl : List vw_C} {tys : List (ClassId × FieldType)} {b0 : Nat} {G : State → Prop} {cc : ByteArray} {nL : Nat} {own : String} {Ts : List Cond} {ret : Option FieldType} {N : Nat} {f : Nat → va_E} {pc : Nat} {lv : List (Nat × Value)} {st : List Value}
theorem zW.widen {k n : Nat} (h1 : cells ≤ k) (h2 : slots ≤ n) (kk : zW p l e R s m args below meth c D cl b0 nL k n Q N f pc lv st) : zW p l e R s m args below meth c D cl b0 nL cells slots Q N f pc lv st := fun H locs ls hH hS hL => W.widen h1 h2 (kk H locs ls hH hS hL)
theorem zW.heap {N' : Nat} {f' : Nat → va_E} (h1 : N = N') (h2 : f = f') (kk : zW p l e R s m args below meth c D cl b0 nL cells slots Q N' f' pc lv st) : zW p l e R s m args below meth c D cl b0 nL cells slots Q N f pc lv st := by subst h1; subst h2; exact kk
theorem zW.loc {lv' : List (Nat × Value)} (h : ∀ q ∈ lv', q ∈ lv) (kk : zW p l e R s m args below meth c D cl b0 nL cells slots Q N f pc lv' st) : zW p l e R s m args below meth c D cl b0 nL cells slots Q N f pc lv st := fun H locs ls hH hS hL => kk H locs ls hH hS ⟨hL.1, hL.2.1, fun q hq => hL.2.2 q (h q hq)⟩
theorem z_iconst (X : zX p s m args meth c D cl tys b0 G cc nL own Ts ret) {n : Int} (hdg : decode cc pc = .ok (.iconst n, 1)) {v : Int32} (hv : Int32.ofInt n = v) (k : zW p l e R s m args below meth c D cl b0 nL cells slots Q N f (pc + 1) lv (.int v :: st)) : zW p l e R s m args below meth c D cl b0 nL cells slots Q N f pc lv st := fun H locs ls hH hS hL => lv_iconst X.1 X.2.1 hdg hv (k H locs ls hH hS hL)
theorem z_bipush (X : zX p s m args meth c D cl tys b0 G cc nL own Ts ret) {n : Int} (hdg : decode cc pc = .ok (.bipush n, 2)) {v : Int32} (hv : (Int8.ofInt n).toInt32 = v) (k : zW p l e R s m args below meth c D cl b0 nL cells slots Q N f (pc + 2) lv (.int v :: st)) : zW p l e R s m args below meth c D cl b0 nL cells slots Q N f pc lv st := fun H locs ls hH hS hL => lv_bipush X.1 X.2.1 hdg hv (k H locs ls hH hS hL)
theorem z_sipush (X : zX p s m args meth c D cl tys b0 G cc nL own Ts ret) {n : Int} (hdg : decode cc pc = .ok (.sipush n, 3)) {v : Int32} (hv : (Int16.ofInt n).toInt32 = v) (k : zW p l e R s m args below meth c D cl b0 nL cells slots Q N f (pc + 3) lv (.int v :: st)) : zW p l e R s m args below meth c D cl b0 nL cells slots Q N f pc lv st := fun H locs ls hH hS hL => lv_sipush X.1 X.2.1 hdg hv (k H locs ls hH hS hL)
theorem z_iload_n (X : zX p s m args meth c D cl tys b0 G cc nL own Ts ret) {k : Fin 4} {x : Int32} (hdg : decode cc pc = .ok (.iload_n k, 1)) (hg : zg lv (k : Nat) = some (.int x)) (k : zW p l e R s m args below meth c D cl b0 nL cells slots Q N f (pc + 1) lv (.int x :: st)) : zW p l e R s m args below meth c D cl b0 nL cells slots Q N f pc lv st := fun H locs ls hH hS hL => lv_iload_n X.1 X.2.1 hdg rfl (hL.get hg) (k H locs ls hH hS hL)
theorem z_iload (X : zX p s m args meth c D cl tys b0 G cc nL own Ts ret) {i : Nat} {x : Int32} (hdg : decode cc pc = .ok (.iload i, 2)) (hg : zg lv i = some (.int x)) (k : zW p l e R s m args below meth c D cl b0 nL cells slots Q N f (pc + 2) lv (.int x :: st)) : zW p l e R s m args below meth c D cl b0 nL cells slots Q N f pc lv st := fun H locs ls hH hS hL => lv_iload X.1 X.2.1 hdg (hL.get hg) (k H locs ls hH hS hL)
theorem z_aload_n (X : zX p s m args meth c D cl tys b0 G cc nL own Ts ret) {k : Fin 4} {x : Nat} (hdg : decode cc pc = .ok (.aload_n k, 1)) (hg : zg lv (k : Nat) = some (.ref x)) (k : zW p l e R s m args below meth c D cl b0 nL cells slots Q N f (pc + 1) lv (.ref x :: st)) : zW p l e R s m args below meth c D cl b0 nL cells slots Q N f pc lv st := fun H locs ls hH hS hL => lv_aload_n X.1 X.2.1 hdg rfl (hL.get hg) (k H locs ls hH hS hL)
theorem z_aload (X : zX p s m args meth c D cl tys b0 G cc nL own Ts ret) {i : Nat} {x : Nat} (hdg : decode cc pc = .ok (.aload i, 2)) (hg : zg lv i = some (.ref x)) (k : zW p l e R s m args below meth c D cl b0 nL cells slots Q N f (pc + 2) lv (.ref x :: st)) : zW p l e R s m args below meth c D cl b0 nL cells slots Q N f pc lv st := fun H locs ls hH hS hL => lv_aload X.1 X.2.1 hdg (hL.get hg) (k H locs ls hH hS hL)
theorem z_aload_nN (X : zX p s m args meth c D cl tys b0 G cc nL own Ts ret) {k : Fin 4} (hdg : decode cc pc = .ok (.aload_n k, 1)) (hg : zg lv (k : Nat) = some .null) (k : zW p l e R s m args below meth c D cl b0 nL cells slots Q N f (pc + 1) lv (.null :: st)) : zW p l e R s m args below meth c D cl b0 nL cells slots Q N f pc lv st := fun H locs ls hH hS hL => lv_aload_nN X.1 X.2.1 hdg rfl (hL.get hg) (k H locs ls hH hS hL)
theorem z_aloadN (X : zX p s m args meth c D cl tys b0 G cc nL own Ts ret) {i : Nat} (hdg : decode cc pc = .ok (.aload i, 2)) (hg : zg lv i = some .null) (k : zW p l e R s m args below meth c D cl b0 nL cells slots Q N f (pc + 2) lv (.null :: st)) : zW p l e R s m args below meth c D cl b0 nL cells slots Q N f pc lv st := fun H locs ls hH hS hL => lv_aloadN X.1 X.2.1 hdg (hL.get hg) (k H locs ls hH hS hL)
theorem z_iadd (X : zX p s m args meth c D cl tys b0 G cc nL own Ts ret) {x y : Int32} (hdg : decode cc pc = .ok (.iadd, 1))  (k : zW p l e R s m args below meth c D cl b0 nL cells slots Q N f (pc + 1) lv (.int (x + y) :: st)) : zW p l e R s m args below meth c D cl b0 nL cells slots Q N f pc lv (.int y :: .int x :: st) := fun H locs ls hH hS hL => lv_iadd X.1 X.2.1 hdg  (k H locs ls hH hS hL)
theorem z_isub (X : zX p s m args meth c D cl tys b0 G cc nL own Ts ret) {x y : Int32} (hdg : decode cc pc = .ok (.isub, 1))  (k : zW p l e R s m args below meth c D cl b0 nL cells slots Q N f (pc + 1) lv (.int (x - y) :: st)) : zW p l e R s m args below meth c D cl b0 nL cells slots Q N f pc lv (.int y :: .int x :: st) := fun H locs ls hH hS hL => lv_isub X.1 X.2.1 hdg  (k H locs ls hH hS hL)
theorem z_imul (X : zX p s m args meth c D cl tys b0 G cc nL own Ts ret) {x y : Int32} (hdg : decode cc pc = .ok (.imul, 1))  (k : zW p l e R s m args below meth c D cl b0 nL cells slots Q N f (pc + 1) lv (.int (x * y) :: st)) : zW p l e R s m args below meth c D cl b0 nL cells slots Q N f pc lv (.int y :: .int x :: st) := fun H locs ls hH hS hL => lv_imul X.1 X.2.1 hdg  (k H locs ls hH hS hL)
theorem z_iand (X : zX p s m args meth c D cl tys b0 G cc nL own Ts ret) {x y : Int32} (hdg : decode cc pc = .ok (.iand, 1))  (k : zW p l e R s m args below meth c D cl b0 nL cells slots Q N f (pc + 1) lv (.int (x &&& y) :: st)) : zW p l e R s m args below meth c D cl b0 nL cells slots Q N f pc lv (.int y :: .int x :: st) := fun H locs ls hH hS hL => lv_iand X.1 X.2.1 hdg  (k H locs ls hH hS hL)
theorem z_ior (X : zX p s m args meth c D cl tys b0 G cc nL own Ts ret) {x y : Int32} (hdg : decode cc pc = .ok (.ior, 1))  (k : zW p l e R s m args below meth c D cl b0 nL cells slots Q N f (pc + 1) lv (.int (x ||| y) :: st)) : zW p l e R s m args below meth c D cl b0 nL cells slots Q N f pc lv (.int y :: .int x :: st) := fun H locs ls hH hS hL => lv_ior X.1 X.2.1 hdg  (k H locs ls hH hS hL)
theorem z_ixor (X : zX p s m args meth c D cl tys b0 G cc nL own Ts ret) {x y : Int32} (hdg : decode cc pc = .ok (.ixor, 1))  (k : zW p l e R s m args below meth c D cl b0 nL cells slots Q N f (pc + 1) lv (.int (x ^^^ y) :: st)) : zW p l e R s m args below meth c D cl b0 nL cells slots Q N f pc lv (.int y :: .int x :: st) := fun H locs ls hH hS hL => lv_ixor X.1 X.2.1 hdg  (k H locs ls hH hS hL)
theorem z_ishl (X : zX p s m args meth c D cl tys b0 G cc nL own Ts ret) {x y : Int32} (hdg : decode cc pc = .ok (.ishl, 1))  (k : zW p l e R s m args below meth c D cl b0 nL cells slots Q N f (pc + 1) lv (.int (x <<< (y &&& 31)) :: st)) : zW p l e R s m args below meth c D cl b0 nL cells slots Q N f pc lv (.int y :: .int x :: st) := fun H locs ls hH hS hL => lv_ishl X.1 X.2.1 hdg  (k H locs ls hH hS hL)
theorem z_ishr (X : zX p s m args meth c D cl tys b0 G cc nL own Ts ret) {x y : Int32} (hdg : decode cc pc = .ok (.ishr, 1))  (k : zW p l e R s m args below meth c D cl b0 nL cells slots Q N f (pc + 1) lv (.int (x >>> (y &&& 31)) :: st)) : zW p l e R s m args below meth c D cl b0 nL cells slots Q N f pc lv (.int y :: .int x :: st) := fun H locs ls hH hS hL => lv_ishr X.1 X.2.1 hdg  (k H locs ls hH hS hL)
theorem z_idiv (X : zX p s m args meth c D cl tys b0 G cc nL own Ts ret) {x y : Int32} (hdg : decode cc pc = .ok (.idiv, 1)) (hne : ¬ y = 0) (k : zW p l e R s m args below meth c D cl b0 nL cells slots Q N f (pc + 1) lv (.int (x / y) :: st)) : zW p l e R s m args below meth c D cl b0 nL cells slots Q N f pc lv (.int y :: .int x :: st) := fun H locs ls hH hS hL => lv_idiv X.1 X.2.1 hdg hne (k H locs ls hH hS hL)
theorem z_irem (X : zX p s m args meth c D cl tys b0 G cc nL own Ts ret) {x y : Int32} (hdg : decode cc pc = .ok (.irem, 1)) (hne : ¬ y = 0) (k : zW p l e R s m args below meth c D cl b0 nL cells slots Q N f (pc + 1) lv (.int (x - x / y * y) :: st)) : zW p l e R s m args below meth c D cl b0 nL cells slots Q N f pc lv (.int y :: .int x :: st) := fun H locs ls hH hS hL => lv_irem X.1 X.2.1 hdg hne (k H locs ls hH hS hL)
theorem z_ineg (X : zX p s m args meth c D cl tys b0 G cc nL own Ts ret) {x : Int32} (hdg : decode cc pc = .ok (.ineg, 1))  (k : zW p l e R s m args below meth c D cl b0 nL cells slots Q N f (pc + 1) lv (.int (-x) :: st)) : zW p l e R s m args below meth c D cl b0 nL cells slots Q N f pc lv (.int x :: st) := fun H locs ls hH hS hL => lv_ineg X.1 X.2.1 hdg  (k H locs ls hH hS hL)
theorem z_i2l (X : zX p s m args meth c D cl tys b0 G cc nL own Ts ret) {x : Int32} (hdg : decode cc pc = .ok (.i2l, 1)) {v : Int64} (hv : x.toInt64 = v) (k : zW p l e R s m args below meth c D cl b0 nL cells slots Q N f (pc + 1) lv (.long v :: st)) : zW p l e R s m args below meth c D cl b0 nL cells slots Q N f pc lv (.int x :: st) := fun H locs ls hH hS hL => lv_i2l X.1 X.2.1 hdg hv (k H locs ls hH hS hL)
theorem z_i2c (X : zX p s m args meth c D cl tys b0 G cc nL own Ts ret) {x : Int32} (hdg : decode cc pc = .ok (.i2c, 1)) {v : Int32} (hv : (x.toUInt32 % 65536).toInt32 = v) (k : zW p l e R s m args below meth c D cl b0 nL cells slots Q N f (pc + 1) lv (.int v :: st)) : zW p l e R s m args below meth c D cl b0 nL cells slots Q N f pc lv (.int x :: st) := fun H locs ls hH hS hL => lv_i2c X.1 X.2.1 hdg hv (k H locs ls hH hS hL)
theorem z_i2b (X : zX p s m args meth c D cl tys b0 G cc nL own Ts ret) {x : Int32} (hdg : decode cc pc = .ok (.i2b, 1)) {v : Int32} (hv : x.toInt8.toInt32 = v) (k : zW p l e R s m args below meth c D cl b0 nL cells slots Q N f (pc + 1) lv (.int v :: st)) : zW p l e R s m args below meth c D cl b0 nL cells slots Q N f pc lv (.int x :: st) := fun H locs ls hH hS hL => lv_i2b X.1 X.2.1 hdg hv (k H locs ls hH hS hL)
theorem z_dup (X : zX p s m args meth c D cl tys b0 G cc nL own Ts ret) {v : Value} (hdg : decode cc pc = .ok (.dup, 1)) (hv : v.category = 1) (k : zW p l e R s m args below meth c D cl b0 nL cells slots Q N f (pc + 1) lv (v :: v :: st)) : zW p l e R s m args below meth c D cl b0 nL cells slots Q N f pc lv (v :: st) := fun H locs ls hH hS hL => lv_dup X.1 X.2.1 hdg hv (k H locs ls hH hS hL)
theorem z_pop (X : zX p s m args meth c D cl tys b0 G cc nL own Ts ret) {v : Value} (hdg : decode cc pc = .ok (.pop, 1)) (hv : v.category = 1) (k : zW p l e R s m args below meth c D cl b0 nL cells slots Q N f (pc + 1) lv st) : zW p l e R s m args below meth c D cl b0 nL cells slots Q N f pc lv (v :: st) := fun H locs ls hH hS hL => lv_pop X.1 X.2.1 hdg hv (k H locs ls hH hS hL)
theorem z_dup_x1 (X : zX p s m args meth c D cl tys b0 G cc nL own Ts ret) {v w : Value} (hdg : decode cc pc = .ok (.dup_x1, 1)) (hv : v.category = 1) (hw : w.category = 1) (k : zW p l e R s m args below meth c D cl b0 nL cells slots Q N f (pc + 1) lv (v :: w :: v :: st)) : zW p l e R s m args below meth c D cl b0 nL cells slots Q N f pc lv (v :: w :: st) := fun H locs ls hH hS hL => lv_dup_x1 X.1 X.2.1 hdg hv hw (k H locs ls hH hS hL)
theorem z_dup_x2 (X : zX p s m args meth c D cl tys b0 G cc nL own Ts ret) {v w u : Value} (hdg : decode cc pc = .ok (.dup_x2, 1)) (hv : v.category = 1) (hw : w.category = 1) (hu : u.category = 1) (k : zW p l e R s m args below meth c D cl b0 nL cells slots Q N f (pc + 1) lv (v :: w :: u :: v :: st)) : zW p l e R s m args below meth c D cl b0 nL cells slots Q N f pc lv (v :: w :: u :: st) := fun H locs ls hH hS hL => lv_dup_x2 X.1 X.2.1 hdg hv hw hu (k H locs ls hH hS hL)
theorem z_dup2 (X : zX p s m args meth c D cl tys b0 G cc nL own Ts ret) {v w : Value} (hdg : decode cc pc = .ok (.dup2, 1)) (hv : v.category = 1) (hw : w.category = 1) (k : zW p l e R s m args below meth c D cl b0 nL cells slots Q N f (pc + 1) lv (v :: w :: v :: w :: st)) : zW p l e R s m args below meth c D cl b0 nL cells slots Q N f pc lv (v :: w :: st) := fun H locs ls hH hS hL => lv_dup2_11 X.1 X.2.1 hdg hv hw (k H locs ls hH hS hL)
theorem z_null (X : zX p s m args meth c D cl tys b0 G cc nL own Ts ret)  (hdg : decode cc pc = .ok (.aconst_null, 1))  (k : zW p l e R s m args below meth c D cl b0 nL cells slots Q N f (pc + 1) lv (.null :: st)) : zW p l e R s m args below meth c D cl b0 nL cells slots Q N f pc lv st := fun H locs ls hH hS hL => lv_null X.1 X.2.1 hdg  (k H locs ls hH hS hL)
theorem z_if_eq (X : zX p s m args meth c D cl tys b0 G cc nL own Ts ret) {x : Int32} {off : Int} (tgt : Nat) (hdg : decode cc pc = .ok (.ifCond .eq off, 3)) (ht : (pc : Int) + off = (tgt : Int)) (kt : x = 0 → zW p l e R s m args below meth c D cl b0 nL cells slots Q N f tgt lv st) (kf : ¬ x = 0 → zW p l e R s m args below meth c D cl b0 nL cells slots Q N f (pc + 3) lv st) : zW p l e R s m args below meth c D cl b0 nL cells slots Q N f pc lv (.int x :: st) := fun H locs ls hH hS hL => lv_if_eq X.1 X.2.1 hdg ht (fun q => kt q H locs ls hH hS hL) (fun q => kf q H locs ls hH hS hL)
theorem z_icmp_eq (X : zX p s m args meth c D cl tys b0 G cc nL own Ts ret) {x y : Int32} {off : Int} (tgt : Nat) (hdg : decode cc pc = .ok (.if_icmp .eq off, 3)) (ht : (pc : Int) + off = (tgt : Int)) (kt : x = y → zW p l e R s m args below meth c D cl b0 nL cells slots Q N f tgt lv st) (kf : ¬ x = y → zW p l e R s m args below meth c D cl b0 nL cells slots Q N f (pc + 3) lv st) : zW p l e R s m args below meth c D cl b0 nL cells slots Q N f pc lv (.int y :: .int x :: st) := fun H locs ls hH hS hL => lv_icmp_eq X.1 X.2.1 hdg ht (fun q => kt q H locs ls hH hS hL) (fun q => kf q H locs ls hH hS hL)
theorem z_if_ne (X : zX p s m args meth c D cl tys b0 G cc nL own Ts ret) {x : Int32} {off : Int} (tgt : Nat) (hdg : decode cc pc = .ok (.ifCond .ne off, 3)) (ht : (pc : Int) + off = (tgt : Int)) (kt : ¬ x = 0 → zW p l e R s m args below meth c D cl b0 nL cells slots Q N f tgt lv st) (kf : x = 0 → zW p l e R s m args below meth c D cl b0 nL cells slots Q N f (pc + 3) lv st) : zW p l e R s m args below meth c D cl b0 nL cells slots Q N f pc lv (.int x :: st) := fun H locs ls hH hS hL => lv_if_ne X.1 X.2.1 hdg ht (fun q => kt q H locs ls hH hS hL) (fun q => kf q H locs ls hH hS hL)
theorem z_icmp_ne (X : zX p s m args meth c D cl tys b0 G cc nL own Ts ret) {x y : Int32} {off : Int} (tgt : Nat) (hdg : decode cc pc = .ok (.if_icmp .ne off, 3)) (ht : (pc : Int) + off = (tgt : Int)) (kt : ¬ x = y → zW p l e R s m args below meth c D cl b0 nL cells slots Q N f tgt lv st) (kf : x = y → zW p l e R s m args below meth c D cl b0 nL cells slots Q N f (pc + 3) lv st) : zW p l e R s m args below meth c D cl b0 nL cells slots Q N f pc lv (.int y :: .int x :: st) := fun H locs ls hH hS hL => lv_icmp_ne X.1 X.2.1 hdg ht (fun q => kt q H locs ls hH hS hL) (fun q => kf q H locs ls hH hS hL)
theorem z_if_lt (X : zX p s m args meth c D cl tys b0 G cc nL own Ts ret) {x : Int32} {off : Int} (tgt : Nat) (hdg : decode cc pc = .ok (.ifCond .lt off, 3)) (ht : (pc : Int) + off = (tgt : Int)) (kt : x < 0 → zW p l e R s m args below meth c D cl b0 nL cells slots Q N f tgt lv st) (kf : ¬ x < 0 → zW p l e R s m args below meth c D cl b0 nL cells slots Q N f (pc + 3) lv st) : zW p l e R s m args below meth c D cl b0 nL cells slots Q N f pc lv (.int x :: st) := fun H locs ls hH hS hL => lv_if_lt X.1 X.2.1 hdg ht (fun q => kt q H locs ls hH hS hL) (fun q => kf q H locs ls hH hS hL)
theorem z_icmp_lt (X : zX p s m args meth c D cl tys b0 G cc nL own Ts ret) {x y : Int32} {off : Int} (tgt : Nat) (hdg : decode cc pc = .ok (.if_icmp .lt off, 3)) (ht : (pc : Int) + off = (tgt : Int)) (kt : x < y → zW p l e R s m args below meth c D cl b0 nL cells slots Q N f tgt lv st) (kf : ¬ x < y → zW p l e R s m args below meth c D cl b0 nL cells slots Q N f (pc + 3) lv st) : zW p l e R s m args below meth c D cl b0 nL cells slots Q N f pc lv (.int y :: .int x :: st) := fun H locs ls hH hS hL => lv_icmp_lt X.1 X.2.1 hdg ht (fun q => kt q H locs ls hH hS hL) (fun q => kf q H locs ls hH hS hL)
theorem z_if_ge (X : zX p s m args meth c D cl tys b0 G cc nL own Ts ret) {x : Int32} {off : Int} (tgt : Nat) (hdg : decode cc pc = .ok (.ifCond .ge off, 3)) (ht : (pc : Int) + off = (tgt : Int)) (kt : 0 ≤ x → zW p l e R s m args below meth c D cl b0 nL cells slots Q N f tgt lv st) (kf : ¬ 0 ≤ x → zW p l e R s m args below meth c D cl b0 nL cells slots Q N f (pc + 3) lv st) : zW p l e R s m args below meth c D cl b0 nL cells slots Q N f pc lv (.int x :: st) := fun H locs ls hH hS hL => lv_if_ge X.1 X.2.1 hdg ht (fun q => kt q H locs ls hH hS hL) (fun q => kf q H locs ls hH hS hL)
theorem z_icmp_ge (X : zX p s m args meth c D cl tys b0 G cc nL own Ts ret) {x y : Int32} {off : Int} (tgt : Nat) (hdg : decode cc pc = .ok (.if_icmp .ge off, 3)) (ht : (pc : Int) + off = (tgt : Int)) (kt : y ≤ x → zW p l e R s m args below meth c D cl b0 nL cells slots Q N f tgt lv st) (kf : ¬ y ≤ x → zW p l e R s m args below meth c D cl b0 nL cells slots Q N f (pc + 3) lv st) : zW p l e R s m args below meth c D cl b0 nL cells slots Q N f pc lv (.int y :: .int x :: st) := fun H locs ls hH hS hL => lv_icmp_ge X.1 X.2.1 hdg ht (fun q => kt q H locs ls hH hS hL) (fun q => kf q H locs ls hH hS hL)
theorem z_if_gt (X : zX p s m args meth c D cl tys b0 G cc nL own Ts ret) {x : Int32} {off : Int} (tgt : Nat) (hdg : decode cc pc = .ok (.ifCond .gt off, 3)) (ht : (pc : Int) + off = (tgt : Int)) (kt : 0 < x → zW p l e R s m args below meth c D cl b0 nL cells slots Q N f tgt lv st) (kf : ¬ 0 < x → zW p l e R s m args below meth c D cl b0 nL cells slots Q N f (pc + 3) lv st) : zW p l e R s m args below meth c D cl b0 nL cells slots Q N f pc lv (.int x :: st) := fun H locs ls hH hS hL => lv_if_gt X.1 X.2.1 hdg ht (fun q => kt q H locs ls hH hS hL) (fun q => kf q H locs ls hH hS hL)
theorem z_icmp_gt (X : zX p s m args meth c D cl tys b0 G cc nL own Ts ret) {x y : Int32} {off : Int} (tgt : Nat) (hdg : decode cc pc = .ok (.if_icmp .gt off, 3)) (ht : (pc : Int) + off = (tgt : Int)) (kt : y < x → zW p l e R s m args below meth c D cl b0 nL cells slots Q N f tgt lv st) (kf : ¬ y < x → zW p l e R s m args below meth c D cl b0 nL cells slots Q N f (pc + 3) lv st) : zW p l e R s m args below meth c D cl b0 nL cells slots Q N f pc lv (.int y :: .int x :: st) := fun H locs ls hH hS hL => lv_icmp_gt X.1 X.2.1 hdg ht (fun q => kt q H locs ls hH hS hL) (fun q => kf q H locs ls hH hS hL)
theorem z_if_le (X : zX p s m args meth c D cl tys b0 G cc nL own Ts ret) {x : Int32} {off : Int} (tgt : Nat) (hdg : decode cc pc = .ok (.ifCond .le off, 3)) (ht : (pc : Int) + off = (tgt : Int)) (kt : x ≤ 0 → zW p l e R s m args below meth c D cl b0 nL cells slots Q N f tgt lv st) (kf : ¬ x ≤ 0 → zW p l e R s m args below meth c D cl b0 nL cells slots Q N f (pc + 3) lv st) : zW p l e R s m args below meth c D cl b0 nL cells slots Q N f pc lv (.int x :: st) := fun H locs ls hH hS hL => lv_if_le X.1 X.2.1 hdg ht (fun q => kt q H locs ls hH hS hL) (fun q => kf q H locs ls hH hS hL)
theorem z_icmp_le (X : zX p s m args meth c D cl tys b0 G cc nL own Ts ret) {x y : Int32} {off : Int} (tgt : Nat) (hdg : decode cc pc = .ok (.if_icmp .le off, 3)) (ht : (pc : Int) + off = (tgt : Int)) (kt : x ≤ y → zW p l e R s m args below meth c D cl b0 nL cells slots Q N f tgt lv st) (kf : ¬ x ≤ y → zW p l e R s m args below meth c D cl b0 nL cells slots Q N f (pc + 3) lv st) : zW p l e R s m args below meth c D cl b0 nL cells slots Q N f pc lv (.int y :: .int x :: st) := fun H locs ls hH hS hL => lv_icmp_le X.1 X.2.1 hdg ht (fun q => kt q H locs ls hH hS hL) (fun q => kf q H locs ls hH hS hL)
theorem z_goto (X : zX p s m args meth c D cl tys b0 G cc nL own Ts ret) {off : Int} (tgt : Nat) (hdg : decode cc pc = .ok (.goto off, 3)) (ht : (pc : Int) + off = (tgt : Int)) (k : zW p l e R s m args below meth c D cl b0 nL cells slots Q N f tgt lv st) : zW p l e R s m args below meth c D cl b0 nL cells slots Q N f pc lv st := fun H locs ls hH hS hL => lv_goto X.1 X.2.1 hdg ht (k H locs ls hH hS hL)
theorem z_ifnonnull (X : zX p s m args meth c D cl tys b0 G cc nL own Ts ret) {x : Nat} {off : Int} (tgt : Nat) (hdg : decode cc pc = .ok (.ifnonnull off, 3)) (ht : (pc : Int) + off = (tgt : Int)) (k : zW p l e R s m args below meth c D cl b0 nL cells slots Q N f tgt lv st) : zW p l e R s m args below meth c D cl b0 nL cells slots Q N f pc lv (.ref x :: st) := fun H locs ls hH hS hL => lv_ifnonnull X.1 X.2.1 hdg ht (k H locs ls hH hS hL)
theorem z_ifnonnullN (X : zX p s m args meth c D cl tys b0 G cc nL own Ts ret) {off : Int} (hdg : decode cc pc = .ok (.ifnonnull off, 3)) (k : zW p l e R s m args below meth c D cl b0 nL cells slots Q N f (pc + 3) lv st) : zW p l e R s m args below meth c D cl b0 nL cells slots Q N f pc lv (.null :: st) := fun H locs ls hH hS hL => lv_ifnonnullN X.1 X.2.1 hdg (k H locs ls hH hS hL)
theorem z_ifnull (X : zX p s m args meth c D cl tys b0 G cc nL own Ts ret) {x : Nat} {off : Int} (hdg : decode cc pc = .ok (.ifnull off, 3)) (k : zW p l e R s m args below meth c D cl b0 nL cells slots Q N f (pc + 3) lv st) : zW p l e R s m args below meth c D cl b0 nL cells slots Q N f pc lv (.ref x :: st) := fun H locs ls hH hS hL => lv_ifnull X.1 X.2.1 hdg (k H locs ls hH hS hL)
theorem z_ifnullN (X : zX p s m args meth c D cl tys b0 G cc nL own Ts ret) {off : Int} (tgt : Nat) (hdg : decode cc pc = .ok (.ifnull off, 3)) (ht : (pc : Int) + off = (tgt : Int)) (k : zW p l e R s m args below meth c D cl b0 nL cells slots Q N f tgt lv st) : zW p l e R s m args below meth c D cl b0 nL cells slots Q N f pc lv (.null :: st) := fun H locs ls hH hS hL => lv_ifnullN X.1 X.2.1 hdg ht (k H locs ls hH hS hL)
theorem z_lookup (X : zX p s m args meth c D cl tys b0 G cc nL own Ts ret) {dflt : Int} {ps : Array (Int × Int)} {len : Nat} {x : Int32} {off : Int} (tgt : Nat) (hdg : decode cc pc = .ok (.lookupswitch dflt ps, len)) (hp : (ps.toList.zip (ps.toList.drop 1)).all (fun (a, next) => a.1 < next.1) = true) (ho : Op.lookupswitch.offset ps.toList dflt x.toInt = off) (ht : (pc : Int) + off = (tgt : Int)) (k : zW p l e R s m args below meth c D cl b0 nL cells slots Q N f tgt lv st) : zW p l e R s m args below meth c D cl b0 nL cells slots Q N f pc lv (.int x :: st) := fun H locs ls hH hS hL => lv_lookup X.1 X.2.1 hdg hp ho ht (k H locs ls hH hS hL)
theorem z_tableOut (X : zX p s m args meth c D cl tys b0 G cc nL own Ts ret) {dflt lo hi : Int} {offs : Array Int} {len : Nat} {x : Int32} (tgt : Nat) (hdg : decode cc pc = .ok (.tableswitch dflt lo hi offs, len)) (h : x.toInt < lo ∨ hi < x.toInt) (ht : (pc : Int) + dflt = (tgt : Int)) (k : zW p l e R s m args below meth c D cl b0 nL cells slots Q N f tgt lv st) : zW p l e R s m args below meth c D cl b0 nL cells slots Q N f pc lv (.int x :: st) := fun H locs ls hH hS hL => lv_tableOut X.1 X.2.1 hdg h ht (k H locs ls hH hS hL)
theorem z_tableIn (X : zX p s m args meth c D cl tys b0 G cc nL own Ts ret) {dflt lo hi : Int} {offs : Array Int} {len : Nat} {x : Int32} {off : Int} (tgt : Nat) (hdg : decode cc pc = .ok (.tableswitch dflt lo hi offs, len)) (h1 : ¬ x.toInt < lo) (h2 : ¬ hi < x.toInt) (ho : offs[(x.toInt - lo).toNat]? = some off) (ht : (pc : Int) + off = (tgt : Int)) (k : zW p l e R s m args below meth c D cl b0 nL cells slots Q N f tgt lv st) : zW p l e R s m args below meth c D cl b0 nL cells slots Q N f pc lv (.int x :: st) := fun H locs ls hH hS hL => lv_tableIn X.1 X.2.1 hdg h1 h2 ho ht (k H locs ls hH hS hL)
theorem z_istore_n (X : zX p s m args meth c D cl tys b0 G cc nL own Ts ret) {k : Fin 4} {x : Int32} (hdg : decode cc pc = .ok (.istore_n k, 1)) (hn : (k : Nat) < nL) (hz : zok lv (k : Nat) = true) (kk : zW p l e R s m args below meth c D cl b0 nL cells slots Q N f (pc + 1) (zs lv (k : Nat) (.int x)) st) : zW p l e R s m args below meth c D cl b0 nL cells slots Q N f pc lv (.int x :: st) := fun H locs ls hH hS hL => lv_istore_n X.1 X.2.1 hdg rfl hL hn rfl (fun ls' h' => kk H locs ls' hH hS (zL.sto hz h'))
theorem z_istore (X : zX p s m args meth c D cl tys b0 G cc nL own Ts ret) {i : Nat} {x : Int32} (hdg : decode cc pc = .ok (.istore i, 2)) (hn : i < nL) (hz : zok lv i = true) (kk : zW p l e R s m args below meth c D cl b0 nL cells slots Q N f (pc + 2) (zs lv i (.int x)) st) : zW p l e R s m args below meth c D cl b0 nL cells slots Q N f pc lv (.int x :: st) := fun H locs ls hH hS hL => lv_istore X.1 X.2.1 hdg hL hn rfl (fun ls' h' => kk H locs ls' hH hS (zL.sto hz h'))
theorem z_astore_n (X : zX p s m args meth c D cl tys b0 G cc nL own Ts ret) {k : Fin 4} {x : Nat} (hdg : decode cc pc = .ok (.astore_n k, 1)) (hn : (k : Nat) < nL) (hz : zok lv (k : Nat) = true) (kk : zW p l e R s m args below meth c D cl b0 nL cells slots Q N f (pc + 1) (zs lv (k : Nat) (.ref x)) st) : zW p l e R s m args below meth c D cl b0 nL cells slots Q N f pc lv (.ref x :: st) := fun H locs ls hH hS hL => lv_astore_n X.1 X.2.1 hdg rfl hL hn rfl (fun ls' h' => kk H locs ls' hH hS (zL.sto hz h'))
theorem z_astore (X : zX p s m args meth c D cl tys b0 G cc nL own Ts ret) {i : Nat} {x : Nat} (hdg : decode cc pc = .ok (.astore i, 2)) (hn : i < nL) (hz : zok lv i = true) (kk : zW p l e R s m args below meth c D cl b0 nL cells slots Q N f (pc + 2) (zs lv i (.ref x)) st) : zW p l e R s m args below meth c D cl b0 nL cells slots Q N f pc lv (.ref x :: st) := fun H locs ls hH hS hL => lv_astore X.1 X.2.1 hdg hL hn rfl (fun ls' h' => kk H locs ls' hH hS (zL.sto hz h'))
theorem z_astore_nN (X : zX p s m args meth c D cl tys b0 G cc nL own Ts ret) {k : Fin 4} (hdg : decode cc pc = .ok (.astore_n k, 1)) (hn : (k : Nat) < nL) (hz : zok lv (k : Nat) = true) (kk : zW p l e R s m args below meth c D cl b0 nL cells slots Q N f (pc + 1) (zs lv (k : Nat) (.null)) st) : zW p l e R s m args below meth c D cl b0 nL cells slots Q N f pc lv (.null :: st) := fun H locs ls hH hS hL => lv_astore_nN X.1 X.2.1 hdg rfl hL hn rfl (fun ls' h' => kk H locs ls' hH hS (zL.sto hz h'))
theorem z_astoreN (X : zX p s m args meth c D cl tys b0 G cc nL own Ts ret) {i : Nat} (hdg : decode cc pc = .ok (.astore i, 2)) (hn : i < nL) (hz : zok lv i = true) (kk : zW p l e R s m args below meth c D cl b0 nL cells slots Q N f (pc + 2) (zs lv i (.null)) st) : zW p l e R s m args below meth c D cl b0 nL cells slots Q N f pc lv (.null :: st) := fun H locs ls hH hS hL => lv_astoreN X.1 X.2.1 hdg hL hn rfl (fun ls' h' => kk H locs ls' hH hS (zL.sto hz h'))
theorem z_iinc (X : zX p s m args meth c D cl tys b0 G cc nL own Ts ret) {i : Nat} {n : Int} {x v : Int32} (hdg : decode cc pc = .ok (.iinc i n, 3)) (hg : zg lv i = some (.int x)) (hv : x + Int32.ofInt n = v) (hn : i < nL) (hz : zok lv i = true) (kk : zW p l e R s m args below meth c D cl b0 nL cells slots Q N f (pc + 3) (zs lv i (.int v)) st) : zW p l e R s m args below meth c D cl b0 nL cells slots Q N f pc lv st := fun H locs ls hH hS hL => by
  obtain ⟨k, hk⟩ := List.getElem?_of_mem (zg_mem hg)
  exact lv_iinc X.1 X.2.1 hdg hL hk hv hn rfl (fun ls' h' => kk H locs ls' hH hS (zL.sto hz h'))
theorem z_ldc (X : zX p s m args meth c D cl tys b0 G cc nL own Ts ret) {index : Nat} {v : Int32} (hdg : decode cc pc = .ok (.ldc index, 2)) (hc : Jvm.Cond.constant own index v ∈ Ts) (k : zW p l e R s m args below meth c D cl b0 nL cells slots Q N f (pc + 2) lv (.int v :: st)) : zW p l e R s m args below meth c D cl b0 nL cells slots Q N f pc lv st := fun H locs ls hH hS hL => lv_ldc X.1 X.2.1 X.2.2.2.1 (X.2.2.2.2.1 _ hc) hdg (k H locs ls hH hS hL)
theorem z_ldcw (X : zX p s m args meth c D cl tys b0 G cc nL own Ts ret) {index : Nat} {v : Int32} (hdg : decode cc pc = .ok (.ldc_w index, 3)) (hc : Jvm.Cond.constant own index v ∈ Ts) (k : zW p l e R s m args below meth c D cl b0 nL cells slots Q N f (pc + 3) lv (.int v :: st)) : zW p l e R s m args below meth c D cl b0 nL cells slots Q N f pc lv st := fun H locs ls hH hS hL => lv_ldcw X.1 X.2.1 X.2.2.2.1 (X.2.2.2.2.1 _ hc) hdg (k H locs ls hH hS hL)
theorem z_lconst (X : zX p s m args meth c D cl tys b0 G cc nL own Ts ret) {n : Fin 2} (hdg : decode cc pc = .ok (.lconst n, 1)) {v : Int64} (hv : Int64.ofNat (n : Nat) = v) (k : zW p l e R s m args below meth c D cl b0 nL cells slots Q N f (pc + 1) lv (.long v :: st)) : zW p l e R s m args below meth c D cl b0 nL cells slots Q N f pc lv st := fun H locs ls hH hS hL => lv_lconst X.1 X.2.1 hdg hv (k H locs ls hH hS hL)
theorem z_lload_n (X : zX p s m args meth c D cl tys b0 G cc nL own Ts ret) {k : Fin 4} {x : Int64} (hdg : decode cc pc = .ok (.lload_n k, 1)) (hg : zg lv (k : Nat) = some (.long x)) (k : zW p l e R s m args below meth c D cl b0 nL cells slots Q N f (pc + 1) lv (.long x :: st)) : zW p l e R s m args below meth c D cl b0 nL cells slots Q N f pc lv st := fun H locs ls hH hS hL => lv_lload_n X.1 X.2.1 hdg rfl (hL.get hg) (k H locs ls hH hS hL)
theorem z_lload (X : zX p s m args meth c D cl tys b0 G cc nL own Ts ret) {i : Nat} {x : Int64} (hdg : decode cc pc = .ok (.lload i, 2)) (hg : zg lv i = some (.long x)) (k : zW p l e R s m args below meth c D cl b0 nL cells slots Q N f (pc + 2) lv (.long x :: st)) : zW p l e R s m args below meth c D cl b0 nL cells slots Q N f pc lv st := fun H locs ls hH hS hL => lv_lload X.1 X.2.1 hdg (hL.get hg) (k H locs ls hH hS hL)
theorem z_ladd (X : zX p s m args meth c D cl tys b0 G cc nL own Ts ret) {x y : Int64} (hdg : decode cc pc = .ok (.ladd, 1))  (k : zW p l e R s m args below meth c D cl b0 nL cells slots Q N f (pc + 1) lv (.long (x + y) :: st)) : zW p l e R s m args below meth c D cl b0 nL cells slots Q N f pc lv (.long y :: .long x :: st) := fun H locs ls hH hS hL => lv_ladd X.1 X.2.1 hdg  (k H locs ls hH hS hL)
theorem z_lsub (X : zX p s m args meth c D cl tys b0 G cc nL own Ts ret) {x y : Int64} (hdg : decode cc pc = .ok (.lsub, 1))  (k : zW p l e R s m args below meth c D cl b0 nL cells slots Q N f (pc + 1) lv (.long (x - y) :: st)) : zW p l e R s m args below meth c D cl b0 nL cells slots Q N f pc lv (.long y :: .long x :: st) := fun H locs ls hH hS hL => lv_lsub X.1 X.2.1 hdg  (k H locs ls hH hS hL)
theorem z_lmul (X : zX p s m args meth c D cl tys b0 G cc nL own Ts ret) {x y : Int64} (hdg : decode cc pc = .ok (.lmul, 1))  (k : zW p l e R s m args below meth c D cl b0 nL cells slots Q N f (pc + 1) lv (.long (x * y) :: st)) : zW p l e R s m args below meth c D cl b0 nL cells slots Q N f pc lv (.long y :: .long x :: st) := fun H locs ls hH hS hL => lv_lmul X.1 X.2.1 hdg  (k H locs ls hH hS hL)
theorem z_l2i (X : zX p s m args meth c D cl tys b0 G cc nL own Ts ret) {x : Int64} (hdg : decode cc pc = .ok (.l2i, 1)) {v : Int32} (hv : x.toInt32 = v) (k : zW p l e R s m args below meth c D cl b0 nL cells slots Q N f (pc + 1) lv (.int v :: st)) : zW p l e R s m args below meth c D cl b0 nL cells slots Q N f pc lv (.long x :: st) := fun H locs ls hH hS hL => lv_l2i X.1 X.2.1 hdg hv (k H locs ls hH hS hL)
theorem z_lcmp (X : zX p s m args meth c D cl tys b0 G cc nL own Ts ret) {x y : Int64} (hdg : decode cc pc = .ok (.lcmp, 1))  (k : zW p l e R s m args below meth c D cl b0 nL cells slots Q N f (pc + 1) lv (.int (lg_cmp x y) :: st)) : zW p l e R s m args below meth c D cl b0 nL cells slots Q N f pc lv (.long y :: .long x :: st) := fun H locs ls hH hS hL => W.lcmp X.1 X.2.1 hdg  (k H locs ls hH hS hL)
theorem z_dup2L (X : zX p s m args meth c D cl tys b0 G cc nL own Ts ret) {v : Value} (hdg : decode cc pc = .ok (.dup2, 1)) (hv : v.category = 2) (k : zW p l e R s m args below meth c D cl b0 nL cells slots Q N f (pc + 1) lv (v :: v :: st)) : zW p l e R s m args below meth c D cl b0 nL cells slots Q N f pc lv (v :: st) := fun H locs ls hH hS hL => lv_dup2_2 X.1 X.2.1 hdg hv (k H locs ls hH hS hL)
theorem z_lstore_n (X : zX p s m args meth c D cl tys b0 G cc nL own Ts ret) {k : Fin 4} {x : Int64} (hdg : decode cc pc = .ok (.lstore_n k, 1)) (hn : (k : Nat) + 1 < nL) (hz : zok2 lv (k : Nat) = true) (kk : zW p l e R s m args below meth c D cl b0 nL cells slots Q N f (pc + 1) (zs lv (k : Nat) (.long x)) st) : zW p l e R s m args below meth c D cl b0 nL cells slots Q N f pc lv (.long x :: st) := fun H locs ls hH hS hL => lv_lstore_n X.1 X.2.1 hdg rfl hL hn rfl (fun ls' h' => kk H locs ls' hH hS (zL.sto2 hz h'))
theorem z_lstore (X : zX p s m args meth c D cl tys b0 G cc nL own Ts ret) {i : Nat} {x : Int64} (hdg : decode cc pc = .ok (.lstore i, 2)) (hn : i + 1 < nL) (hz : zok2 lv i = true) (kk : zW p l e R s m args below meth c D cl b0 nL cells slots Q N f (pc + 2) (zs lv i (.long x)) st) : zW p l e R s m args below meth c D cl b0 nL cells slots Q N f pc lv (.long x :: st) := fun H locs ls hH hS hL => lv_lstore X.1 X.2.1 hdg hL hn rfl (fun ls' h' => kk H locs ls' hH hS (zL.sto2 hz h'))
theorem z_ldc2 (X : zX p s m args meth c D cl tys b0 G cc nL own Ts ret) {index : Nat} {v : Int64} (hdg : decode cc pc = .ok (.ldc2_w index, 3)) (hc : Jvm.Cond.constantLong own index v ∈ Ts) (k : zW p l e R s m args below meth c D cl b0 nL cells slots Q N f (pc + 3) lv (.long v :: st)) : zW p l e R s m args below meth c D cl b0 nL cells slots Q N f pc lv st := fun H locs ls hH hS hL => lv_ldc2 X.1 X.2.1 X.2.2.2.1 (X.2.2.2.2.1 _ hc) hdg (k H locs ls hH hS hL)
theorem z_get (X : zX p s m args meth c D cl tys b0 G cc nL own Ts ret) {ref C : String} {T : u_T} {n ci index a : Nat} {fs : List Value} {v : Value} (hdg : decode cc pc = .ok (.getfield index, 3)) (ha : b0 ≤ a ∧ a < N) (hf : f a = .inr (ci, fs)) (hc : cl[ci]? = some (C, T, n)) (hin : ∀ w ∈ u_ws C T n, w ∈ Ts) (k : Nat) (hk : k < n) (hlink : Cond.fieldLink own index ref (T k).2.1 (T k).2.2.1 ∈ Ts) (href : (T k).1 = ref) (hv : fs[k]? = some v) (kk : zW p l e R s m args below meth c D cl b0 nL cells slots Q N f (pc + 3) lv (v :: st)) : zW p l e R s m args below meth c D cl b0 nL cells slots Q N f pc lv (.ref a :: st) := fun H locs ls hH hS hL => by
  have h1 := hH.2 a ha.1 ha.2
  rw [hf] at h1
  exact va_get (ws := [(a, .inr (ci, fs))]) X.1 X.2.1 X.2.2.2.2.1 hin X.2.2.2.1 X.2.2.2.2.2.2.1 (zP1 h1) 0 rfl hc k hk (X.2.2.2.2.1 _ hlink) (fun y hy => by rw [← href]; exact hy) hv hdg (kk H locs ls hH hS hL)
theorem z_getN (X : zX p s m args meth c D cl tys b0 G cc nL own Ts ret) {ref C : String} {T : u_T} {n ci index a : Nat} {fs : List Value} {v : Value} {host : String} (hdg : decode cc pc = .ok (.getfield index, 3)) (ha : b0 ≤ a ∧ a < N) (hf : f a = .inr (ci, fs)) (hc : cl[ci]? = some (C, T, n)) (hin : ∀ w ∈ u_ws C T n, w ∈ Ts) (k : Nat) (hk : k < n) (hlink : va_Nw (Cond.fieldLinkNest own index ref (T k).2.1 (T k).2.2.1 host) s) (href : (T k).1 = ref) (hv : fs[k]? = some v) (kk : zW p l e R s m args below meth c D cl b0 nL cells slots Q N f (pc + 3) lv (v :: st)) : zW p l e R s m args below meth c D cl b0 nL cells slots Q N f pc lv (.ref a :: st) := fun H locs ls hH hS hL => by
  have h1 := hH.2 a ha.1 ha.2
  rw [hf] at h1
  exact va_getN (ws := [(a, .inr (ci, fs))]) X.1 X.2.1 X.2.2.2.2.1 hin X.2.2.2.1 X.2.2.2.2.2.2.1 (zP1 h1) 0 rfl hc k hk (va_Nw.use rfl hlink) (fun y hy => by rw [← href]; exact hy) hv hdg (kk H locs ls hH hS hL)
theorem z_put (X : zX p s m args meth c D cl tys b0 G cc nL own Ts ret) {ref C : String} {T : u_T} {n ci index a : Nat} {fs : List Value} {v : Value} {ty : FieldType} (ty0 : Nat → FieldType) (hty : ∀ k, k < n → parseFieldDescriptor (T k).2.2.1 = some (ty0 k)) (hnm : ∀ a, a < n → ∀ b, b < n → a ≠ b → (T a).2.1 ≠ (T b).2.1) (hdg : decode cc pc = .ok (.putfield index, 3)) (ha : b0 ≤ a ∧ a < N) (hf : f a = .inr (ci, fs)) (hc : cl[ci]? = some (C, T, n)) (hin : ∀ w ∈ u_ws C T n, w ∈ Ts) (k : Nat) (hk : k < n) (hlink : Cond.fieldLink own index ref (T k).2.1 (T k).2.2.1 ∈ Ts) (href : (T k).1 = ref) (hfin : (T k).2.2.2 = false) (htk : ty0 k = ty) (hn : narrow ty v = v) (hfit : fits ty v = true) (hl : k < fs.length) (kk : zW p l e R s m args below meth c D cl b0 nL cells slots Q N (va_up f a (.inr (ci, fs.set k v))) (pc + 3) lv st) : zW p l e R s m args below meth c D cl b0 nL cells slots Q N f pc lv (v :: .ref a :: st) := fun H locs ls hH hS hL => by
  have h1 := hH.2 a ha.1 ha.2
  rw [hf] at h1
  have hts := X.2.2.2.2.1
  have hK := X.2.2.2.2.2.2.1
  have hap := va_apart (own := own) hts hin ty0 hty hnm hK hc
  obtain ⟨r, h2, cell, q1, q2, q3, q4⟩ := h1
  have hr : r = (C, T, n) := Option.some.inj (h2.symm.trans hc)
  subst hr
  obtain ⟨hSl, hfc, kC, hkC, hkind⟩ := hK.1 ci _ hc
  obtain ⟨cf, kf, fi, fd, hi, hsl⟩ := hSl k hk
  have hd : parseFieldDescriptor (T k).2.2.1 = some ty := by rw [hty k hk, htk]
  have hlay := hts _ (hin _ (u_in_lay hk))
  unfold u_lay at hlay
  have hst := (u_facts hfc hkC (u_lays hts hin hk) hi).1
  have hi2 : s.fieldFound? ref (T k).2.1 (T k).2.2.1 = some (cf, kf, fi, fd) := by rw [← href]; exact hi
  rw [if_neg (by rw [hfin]; decide)] at hlay
  have h6 := u_store hfc hkC hkind hlay hi hd hn hfit
  refine W.putK X.1 X.2.1 (f := fd) ⟨X.2.2.2.1, hts _ hlink, ⟨_, _, _, hi2⟩, hst⟩ (by rw [q2]; exact h6) q1 q3 (by rw [hsl]; exact k2_hasslot (q4 k hk)) rfl rfl hdg fun H' e1 e2 e3 => ?_
  rw [hsl] at e1 ⊢
  exact kk H' _ ls (hH.set e2 ⟨_, hc, t_OB.to (V := updV (vp_V fs) k v) ⟨_, e1, q2, q3, t_set q4 hap hk v⟩ (fun j _ => vp_updV_set hl v j)⟩ e3) (zS_put hS e2 e3 ha.1) hL
theorem z_putN (X : zX p s m args meth c D cl tys b0 G cc nL own Ts ret) {ref C : String} {T : u_T} {n ci index a : Nat} {fs : List Value} {v : Value} {ty : FieldType} (ty0 : Nat → FieldType) (hty : ∀ k, k < n → parseFieldDescriptor (T k).2.2.1 = some (ty0 k)) (hnm : ∀ a, a < n → ∀ b, b < n → a ≠ b → (T a).2.1 ≠ (T b).2.1) {host : String} (hdg : decode cc pc = .ok (.putfield index, 3)) (ha : b0 ≤ a ∧ a < N) (hf : f a = .inr (ci, fs)) (hc : cl[ci]? = some (C, T, n)) (hin : ∀ w ∈ u_ws C T n, w ∈ Ts) (k : Nat) (hk : k < n) (hlink : va_Nw (Cond.fieldLinkNest own index ref (T k).2.1 (T k).2.2.1 host) s) (href : (T k).1 = ref) (hfin : (T k).2.2.2 = false) (htk : ty0 k = ty) (hn : narrow ty v = v) (hfit : fits ty v = true) (hl : k < fs.length) (kk : zW p l e R s m args below meth c D cl b0 nL cells slots Q N (va_up f a (.inr (ci, fs.set k v))) (pc + 3) lv st) : zW p l e R s m args below meth c D cl b0 nL cells slots Q N f pc lv (v :: .ref a :: st) := fun H locs ls hH hS hL => by
  have h1 := hH.2 a ha.1 ha.2
  rw [hf] at h1
  have hts := X.2.2.2.2.1
  have hK := X.2.2.2.2.2.2.1
  have hap := va_apart (own := own) hts hin ty0 hty hnm hK hc
  obtain ⟨r, h2, cell, q1, q2, q3, q4⟩ := h1
  have hr : r = (C, T, n) := Option.some.inj (h2.symm.trans hc)
  subst hr
  obtain ⟨hSl, hfc, kC, hkC, hkind⟩ := hK.1 ci _ hc
  obtain ⟨cf, kf, fi, fd, hi, hsl⟩ := hSl k hk
  have hd : parseFieldDescriptor (T k).2.2.1 = some ty := by rw [hty k hk, htk]
  have hlay := hts _ (hin _ (u_in_lay hk))
  unfold u_lay at hlay
  have hst := (u_facts hfc hkC (u_lays hts hin hk) hi).1
  have hi2 : s.fieldFound? ref (T k).2.1 (T k).2.2.1 = some (cf, kf, fi, fd) := by rw [← href]; exact hi
  rw [if_neg (by rw [hfin]; decide)] at hlay
  have h6 := u_store hfc hkC hkind hlay hi hd hn hfit
  refine va_WputK X.1 X.2.1 (f := fd) X.2.2.2.1 (va_Nw.use rfl hlink) hi2 hst (by rw [q2]; exact h6) q1 q3 (by rw [hsl]; exact k2_hasslot (q4 k hk)) rfl rfl hdg fun H' e1 e2 e3 => ?_
  rw [hsl] at e1 ⊢
  exact kk H' _ ls (hH.set e2 ⟨_, hc, t_OB.to (V := updV (vp_V fs) k v) ⟨_, e1, q2, q3, t_set q4 hap hk v⟩ (fun j _ => vp_updV_set hl v j)⟩ e3) (zS_put hS e2 e3 ha.1) hL
theorem z_putF (X : zX p s m args meth c D cl tys b0 G cc nL own Ts ret) {ref C : String} {T : u_T} {n ci index a : Nat} {fs : List Value} {v : Value} {ty : FieldType} (ty0 : Nat → FieldType) (hty : ∀ k, k < n → parseFieldDescriptor (T k).2.2.1 = some (ty0 k)) (hnm : ∀ a, a < n → ∀ b, b < n → a ≠ b → (T a).2.1 ≠ (T b).2.1) (hdg : decode cc pc = .ok (.putfield index, 3)) (ha : b0 ≤ a ∧ a < N) (hf : f a = .inr (ci, fs)) (hc : cl[ci]? = some (C, T, n)) (hin : ∀ w ∈ u_ws C T n, w ∈ Ts) (k : Nat) (hk : k < n) (hlink : Cond.fieldLink own index ref (T k).2.1 (T k).2.2.1 ∈ Ts) (href : (T k).1 = ref) (hfin : (T k).2.2.2 = true) (hin2 : meth.name = "<init>") (hdecl : (T k).1 = own) (htk : ty0 k = ty) (hn : narrow ty v = v) (hfit : fits ty v = true) (hl : k < fs.length) (kk : zW p l e R s m args below meth c D cl b0 nL cells slots Q N (va_up f a (.inr (ci, fs.set k v))) (pc + 3) lv st) : zW p l e R s m args below meth c D cl b0 nL cells slots Q N f pc lv (v :: .ref a :: st) := fun H locs ls hH hS hL => by
  have h1 := hH.2 a ha.1 ha.2
  rw [hf] at h1
  have hts := X.2.2.2.2.1
  have hK := X.2.2.2.2.2.2.1
  have hap := va_apart (own := own) hts hin ty0 hty hnm hK hc
  obtain ⟨r, h2, cell, q1, q2, q3, q4⟩ := h1
  have hr : r = (C, T, n) := Option.some.inj (h2.symm.trans hc)
  subst hr
  obtain ⟨hSl, hfc, kC, hkC, hkind⟩ := hK.1 ci _ hc
  obtain ⟨cf, kf, fi, fd, hi, hsl⟩ := hSl k hk
  have hd : parseFieldDescriptor (T k).2.2.1 = some ty := by rw [hty k hk, htk]
  have hlay := hts _ (hin _ (u_in_lay hk))
  unfold u_lay at hlay
  have hst := (u_facts hfc hkC (u_lays hts hin hk) hi).1
  have hi2 : s.fieldFound? ref (T k).2.1 (T k).2.2.1 = some (cf, kf, fi, fd) := by rw [← href]; exact hi
  rw [if_pos hfin] at hlay
  have hcf : m.cls = cf := by
    obtain ⟨_, _, c', _, _, _, -, -, hf', -, -, -, hown2, -⟩ := Cond.laysFinal_spec hlay
    have e1 : c' = cf := by have := hi.symm.trans hf'; simp at this; exact this.1.symm
    rw [hdecl] at hown2
    rw [← e1]; exact Option.some.inj (X.2.2.2.1.symm.trans hown2)
  have h6 := u_fits hfc hkC hkind (Or.inr hlay) hi hd hn hfit
  refine W.putFinK X.1 X.2.1 X.2.2.2.1 (hts _ hlink) hi2 hst hcf hin2 (by rw [q2]; exact h6) q1 q3 (by rw [hsl]; exact k2_hasslot (q4 k hk)) rfl rfl hdg fun H' e1 e2 e3 => ?_
  rw [hsl] at e1 ⊢
  exact kk H' _ ls (hH.set e2 ⟨_, hc, t_OB.to (V := updV (vp_V fs) k v) ⟨_, e1, q2, q3, t_set q4 hap hk v⟩ (fun j _ => vp_updV_set hl v j)⟩ e3) (zS_put hS e2 e3 ha.1) hL
theorem z_alen (X : zX p s m args meth c D cl tys b0 G cc nL own Ts ret) {a t0 : Nat} {cA : ClassId} {x : vp_A} {ty : FieldType} {v : Int32} (hdg : decode cc pc = .ok (.arraylength, 1)) (ha : b0 ≤ a ∧ a < N) (hf : f a = .inl (cA, x)) (ht : tys[t0]? = some (cA, ty)) (hv : Int32.ofNat x.1 = v) (kk : zW p l e R s m args below meth c D cl b0 nL cells slots Q N f (pc + 1) lv (.int v :: st)) : zW p l e R s m args below meth c D cl b0 nL cells slots Q N f pc lv (.ref a :: st) := fun H locs ls hH hS hL => by
  have h1 := hH.2 a ha.1 ha.2
  rw [hf] at h1
  exact va_alen (ws := [(a, .inl (cA, x))]) X.1 X.2.1 X.2.2.2.2.2.2.1 (zP1 h1) 0 t0 rfl ht hv hdg (kk H locs ls hH hS hL)
theorem z_iald (X : zX p s m args meth c D cl tys b0 G cc nL own Ts ret) {a t0 k : Nat} {cA : ClassId} {g : Nat → Int32} {i : Int32} (hdg : decode cc pc = .ok (.iaload, 1)) (ha : b0 ≤ a ∧ a < N) (hf : f a = .inl (cA, k, .inl g)) (ht : tys[t0]? = some (cA, .int)) (hi : vp_in i k) (kk : zW p l e R s m args below meth c D cl b0 nL cells slots Q N f (pc + 1) lv (.int (g i.toNatClampNeg) :: st)) : zW p l e R s m args below meth c D cl b0 nL cells slots Q N f pc lv (.int i :: .ref a :: st) := fun H locs ls hH hS hL => by
  have h1 := hH.2 a ha.1 ha.2
  rw [hf] at h1
  exact va_iald (ws := [(a, .inl (cA, k, .inl g))]) X.1 X.2.1 X.2.2.2.2.2.2.1 (zP1 h1) 0 t0 rfl ht hi hdg (kk H locs ls hH hS hL)
theorem z_lald (X : zX p s m args meth c D cl tys b0 G cc nL own Ts ret) {a t0 k : Nat} {cA : ClassId} {g : Nat → Int64} {i : Int32} (hdg : decode cc pc = .ok (.laload, 1)) (ha : b0 ≤ a ∧ a < N) (hf : f a = .inl (cA, k, .inr (.inl g))) (ht : tys[t0]? = some (cA, .long)) (hi : vp_in i k) (kk : zW p l e R s m args below meth c D cl b0 nL cells slots Q N f (pc + 1) lv (.long (g i.toNatClampNeg) :: st)) : zW p l e R s m args below meth c D cl b0 nL cells slots Q N f pc lv (.int i :: .ref a :: st) := fun H locs ls hH hS hL => by
  have h1 := hH.2 a ha.1 ha.2
  rw [hf] at h1
  exact va_lald (ws := [(a, .inl (cA, k, .inr (.inl g)))]) X.1 X.2.1 X.2.2.2.2.2.2.1 (zP1 h1) 0 t0 rfl ht hi hdg (kk H locs ls hH hS hL)
theorem z_zald (X : zX p s m args meth c D cl tys b0 G cc nL own Ts ret) {a t0 k : Nat} {cA : ClassId} {g : Nat → Int32} {i : Int32} (hdg : decode cc pc = .ok (.baload, 1)) (ha : b0 ≤ a ∧ a < N) (hf : f a = .inl (cA, k, .inl g)) (ht : tys[t0]? = some (cA, .boolean)) (hi : vp_in i k) (kk : zW p l e R s m args below meth c D cl b0 nL cells slots Q N f (pc + 1) lv (.int (g i.toNatClampNeg) :: st)) : zW p l e R s m args below meth c D cl b0 nL cells slots Q N f pc lv (.int i :: .ref a :: st) := fun H locs ls hH hS hL => by
  have h1 := hH.2 a ha.1 ha.2
  rw [hf] at h1
  exact va_zald (ws := [(a, .inl (cA, k, .inl g))]) X.1 X.2.1 X.2.2.2.2.2.2.1 (zP1 h1) 0 t0 rfl ht hi hdg (kk H locs ls hH hS hL)
theorem z_aald (X : zX p s m args meth c D cl tys b0 G cc nL own Ts ret) {a t0 k : Nat} {cA : ClassId} {E : String} {g : Nat → Option Nat} {i : Int32} (hdg : decode cc pc = .ok (.aaload, 1)) (ha : b0 ≤ a ∧ a < N) (hf : f a = .inl (cA, k, .inr (.inr (.inr (.inr g))))) (ht : tys[t0]? = some (cA, .object E)) (hi : vp_in i k) (kk : zW p l e R s m args below meth c D cl b0 nL cells slots Q N f (pc + 1) lv (va_rf (g i.toNatClampNeg) :: st)) : zW p l e R s m args below meth c D cl b0 nL cells slots Q N f pc lv (.int i :: .ref a :: st) := fun H locs ls hH hS hL => by
  have h1 := hH.2 a ha.1 ha.2
  rw [hf] at h1
  exact va_aldq (ws := [(a, .inl (cA, k, .inr (.inr (.inr (.inr g)))))]) X.1 X.2.1 X.2.2.2.2.2.2.1 (zP1 h1) 0 t0 rfl ht hi hdg (kk H locs ls hH hS hL)
theorem z_iast (X : zX p s m args meth c D cl tys b0 G cc nL own Ts ret) {a t0 k : Nat} {cA : ClassId} {g : Nat → Int32} {i : Int32} {x : Int32} (hdg : decode cc pc = .ok (.iastore, 1)) (ha : b0 ≤ a ∧ a < N) (hf : f a = .inl (cA, k, .inl g)) (ht : tys[t0]? = some (cA, .int)) (hi : vp_in i k) (kk : zW p l e R s m args below meth c D cl b0 nL cells slots Q N (va_up f a (.inl (cA, k, .inl (upd g i.toNatClampNeg x)))) (pc + 1) lv st) : zW p l e R s m args below meth c D cl b0 nL cells slots Q N f pc lv (.int x :: .int i :: .ref a :: st) := fun H locs ls hH hS hL => by
  have h1 := hH.2 a ha.1 ha.2
  rw [hf] at h1
  refine W.iast X.1 X.2.1 h1 ((X.2.2.2.2.2.2.1.2 t0 _ ht).1 k (fun j => .int (g j))) (fun q => by cases q) (by show ¬ (i < 0 ∨ (arrV _ _ _).slots.size ≤ _); rw [arrV_size]; exact hi) rfl rfl hdg fun H1 e z oq => ?_
  refine kk H1 _ ls (hH.set z ?_ oq) (zS_put hS z oq ha.1) hL
  show H1[a]? = some (vp_cell _ _)
  rw [e]
  rw [vp_cell_i, vp_cell_i, arrV_store]
  congr 2
  funext q
  by_cases hq : q = i.toNatClampNeg
  · subst hq
    simp [updV, upd, vp_updL, vp_nar]
    try rfl
  · simp [updV, upd, vp_updL, hq]
theorem z_last (X : zX p s m args meth c D cl tys b0 G cc nL own Ts ret) {a t0 k : Nat} {cA : ClassId} {g : Nat → Int64} {i : Int32} {x : Int64} (hdg : decode cc pc = .ok (.lastore, 1)) (ha : b0 ≤ a ∧ a < N) (hf : f a = .inl (cA, k, .inr (.inl (g)))) (ht : tys[t0]? = some (cA, .long)) (hi : vp_in i k) (kk : zW p l e R s m args below meth c D cl b0 nL cells slots Q N (va_up f a (.inl (cA, k, .inr (.inl ((vp_updL g i.toNatClampNeg x)))))) (pc + 1) lv st) : zW p l e R s m args below meth c D cl b0 nL cells slots Q N f pc lv (.long x :: .int i :: .ref a :: st) := fun H locs ls hH hS hL => by
  have h1 := hH.2 a ha.1 ha.2
  rw [hf] at h1
  refine W.last X.1 X.2.1 h1 ((X.2.2.2.2.2.2.1.2 t0 _ ht).1 k (fun j => .long (g j))) (fun q => by cases q) (by show ¬ (i < 0 ∨ (arrV _ _ _).slots.size ≤ _); rw [arrV_size]; exact hi) rfl rfl hdg fun H1 e z oq => ?_
  refine kk H1 _ ls (hH.set z ?_ oq) (zS_put hS z oq ha.1) hL
  show H1[a]? = some (vp_cell _ _)
  rw [e]
  rw [vp_cell_l, vp_cell_l, arrV_store]
  congr 2
  funext q
  by_cases hq : q = i.toNatClampNeg
  · subst hq
    simp [updV, upd, vp_updL, vp_nar]
    try rfl
  · simp [updV, upd, vp_updL, hq]
theorem z_zast (X : zX p s m args meth c D cl tys b0 G cc nL own Ts ret) {a t0 k : Nat} {cA : ClassId} {g : Nat → Int32} {i : Int32} {x : Int32} (hdg : decode cc pc = .ok (.bastore, 1)) (ha : b0 ≤ a ∧ a < N) (hf : f a = .inl (cA, k, .inl g)) (ht : tys[t0]? = some (cA, .boolean)) (hi : vp_in i k) (kk : zW p l e R s m args below meth c D cl b0 nL cells slots Q N (va_up f a (.inl (cA, k, .inl (upd g i.toNatClampNeg (vp_nar .boolean x))))) (pc + 1) lv st) : zW p l e R s m args below meth c D cl b0 nL cells slots Q N f pc lv (.int x :: .int i :: .ref a :: st) := fun H locs ls hH hS hL => by
  have h1 := hH.2 a ha.1 ha.2
  rw [hf] at h1
  refine W.zast X.1 X.2.1 h1 ((X.2.2.2.2.2.2.1.2 t0 _ ht).1 k (fun j => .int (g j))) (fun q => by cases q) (by show ¬ (i < 0 ∨ (arrV _ _ _).slots.size ≤ _); rw [arrV_size]; exact hi) rfl rfl hdg fun H1 e z oq => ?_
  refine kk H1 _ ls (hH.set z ?_ oq) (zS_put hS z oq ha.1) hL
  show H1[a]? = some (vp_cell _ _)
  rw [e]
  rw [vp_cell_i, vp_cell_i, arrV_store]
  congr 2
  funext q
  by_cases hq : q = i.toNatClampNeg
  · subst hq
    simp [updV, upd, vp_updL, vp_nar]
    try rfl
  · simp [updV, upd, vp_updL, hq]
theorem z_aast (X : zX p s m args meth c D cl tys b0 G cc nL own Ts ret) {a t0 k v ci : Nat} {cA : ClassId} {rc : vw_C} {vs : List Value} {g : Nat → Option Nat} {i : Int32} (hdg : decode cc pc = .ok (.aastore, 1)) (ha : b0 ≤ a ∧ a < N) (hf : f a = .inl (cA, k, .inr (.inr (.inr (.inr g))))) (ht : tys[t0]? = some (cA, .object rc.1)) (hv : b0 ≤ v ∧ v < N) (hfv : f v = .inr (ci, vs)) (hc : cl[ci]? = some rc) (hi : vp_in i k) (kk : zW p l e R s m args below meth c D cl b0 nL cells slots Q N (va_up f a (.inl (cA, k, .inr (.inr (.inr (.inr (va_up g i.toNatClampNeg (some v)))))))) (pc + 1) lv st) : zW p l e R s m args below meth c D cl b0 nL cells slots Q N f pc lv (.ref v :: .int i :: .ref a :: st) := fun H locs ls hH hS hL => by
  have h1 := hH.2 a ha.1 ha.2
  rw [hf] at h1
  have h2 := hH.2 v hv.1 hv.2
  rw [hfv] at h2
  have hlt : i.toNatClampNeg < k := Nat.not_le.mp fun q => hi (Or.inr q)
  have h0 : ¬ i < 0 := fun q => hi (Or.inl q)
  have hK := X.2.2.2.2.2.2.1
  obtain ⟨r', hr', cellV, g1, g2, g3, -⟩ := h2
  have hcls := (hK.1 ci rc hc).2
  obtain ⟨kA, comp, k1, k2, k3, -⟩ := (hK.2 t0 _ ht).2
  have hcomp : comp = D.1 ci := Option.some.inj (k3.symm.trans hcls.1)
  subst hcomp
  obtain ⟨kC, hkC, -⟩ := hcls.2
  refine W.aast X.1 X.2.1 h1 (fun q h => by cases h) (fun h => by cases h) k1 k2 rfl hkC ⟨h0, by show _ < (arrV _ _ _).slots.size; rw [arrV_size]; exact hlt⟩ g1 (fun q h => by rw [g3] at h; cases h) (by rw [g2]; exact hkC) (by rw [g2]; exact va_assign hcls) rfl rfl hdg fun H1 e z oq => ?_
  refine kk H1 _ ls (hH.set z ?_ oq) (zS_put hS z oq ha.1) hL
  show H1[a]? = some (vp_cell _ _)
  rw [e]
  rw [vp_cell_q, vp_cell_q, arrV_store]
  congr 2
  funext q
  by_cases hq : q = i.toNatClampNeg
  · subst hq
    simp [updV, va_up, va_rf]
  · simp [updV, va_up, hq]
theorem z_new (X : zX p s m args meth c D cl tys b0 G cc nL own Ts ret) {C : String} {T : u_T} {n ci index : Nat} (ty0 : Nat → FieldType) (hty : ∀ k, k < n → parseFieldDescriptor (T k).2.2.1 = some (ty0 k)) {fs : List Value} (hdg : decode cc pc = .ok (.new index, 3)) (hc : cl[ci]? = some (C, T, n)) (hin : ∀ w ∈ u_ws C T n, w ∈ Ts) (h1 : Cond.classLink own index C ∈ Ts) (h2 : Cond.instantiable C n ∈ Ts) (h3 : Cond.initialized C ∈ Ts) (hfs : ∀ j, j < n → defaultValue (ty0 j) = vp_V fs j) (hcells : cells + 1 ≤ R.cells) (hslots : slots + n ≤ R.slots) (kk : zW p l e R s m args below meth c D cl b0 nL (cells + 1) (slots + n) Q (N + 1) (va_up f N (.inr (ci, fs))) (pc + 3) lv (.ref N :: st)) : zW p l e R s m args below meth c D cl b0 nL cells slots Q N f pc lv st := fun H locs ls hH hS hL => by
  have hts := X.2.2.2.2.1
  have hKn := X.2.2.2.2.2.2.1.1 ci _ hc
  refine W.newcK X.1 X.2.1 X.2.2.2.1 (hts _ h1) (hts _ h2) (hts _ h3) rfl hdg hcells hslots hKn.2.1 hH.1 fun H1 kC hkC e1 z1 o1 => ?_
  exact kk H1 locs ls (hH.push z1 ⟨_, hc, (u_born ty0 hts hin hKn hkC e1 hty).to hfs⟩ o1) (zS_push hS hH.1 z1 o1) hL
theorem z_newai (X : zX p s m args meth c D cl tys b0 G cc nL own Ts ret) {atype : ArrayType} (hat : newarray.typeOf atype = .int) {t0 k : Nat} {cA : ClassId} {n : Int32} (hdg : decode cc pc = .ok (.newarray atype, 2)) (hw : Cond.arrayClass .int ∈ Ts) (ht : tys[t0]? = some (cA, .int)) (hn : ¬ n < 0) (hk : n.toNatClampNeg = k) (hb : k * componentBytes .int ≤ 536870912) (hcells : cells + 1 ≤ R.cells) (hslots : slots + k ≤ R.slots) (kk : zW p l e R s m args below meth c D cl b0 nL (cells + 1) (slots + k) Q (N + 1) (va_up f N (.inl (cA, k, .inl (fun _ => 0)))) (pc + 2) lv (.ref N :: st)) : zW p l e R s m args below meth c D cl b0 nL cells slots Q N f pc lv (.int n :: st) := fun H locs ls hH hS hL => by
  refine va_newaK X.1 X.2.1 (by rw [hat]; exact X.2.2.2.2.1 _ hw) rfl hdg rfl hn hk (by rw [hat]; exact hb) hcells hslots hH.1 fun H1 cA' e1 z1 o1 hAr hNm => ?_
  rw [hat] at e1 hNm
  have hcA : cA' = cA := Option.some.inj (hNm.symm.trans (X.2.2.2.2.2.2.1.2 t0 _ ht).2)
  subst hcA
  refine kk H1 locs ls (hH.push z1 ?_ o1) (zS_push hS hH.1 z1 o1) hL
  show H1[N]? = some (vp_cell _ _)
  rw [vp_cell_i]
  exact e1
theorem z_newal (X : zX p s m args meth c D cl tys b0 G cc nL own Ts ret) {atype : ArrayType} (hat : newarray.typeOf atype = .long) {t0 k : Nat} {cA : ClassId} {n : Int32} (hdg : decode cc pc = .ok (.newarray atype, 2)) (hw : Cond.arrayClass .long ∈ Ts) (ht : tys[t0]? = some (cA, .long)) (hn : ¬ n < 0) (hk : n.toNatClampNeg = k) (hb : k * componentBytes .long ≤ 536870912) (hcells : cells + 1 ≤ R.cells) (hslots : slots + k ≤ R.slots) (kk : zW p l e R s m args below meth c D cl b0 nL (cells + 1) (slots + k) Q (N + 1) (va_up f N (.inl (cA, k, .inr (.inl (fun _ => 0))))) (pc + 2) lv (.ref N :: st)) : zW p l e R s m args below meth c D cl b0 nL cells slots Q N f pc lv (.int n :: st) := fun H locs ls hH hS hL => by
  refine va_newaK X.1 X.2.1 (by rw [hat]; exact X.2.2.2.2.1 _ hw) rfl hdg rfl hn hk (by rw [hat]; exact hb) hcells hslots hH.1 fun H1 cA' e1 z1 o1 hAr hNm => ?_
  rw [hat] at e1 hNm
  have hcA : cA' = cA := Option.some.inj (hNm.symm.trans (X.2.2.2.2.2.2.1.2 t0 _ ht).2)
  subst hcA
  refine kk H1 locs ls (hH.push z1 ?_ o1) (zS_push hS hH.1 z1 o1) hL
  show H1[N]? = some (vp_cell _ _)
  rw [vp_cell_l]
  exact e1
theorem z_newaz (X : zX p s m args meth c D cl tys b0 G cc nL own Ts ret) {atype : ArrayType} (hat : newarray.typeOf atype = .boolean) {t0 k : Nat} {cA : ClassId} {n : Int32} (hdg : decode cc pc = .ok (.newarray atype, 2)) (hw : Cond.arrayClass .boolean ∈ Ts) (ht : tys[t0]? = some (cA, .boolean)) (hn : ¬ n < 0) (hk : n.toNatClampNeg = k) (hb : k * componentBytes .boolean ≤ 536870912) (hcells : cells + 1 ≤ R.cells) (hslots : slots + k ≤ R.slots) (kk : zW p l e R s m args below meth c D cl b0 nL (cells + 1) (slots + k) Q (N + 1) (va_up f N (.inl (cA, k, .inl (fun _ => 0)))) (pc + 2) lv (.ref N :: st)) : zW p l e R s m args below meth c D cl b0 nL cells slots Q N f pc lv (.int n :: st) := fun H locs ls hH hS hL => by
  refine va_newaK X.1 X.2.1 (by rw [hat]; exact X.2.2.2.2.1 _ hw) rfl hdg rfl hn hk (by rw [hat]; exact hb) hcells hslots hH.1 fun H1 cA' e1 z1 o1 hAr hNm => ?_
  rw [hat] at e1 hNm
  have hcA : cA' = cA := Option.some.inj (hNm.symm.trans (X.2.2.2.2.2.2.1.2 t0 _ ht).2)
  subst hcA
  refine kk H1 locs ls (hH.push z1 ?_ o1) (zS_push hS hH.1 z1 o1) hL
  show H1[N]? = some (vp_cell _ _)
  rw [vp_cell_i]
  exact e1
theorem z_newq (X : zX p s m args meth c D cl tys b0 G cc nL own Ts ret) {C : String} {index t0 k : Nat} {cA : ClassId} {n : Int32} (hdg : decode cc pc = .ok (.anewarray index, 3)) (h1 : Cond.classLink own index C ∈ Ts) (hover : va_AO C s) (ht : tys[t0]? = some (cA, .object C)) (hn : ¬ n < 0) (hk : n.toNatClampNeg = k) (hb : k * 4 ≤ 536870912) (hcells : cells + 1 ≤ R.cells) (hslots : slots + k ≤ R.slots) (kk : zW p l e R s m args below meth c D cl b0 nL (cells + 1) (slots + k) Q (N + 1) (va_up f N (.inl (cA, k, .inr (.inr (.inr (.inr (fun _ => none))))))) (pc + 3) lv (.ref N :: st)) : zW p l e R s m args below meth c D cl b0 nL cells slots Q N f pc lv (.int n :: st) := fun H locs ls hH hS hL => by
  subst hk
  refine W.anew X.1 X.2.1 X.2.2.2.1 (X.2.2.2.2.1 _ h1) (va_AO.use hover) rfl hdg rfl hn hb hcells hslots fun cA' kA comp f1 f2 f3 f4 => ?_
  have hcA : cA' = cA := by
    obtain ⟨_, _, _, _, _, h9⟩ := (X.2.2.2.2.2.2.1.2 t0 _ ht).2
    exact Option.some.inj (f1.symm.trans h9)
  subst hcA
  generalize hH1 : H.push ({ cls := cA', slots := Array.replicate n.toNatClampNeg .null, vm := .none } : Cell) = H1
  have z1 : H1.size = N + 1 := by rw [← hH1, Array.size_push, hH.1]
  have e1 : H1[N]? = some (arrV cA' n.toNatClampNeg (fun _ => .null)) := by rw [← hH1, ← hH.1, Array.getElem?_push_size, ← arrV_new]
  have o1 : ∀ q : Nat, q < N → H1[q]? = H[q]? := fun q hq => by rw [← hH1, Array.getElem?_push, if_neg (by rw [hH.1]; exact Nat.ne_of_lt hq)]
  refine W.eq (g2 := F0 m (pc + 3) ls (.ref N :: st)) (by rw [← hH.1]) ?_
  refine kk H1 locs ls (hH.push z1 ?_ o1) (zS_push hS hH.1 z1 o1) hL
  show H1[N]? = some (vp_cell _ _)
  rw [vp_cell_q]
  exact e1
theorem z_objInit (X : zX p s m args meth c D cl tys b0 G cc nL own Ts ret) {idx a : Nat} (hdg : decode cc pc = .ok (.invokespecial idx, 3)) (h1 : Cond.methodLink own idx Lib.objectInit ∈ Ts) (h2 : Cond.instanceMethod Lib.objectInit ∈ Ts) (h3 : Cond.code Lib.objectInit ⟨#[0xb1]⟩ 1 none ∈ Ts) (hfr : 1 ≤ R.frames) (hlo : (st.map fun v => v.category).sum + 12 ≤ R.locals) (kk : zW p l e R s m args below meth c D cl b0 nL cells slots Q N f (pc + 3) lv st) : zW p l e R s m args below meth c D cl b0 nL cells slots Q N f pc lv (.ref a :: st) := fun H locs ls hH hS hL => by
  refine W.objInit X.1 X.2.1 X.2.2.2.1 (X.2.2.2.2.1 _ h1) (X.2.2.2.2.1 _ h2) (X.2.2.2.2.1 _ h3) rfl (by rw [X.2.2.1]; exact hL.1) rfl hdg hfr (by show 2 * (F0 m pc ls _).monitorRoom + _ + 12 ≤ _; rw [show (F0 m pc ls (.ref a :: st)).monitorRoom = 0 from rfl]; omega) ?_
  exact kk H locs ls hH hS hL
theorem z_run (X : zX p s m args meth c D cl tys b0 G cc nL own Ts ret) {mc ms : Nat} {H : Heap} {locs : List Loc} {ls : Array Slot} {st0 : List Value} {A : Array Value} {P : Option Value → Nat → (Nat → va_E) → Prop} (hH : zH D cl b0 N f H) (hS : va_S (zA b0) s.heap H locs) (hL : zL ls nL lv) (hr : va_Run p l e R s m args below meth c H locs cells slots mc ms (F0 m pc ls st0) st (zQ D cl b0 P A) (zA b0)) (kk : ∀ (r : Option Value) (N' : Nat) (f' : Nat → va_E), P r N' f' → N ≤ N' → zW p l e R s m args below meth c D cl b0 nL (cells + mc) (slots + ms) Q N' f' (pc + 3) lv (r.toList ++ st)) : W p l e R s m args below meth c H locs cells slots Q (F0 m pc ls st0) := by
  intro T hT Y
  obtain ⟨v, st₀, t, T', L, h0, X', hL', e1, e2, ⟨r, N', f', hv, hz, hlow, hsz, hP⟩, stp⟩ := hr T hT Y
  cases hv
  rw [h0] at hlow hsz
  obtain ⟨t2, a1, b1⟩ := kk v N' f' hP (by rw [← hH.1]; exact hsz) T'.heap (locs ++ L) ls (by rw [e1]; exact hz)
    ⟨by rw [e1, hz.1]; exact Nat.le_trans hS.1 hsz, fun q h1 h2 => by rw [e1, hlow q (Nat.not_le.mp h2)]; exact hS.2.1 q h1 h2, fun q hq => by
      rcases List.mem_append.mp hq with h | h
      · exact hS.2.2 q h
      · exact hL' q h⟩ hL T' rfl X'
  exact ⟨t2, stp t2 a1, b1⟩
theorem z_pre (X : zX p s m args meth c D cl tys b0 G cc nL own Ts ret) {As : List Value} {H : Heap} {locs : List Loc} (hg : zGok b0 G) (hH : zH D cl b0 N f H) (hS : va_S (zA b0) s.heap H locs) : ∀ U : State, U.heap = H → s.WarmedH U.vm → zPc D cl tys b0 G As N f As.toArray U := fun U hU hW =>
  ⟨rfl, hg s U hW X.2.2.2.2.2.2.2.2.2 (fun q hq => by rw [hU]; exact zlow X.2.2.2.2.2.2.2.2.2 hS q hq) X.2.2.2.2.2.1, va_K.moved hW.alike X.2.2.2.2.2.2.1, by rw [hU]; exact hH, by rw [← hH.1]; exact Nat.le_trans X.2.2.2.2.2.2.2.2.2 hS.1⟩
theorem z_callV (X : zX p s m args meth c D cl tys b0 G cc nL own Ts ret) {y : MethodName} {bytes : ByteArray} {maxL n index mc ms : Nat} {ret' : Option FieldType} {ws : List Cond} {rm : Room} {As : List Value} {P : Option Value → Nat → (Nat → va_E) → Prop} {st0 : List Value} (hg : zGok b0 G) {C : String} {T : u_T} {k ci a : Nat} {fs : List Value} (hM : zM l D cl tys b0 G y ws rm mc ms (.ref a :: As) N f P) (hdg : decode cc pc = .ok (.invokevirtual index, 3)) (cw : CallW R s args own C index y bytes maxL ret' ws rm mc ms n) (ha : b0 ≤ a ∧ a < N) (hf : f a = .inr (ci, fs)) (hc : cl[ci]? = some (C, T, k)) (hst : st0 = As.reverse ++ .ref a :: st) (hn : As.length = n) (hroom : (st.map fun v => v.category).sum ≤ 8) (hf9 : cells + mc ≤ R.cells ∧ slots + ms ≤ R.slots) (kk : ∀ (r : Option Value) (N' : Nat) (f' : Nat → va_E), P r N' f' → N ≤ N' → zW p l e R s m args below meth c D cl b0 nL (cells + mc) (slots + ms) Q N' f' (pc + 3) lv (r.toList ++ st)) : zW p l e R s m args below meth c D cl b0 nL cells slots Q N f pc lv st0 := fun H locs ls hH hS hL => by
  subst hst
  have h1 := hH.2 a ha.1 ha.2
  rw [hf] at h1
  exact z_run X hH hS hL (va_runV (As := As) (rest := st) ⟨X.1, X.2.1, X.2.2.1, X.2.2.2.1, X.2.2.2.2.1⟩ hM cw ⟨zblind hg, va_recv X.2.2.2.2.2.2.1 (zP1 h1) hc (q0 := 0) rfl, fun U hU hW => z_pre X (As := .ref a :: As) hg hH hS U hU hW⟩ rfl hn hL.1 rfl (lv_room hroom) hdg hf9) kk
theorem z_callVN (X : zX p s m args meth c D cl tys b0 G cc nL own Ts ret) {y : MethodName} {bytes : ByteArray} {maxL n index mc ms : Nat} {ret' : Option FieldType} {ws : List Cond} {rm : Room} {As : List Value} {P : Option Value → Nat → (Nat → va_E) → Prop} {st0 : List Value} (hg : zGok b0 G) {host : String} {C : String} {T : u_T} {k ci a : Nat} {fs : List Value} (hM : zM l D cl tys b0 G y ws rm mc ms (.ref a :: As) N f P) (hdg : decode cc pc = .ok (.invokevirtual index, 3)) (cw : va_CN R s args own index y host bytes maxL ret' ws rm mc ms n ∧ (Cond.instanceMethod y).before args s = true ∧ (Cond.selects C y y).before args s = true) (ha : b0 ≤ a ∧ a < N) (hf : f a = .inr (ci, fs)) (hc : cl[ci]? = some (C, T, k)) (hst : st0 = As.reverse ++ .ref a :: st) (hn : As.length = n) (hroom : (st.map fun v => v.category).sum ≤ 8) (hf9 : cells + mc ≤ R.cells ∧ slots + ms ≤ R.slots) (kk : ∀ (r : Option Value) (N' : Nat) (f' : Nat → va_E), P r N' f' → N ≤ N' → zW p l e R s m args below meth c D cl b0 nL (cells + mc) (slots + ms) Q N' f' (pc + 3) lv (r.toList ++ st)) : zW p l e R s m args below meth c D cl b0 nL cells slots Q N f pc lv st0 := fun H locs ls hH hS hL => by
  subst hst
  have h1 := hH.2 a ha.1 ha.2
  rw [hf] at h1
  exact z_run X hH hS hL (va_runVN (As := As) (rest := st) ⟨X.1, X.2.1, X.2.2.1, X.2.2.2.1, X.2.2.2.2.1⟩ hM cw ⟨zblind hg, va_recv X.2.2.2.2.2.2.1 (zP1 h1) hc (q0 := 0) rfl, fun U hU hW => z_pre X (As := .ref a :: As) hg hH hS U hU hW⟩ rfl hn hL.1 rfl (lv_room hroom) hdg hf9) kk
theorem z_callS (X : zX p s m args meth c D cl tys b0 G cc nL own Ts ret) {y : MethodName} {bytes : ByteArray} {maxL n index mc ms : Nat} {ret' : Option FieldType} {ws : List Cond} {rm : Room} {As : List Value} {P : Option Value → Nat → (Nat → va_E) → Prop} {st0 : List Value} (hg : zGok b0 G) (hM : zM l D cl tys b0 G y ws rm mc ms As N f P) (hdg : decode cc pc = .ok (.invokestatic index, 3)) (cw : CallB R s args own index y bytes maxL ret' ws rm mc ms n ∧ (Cond.static y).before args s = true) (hst : st0 = As.reverse ++ st) (hn : As.length = n) (hroom : (st.map fun v => v.category).sum ≤ 8) (hf9 : cells + mc ≤ R.cells ∧ slots + ms ≤ R.slots) (kk : ∀ (r : Option Value) (N' : Nat) (f' : Nat → va_E), P r N' f' → N ≤ N' → zW p l e R s m args below meth c D cl b0 nL (cells + mc) (slots + ms) Q N' f' (pc + 3) lv (r.toList ++ st)) : zW p l e R s m args below meth c D cl b0 nL cells slots Q N f pc lv st0 := fun H locs ls hH hS hL => by
  subst hst
  exact z_run X hH hS hL (va_runS (As := As) (rest := st) ⟨X.1, X.2.1, X.2.2.1, X.2.2.2.1, X.2.2.2.2.1⟩ hM cw ⟨zblind hg, fun U hU hW => z_pre X (As := As) hg hH hS U hU hW⟩ rfl hn hL.1 rfl (lv_room hroom) hdg hf9) kk
theorem z_callSN (X : zX p s m args meth c D cl tys b0 G cc nL own Ts ret) {y : MethodName} {bytes : ByteArray} {maxL n index mc ms : Nat} {ret' : Option FieldType} {ws : List Cond} {rm : Room} {As : List Value} {P : Option Value → Nat → (Nat → va_E) → Prop} {st0 : List Value} (hg : zGok b0 G) {host : String} (hM : zM l D cl tys b0 G y ws rm mc ms As N f P) (hdg : decode cc pc = .ok (.invokestatic index, 3)) (cw : va_CN R s args own index y host bytes maxL ret' ws rm mc ms n ∧ (Cond.static y).before args s = true ∧ True) (hst : st0 = As.reverse ++ st) (hn : As.length = n) (hroom : (st.map fun v => v.category).sum ≤ 8) (hf9 : cells + mc ≤ R.cells ∧ slots + ms ≤ R.slots) (kk : ∀ (r : Option Value) (N' : Nat) (f' : Nat → va_E), P r N' f' → N ≤ N' → zW p l e R s m args below meth c D cl b0 nL (cells + mc) (slots + ms) Q N' f' (pc + 3) lv (r.toList ++ st)) : zW p l e R s m args below meth c D cl b0 nL cells slots Q N f pc lv st0 := fun H locs ls hH hS hL => by
  subst hst
  exact z_run X hH hS hL (va_runSN (As := As) (rest := st) ⟨X.1, X.2.1, X.2.2.1, X.2.2.2.1, X.2.2.2.2.1⟩ hM cw ⟨zblind hg, fun U hU hW => z_pre X (As := As) hg hH hS U hU hW⟩ rfl hn hL.1 rfl (lv_room hroom) hdg hf9) kk
theorem z_callI (X : zX p s m args meth c D cl tys b0 G cc nL own Ts ret) {y : MethodName} {bytes : ByteArray} {maxL n index mc ms : Nat} {ret' : Option FieldType} {ws : List Cond} {rm : Room} {As : List Value} {P : Option Value → Nat → (Nat → va_E) → Prop} {st0 : List Value} (hg : zGok b0 G) {a : Nat} (hM : zM l D cl tys b0 G y ws rm mc ms (.ref a :: As) N f P) (hdg : decode cc pc = .ok (.invokespecial index, 3)) (cw : CallB R s args own index y bytes maxL none ws rm mc ms n ∧ y.name = "<init>" ∧ (Cond.instanceMethod y).before args s = true) (hst : st0 = As.reverse ++ .ref a :: st) (hn : As.length = n) (hroom : (st.map fun v => v.category).sum ≤ 8) (hf9 : cells + mc ≤ R.cells ∧ slots + ms ≤ R.slots) (kk : ∀ (r : Option Value) (N' : Nat) (f' : Nat → va_E), P r N' f' → N ≤ N' → zW p l e R s m args below meth c D cl b0 nL (cells + mc) (slots + ms) Q N' f' (pc + 3) lv (r.toList ++ st)) : zW p l e R s m args below meth c D cl b0 nL cells slots Q N f pc lv st0 := fun H locs ls hH hS hL => by
  subst hst
  exact z_run X hH hS hL (va_runI (As := As) (rest := st) ⟨X.1, X.2.1, X.2.2.1, X.2.2.2.1, X.2.2.2.2.1⟩ hM cw ⟨zblind hg, fun U hU hW => z_pre X (As := .ref a :: As) hg hH hS U hU hW⟩ rfl hn hL.1 rfl (lv_room hroom) hdg hf9) kk
theorem z_callIN (X : zX p s m args meth c D cl tys b0 G cc nL own Ts ret) {y : MethodName} {bytes : ByteArray} {maxL n index mc ms : Nat} {ret' : Option FieldType} {ws : List Cond} {rm : Room} {As : List Value} {P : Option Value → Nat → (Nat → va_E) → Prop} {st0 : List Value} (hg : zGok b0 G) {host : String} {a : Nat} (hM : zM l D cl tys b0 G y ws rm mc ms (.ref a :: As) N f P) (hdg : decode cc pc = .ok (.invokespecial index, 3)) (cw : va_CN R s args own index y host bytes maxL none ws rm mc ms n ∧ y.name = "<init>" ∧ (Cond.instanceMethod y).before args s = true) (hst : st0 = As.reverse ++ .ref a :: st) (hn : As.length = n) (hroom : (st.map fun v => v.category).sum ≤ 8) (hf9 : cells + mc ≤ R.cells ∧ slots + ms ≤ R.slots) (kk : ∀ (r : Option Value) (N' : Nat) (f' : Nat → va_E), P r N' f' → N ≤ N' → zW p l e R s m args below meth c D cl b0 nL (cells + mc) (slots + ms) Q N' f' (pc + 3) lv (r.toList ++ st)) : zW p l e R s m args below meth c D cl b0 nL cells slots Q N f pc lv st0 := fun H locs ls hH hS hL => by
  subst hst
  exact z_run X hH hS hL (va_runIN (As := As) (rest := st) ⟨X.1, X.2.1, X.2.2.1, X.2.2.2.1, X.2.2.2.2.1⟩ hM cw ⟨zblind hg, fun U hU hW => z_pre X (As := .ref a :: As) hg hH hS U hU hW⟩ rfl hn hL.1 rfl (lv_room hroom) hdg hf9) kk
theorem z_iret (X : zX p s m args meth c D cl tys b0 G cc nL own Ts (some .int)) {P : Option Value → Nat → (Nat → va_E) → Prop} {v : Int32} (hdg : decode cc pc = .ok (.ireturn, 1)) (hP : P (some (.int v)) N f) : zW p l e R s m args below meth c D cl b0 nL cells slots (MQ below (zQ D cl b0 P) args s cells slots (zA b0)) N f pc lv [.int v] := fun H locs ls hH hS hL => W.iret X.1 X.2.1 X.2.2.2.2.2.2.2.1 (fun t ht hW => ⟨_, N, f, rfl, by rw [ht]; exact hH, fun q hq => by rw [ht]; exact zlow X.2.2.2.2.2.2.2.2.2 hS q hq, by rw [← hH.1]; exact hS.1, hP⟩) hS.2.2 hdg X.2.2.2.2.2.2.2.2.1
theorem z_zret (X : zX p s m args meth c D cl tys b0 G cc nL own Ts (some .boolean)) {P : Option Value → Nat → (Nat → va_E) → Prop} {v : Int32} (hdg : decode cc pc = .ok (.ireturn, 1)) (hn : narrow .boolean (.int v) = .int v) (hP : P (some (.int v)) N f) : zW p l e R s m args below meth c D cl b0 nL cells slots (MQ below (zQ D cl b0 P) args s cells slots (zA b0)) N f pc lv [.int v] := fun H locs ls hH hS hL => W.zret X.1 X.2.1 X.2.2.2.2.2.2.2.1 hn (fun t ht hW => ⟨_, N, f, rfl, by rw [ht]; exact hH, fun q hq => by rw [ht]; exact zlow X.2.2.2.2.2.2.2.2.2 hS q hq, by rw [← hH.1]; exact hS.1, hP⟩) hS.2.2 hdg X.2.2.2.2.2.2.2.2.1
theorem z_vret (X : zX p s m args meth c D cl tys b0 G cc nL own Ts none) {P : Option Value → Nat → (Nat → va_E) → Prop} (hdg : decode cc pc = .ok (.return_, 1)) (hP : P none N f) : zW p l e R s m args below meth c D cl b0 nL cells slots (MQ below (zQ D cl b0 P) args s cells slots (zA b0)) N f pc lv [] := fun H locs ls hH hS hL => W.vret X.1 X.2.1 X.2.2.2.2.2.2.2.1 (fun t ht hW => ⟨_, N, f, rfl, by rw [ht]; exact hH, fun q hq => by rw [ht]; exact zlow X.2.2.2.2.2.2.2.2.2 hS q hq, by rw [← hH.1]; exact hS.1, hP⟩) hS.2.2 hdg X.2.2.2.2.2.2.2.2.1
theorem z_aret {E : String} (X : zX p s m args meth c D cl tys b0 G cc nL own Ts (some (.object E))) {P : Option Value → Nat → (Nat → va_E) → Prop} {v : Value} (hdg : decode cc pc = .ok (.areturn, 1)) (hv : v = .null ∨ ∃ a, v = .ref a) (hP : P (some v) N f) : zW p l e R s m args below meth c D cl b0 nL cells slots (MQ below (zQ D cl b0 P) args s cells slots (zA b0)) N f pc lv [v] := fun H locs ls hH hS hL => W.aret X.1 X.2.1 X.2.2.2.2.2.2.2.1 (Or.inl ⟨_, rfl⟩) hv (fun t ht hW => ⟨_, N, f, rfl, by rw [ht]; exact hH, fun q hq => by rw [ht]; exact zlow X.2.2.2.2.2.2.2.2.2 hS q hq, by rw [← hH.1]; exact hS.1, hP⟩) hS.2.2 hdg X.2.2.2.2.2.2.2.2.1
theorem z_aretA {t9 : FieldType} (X : zX p s m args meth c D cl tys b0 G cc nL own Ts (some (.array t9))) {P : Option Value → Nat → (Nat → va_E) → Prop} {v : Value} (hdg : decode cc pc = .ok (.areturn, 1)) (hv : v = .null ∨ ∃ a, v = .ref a) (hP : P (some v) N f) : zW p l e R s m args below meth c D cl b0 nL cells slots (MQ below (zQ D cl b0 P) args s cells slots (zA b0)) N f pc lv [v] := fun H locs ls hH hS hL => W.aret X.1 X.2.1 X.2.2.2.2.2.2.2.1 (Or.inr ⟨_, rfl⟩) hv (fun t ht hW => ⟨_, N, f, rfl, by rw [ht]; exact hH, fun q hq => by rw [ht]; exact zlow X.2.2.2.2.2.2.2.2.2 hS q hq, by rw [← hH.1]; exact hS.1, hP⟩) hS.2.2 hdg X.2.2.2.2.2.2.2.2.1
end ZZ
/-- G holds the tables' words -/
def zGw (G : State → Prop) (Ts : List Cond) : Prop := ∀ (s : State) (args : Array Value), G s → ∀ w ∈ Ts, w.before args s = true
/-- a contract out of a walk from the entry -/
theorem zM.of {l : Launch} {D : va_G} {cl : List vw_C} {tys : List (ClassId × FieldType)} {b0 : Nat} {G : State → Prop} {Ts : List Cond} {y : MethodName} {rm : Room} {mc ms nL : Nat} {cc : ByteArray} {ret : Option FieldType} {As : List Value} {N : Nat} {f : Nat → va_E} {P : Option Value → Nat → (Nat → va_E) → Prop}
    (hgw : zGw G Ts) (hy : plainName y.cls = true) (hl : (lg_sl As).length ≤ nL)
    (body : ∀ (p : Program) (e : Env) (s : State) (m : MethodId) (args : Array Value) (below : List Frame) (meth : Method) (c : Code), zX p s m args meth c D cl tys b0 G cc nL y.cls Ts ret → meth.name = y.name → b0 ≤ N →
      zW p l e rm s m args below meth c D cl b0 nL 0 0 (MQ below (zQ D cl b0 P) args s mc ms (zA b0)) N f 0 (lv_args 0 As) []) : zM l D cl tys b0 G y [Cond.code y cc nL ret] rm mc ms As N f P := by
  refine Met.ofW (cc := cc) (maxL := nL) (ret := ret) hy rfl ?_
  intro p e s m args below meth c s₁ B hml hv
  obtain ⟨rfl, hG, hK, hH, hb⟩ := hv
  have hown : s.vm.findClass y.cls = some m.cls := findClass_of_methodNamed B.named
  have X : zX p s m As.toArray meth c D cl tys b0 G cc nL y.cls Ts ret := ⟨B.exec, B.bytes, hml, hown, hgw s _ hG, hG, hK, B.returns, B.notSynchronized, by rw [hH.1]; exact hb⟩
  have hL := lv_entry As (n := nL) hl
  rw [lg_entry_eq]
  exact body p e s m As.toArray below meth c X (name_of_methodNamed B.named B.method).1 hb s.heap [] _ hH va_S.rf hL
/-- a call's words, out of the tables -/
theorem z_cb {R : Room} {s : State} {args : Array Value} {Ts : List Cond} {own : String} {index maxL n mc ms : Nat} {y : MethodName} {bytes : ByteArray} {ret : Option FieldType} {rm : Room} (ht : ∀ w ∈ Ts, w.before args s = true) (h1 : Cond.methodLink own index y ∈ Ts) (h2 : Cond.code y bytes maxL ret ∈ Ts) (h3 : Cond.initialized y.cls ∈ Ts)
    (hd : y.cls ≠ "java/lang/invoke/MethodHandle" ∧ y.cls ≠ "java/lang/invoke/VarHandle" ∧ (parseMethodDescriptor y.desc).map (fun d => d.parameters.length) = some n) (hrc : rm.cells = mc) (hrs : rm.slots = ms) (hR : rm.frames + 1 ≤ R.frames ∧ 8 + (maxL + 11) + rm.locals ≤ R.locals) : CallB R s args own index y bytes maxL ret [Cond.code y bytes maxL ret] rm mc ms n := by
  refine callB_of n ht (fun w hw => ?_) rfl hrc hrs (ht _ h3) (ht _ h1) hd hR
  rcases List.mem_singleton.mp hw with rfl
  exact ⟨h2, Or.inl rfl⟩
theorem z_cbN {R : Room} {s : State} {args : Array Value} {Ts : List Cond} {own host : String} {index maxL n mc ms : Nat} {y : MethodName} {bytes : ByteArray} {ret : Option FieldType} {rm : Room} (ht : ∀ w ∈ Ts, w.before args s = true) (h1 : va_Nw (.methodLinkNest own index y host) s) (h2 : Cond.code y bytes maxL ret ∈ Ts) (h3 : Cond.initialized y.cls ∈ Ts)
    (hd : y.cls ≠ "java/lang/invoke/MethodHandle" ∧ y.cls ≠ "java/lang/invoke/VarHandle" ∧ (parseMethodDescriptor y.desc).map (fun d => d.parameters.length) = some n) (hrc : rm.cells = mc) (hrs : rm.slots = ms) (hR : rm.frames + 1 ≤ R.frames ∧ 8 + (maxL + 11) + rm.locals ≤ R.locals) : va_CN R s args own index y host bytes maxL ret [Cond.code y bytes maxL ret] rm mc ms n := by
  refine va_cnB n ht (fun w hw => ?_) rfl hrc hrs h1 (ht _ h3) hd hR
  rcases List.mem_singleton.mp hw with rfl
  exact ⟨h2, Or.inl rfl⟩
end
section
theorem zT_in {w : Cond} (i : Nat) (h : lw_tbl[i]? = some w) (hg : goodWord w = true) : w ∈ lw_tbl.filter goodWord := List.mem_filter.mpr ⟨List.mem_of_getElem? h, hg⟩
/-- the good words of the tables -/
def zTs : List Cond := lw_tbl.filter goodWord
def R_Decl : String := "CheckRules$Declaration"
def F_Decl : u_T := fun k => match k with
  | _ => ("CheckRules$Declaration", "values", "[I", true)
def t_Decl : Nat → FieldType := fun k => match k with
  | _ => .array .int
theorem n_Decl : ∀ a, a < 1 → ∀ b, b < 1 → a ≠ b → (F_Decl a).2.1 ≠ (F_Decl b).2.1 := by decide +kernel
theorem ty_Decl : ∀ k, k < 1 → parseFieldDescriptor (F_Decl k).2.2.1 = some (t_Decl k) := by decide +kernel
theorem in_Decl : ∀ w ∈ u_ws R_Decl F_Decl 1, w ∈ zTs := by
  have h : (u_ws R_Decl F_Decl 1) = [Cond.laysFinal "CheckRules$Declaration" "CheckRules$Declaration" "values" "[I"] := by decide +kernel
  rw [h]
  exact List.forall_mem_cons.mpr ⟨zT_in 193 (by decide +kernel) rfl, fun _ h => absurd h List.not_mem_nil⟩
def R_Prt : String := "CheckRules$Printer"
def F_Prt : u_T := fun k => match k with
  | _ => ("CheckRules$Printer", "printed", "LCheckRules$Signs;", true)
def t_Prt : Nat → FieldType := fun k => match k with
  | _ => .object "CheckRules$Signs"
theorem n_Prt : ∀ a, a < 1 → ∀ b, b < 1 → a ≠ b → (F_Prt a).2.1 ≠ (F_Prt b).2.1 := by decide +kernel
theorem ty_Prt : ∀ k, k < 1 → parseFieldDescriptor (F_Prt k).2.2.1 = some (t_Prt k) := by decide +kernel
theorem in_Prt : ∀ w ∈ u_ws R_Prt F_Prt 1, w ∈ zTs := by
  have h : (u_ws R_Prt F_Prt 1) = [Cond.laysFinal "CheckRules$Printer" "CheckRules$Printer" "printed" "LCheckRules$Signs;"] := by decide +kernel
  rw [h]
  exact List.forall_mem_cons.mpr ⟨zT_in 217 (by decide +kernel) rfl, fun _ h => absurd h List.not_mem_nil⟩
def R_Rdr : String := "CheckRules$Reader"
def F_Rdr : u_T := fun k => match k with
  | 0 => ("CheckRules$Reader", "text", "LCheckRules$Signs;", true)
  | 1 => ("CheckRules$Reader", "tree", "LCheckRules$Tree;", true)
  | 2 => ("CheckRules$Reader", "ruleStarts", "[I", true)
  | 3 => ("CheckRules$Reader", "andStarts", "[I", true)
  | 4 => ("CheckRules$Reader", "depths", "[I", true)
  | 5 => ("CheckRules$Reader", "level", "I", false)
  | 6 => ("CheckRules$Reader", "depth", "I", false)
  | 7 => ("CheckRules$Reader", "sumStart", "I", false)
  | 8 => ("CheckRules$Reader", "compared", "Z", false)
  | 9 => ("CheckRules$Reader", "state", "I", false)
  | 10 => ("CheckRules$Reader", "place", "I", false)
  | 11 => ("CheckRules$Reader", "token", "I", false)
  | 12 => ("CheckRules$Reader", "tokenStart", "I", false)
  | _ => ("CheckRules$Reader", "tokenValue", "I", false)
def t_Rdr : Nat → FieldType := fun k => match k with
  | 0 => .object "CheckRules$Signs"
  | 1 => .object "CheckRules$Tree"
  | 2 => .array .int
  | 3 => .array .int
  | 4 => .array .int
  | 5 => .int
  | 6 => .int
  | 7 => .int
  | 8 => .boolean
  | 9 => .int
  | 10 => .int
  | 11 => .int
  | 12 => .int
  | _ => .int
theorem n_Rdr : ∀ a, a < 14 → ∀ b, b < 14 → a ≠ b → (F_Rdr a).2.1 ≠ (F_Rdr b).2.1 := by decide +kernel
theorem ty_Rdr : ∀ k, k < 14 → parseFieldDescriptor (F_Rdr k).2.2.1 = some (t_Rdr k) := by decide +kernel
theorem in_Rdr : ∀ w ∈ u_ws R_Rdr F_Rdr 14, w ∈ zTs := by
  have h : (u_ws R_Rdr F_Rdr 14) = [Cond.laysFinal "CheckRules$Reader" "CheckRules$Reader" "text" "LCheckRules$Signs;", Cond.laysFinal "CheckRules$Reader" "CheckRules$Reader" "tree" "LCheckRules$Tree;", Cond.laysFinal "CheckRules$Reader" "CheckRules$Reader" "ruleStarts" "[I", Cond.laysFinal "CheckRules$Reader" "CheckRules$Reader" "andStarts" "[I", Cond.laysFinal "CheckRules$Reader" "CheckRules$Reader" "depths" "[I", Cond.lays "CheckRules$Reader" "CheckRules$Reader" "level" "I", Cond.lays "CheckRules$Reader" "CheckRules$Reader" "depth" "I", Cond.lays "CheckRules$Reader" "CheckRules$Reader" "sumStart" "I", Cond.lays "CheckRules$Reader" "CheckRules$Reader" "compared" "Z", Cond.lays "CheckRules$Reader" "CheckRules$Reader" "state" "I", Cond.lays "CheckRules$Reader" "CheckRules$Reader" "place" "I", Cond.lays "CheckRules$Reader" "CheckRules$Reader" "token" "I", Cond.lays "CheckRules$Reader" "CheckRules$Reader" "tokenStart" "I", Cond.lays "CheckRules$Reader" "CheckRules$Reader" "tokenValue" "I"] := by decide +kernel
  rw [h]
  exact List.forall_mem_cons.mpr ⟨zT_in 147 (by decide +kernel) rfl, List.forall_mem_cons.mpr ⟨zT_in 149 (by decide +kernel) rfl, List.forall_mem_cons.mpr ⟨zT_in 151 (by decide +kernel) rfl, List.forall_mem_cons.mpr ⟨zT_in 153 (by decide +kernel) rfl, List.forall_mem_cons.mpr ⟨zT_in 155 (by decide +kernel) rfl, List.forall_mem_cons.mpr ⟨zT_in 157 (by decide +kernel) rfl, List.forall_mem_cons.mpr ⟨zT_in 159 (by decide +kernel) rfl, List.forall_mem_cons.mpr ⟨zT_in 161 (by decide +kernel) rfl, List.forall_mem_cons.mpr ⟨zT_in 163 (by decide +kernel) rfl, List.forall_mem_cons.mpr ⟨zT_in 165 (by decide +kernel) rfl, List.forall_mem_cons.mpr ⟨zT_in 167 (by decide +kernel) rfl, List.forall_mem_cons.mpr ⟨zT_in 169 (by decide +kernel) rfl, List.forall_mem_cons.mpr ⟨zT_in 171 (by decide +kernel) rfl, List.forall_mem_cons.mpr ⟨zT_in 173 (by decide +kernel) rfl, fun _ h => absurd h List.not_mem_nil⟩⟩⟩⟩⟩⟩⟩⟩⟩⟩⟩⟩⟩⟩
def R_Rul : String := "CheckRules$Rule"
def F_Rul : u_T := fun k => match k with
  | 0 => ("CheckRules$Rule", "tree", "LCheckRules$Tree;", true)
  | 1 => ("CheckRules$Rule", "group", "I", false)
  | 2 => ("CheckRules$Rule", "hard", "Z", false)
  | 3 => ("CheckRules$Rule", "firstDay", "I", false)
  | 4 => ("CheckRules$Rule", "latest", "I", false)
  | 5 => ("CheckRules$Rule", "met", "Z", false)
  | 6 => ("CheckRules$Rule", "answered", "Z", false)
  | _ => ("CheckRules$Rule", "faulty", "Z", false)
def t_Rul : Nat → FieldType := fun k => match k with
  | 0 => .object "CheckRules$Tree"
  | 1 => .int
  | 2 => .boolean
  | 3 => .int
  | 4 => .int
  | 5 => .boolean
  | 6 => .boolean
  | _ => .boolean
theorem n_Rul : ∀ a, a < 8 → ∀ b, b < 8 → a ≠ b → (F_Rul a).2.1 ≠ (F_Rul b).2.1 := by decide +kernel
theorem ty_Rul : ∀ k, k < 8 → parseFieldDescriptor (F_Rul k).2.2.1 = some (t_Rul k) := by decide +kernel
theorem in_Rul : ∀ w ∈ u_ws R_Rul F_Rul 8, w ∈ zTs := by
  have h : (u_ws R_Rul F_Rul 8) = [Cond.laysFinal "CheckRules$Rule" "CheckRules$Rule" "tree" "LCheckRules$Tree;", Cond.lays "CheckRules$Rule" "CheckRules$Rule" "group" "I", Cond.lays "CheckRules$Rule" "CheckRules$Rule" "hard" "Z", Cond.lays "CheckRules$Rule" "CheckRules$Rule" "firstDay" "I", Cond.lays "CheckRules$Rule" "CheckRules$Rule" "latest" "I", Cond.lays "CheckRules$Rule" "CheckRules$Rule" "met" "Z", Cond.lays "CheckRules$Rule" "CheckRules$Rule" "answered" "Z", Cond.lays "CheckRules$Rule" "CheckRules$Rule" "faulty" "Z"] := by decide +kernel
  rw [h]
  exact List.forall_mem_cons.mpr ⟨zT_in 758 (by decide +kernel) rfl, List.forall_mem_cons.mpr ⟨zT_in 760 (by decide +kernel) rfl, List.forall_mem_cons.mpr ⟨zT_in 762 (by decide +kernel) rfl, List.forall_mem_cons.mpr ⟨zT_in 764 (by decide +kernel) rfl, List.forall_mem_cons.mpr ⟨zT_in 766 (by decide +kernel) rfl, List.forall_mem_cons.mpr ⟨zT_in 768 (by decide +kernel) rfl, List.forall_mem_cons.mpr ⟨zT_in 770 (by decide +kernel) rfl, List.forall_mem_cons.mpr ⟨zT_in 772 (by decide +kernel) rfl, fun _ h => absurd h List.not_mem_nil⟩⟩⟩⟩⟩⟩⟩⟩
def R_Sgn : String := "CheckRules$Signs"
def F_Sgn : u_T := fun k => match k with
  | 0 => ("CheckRules$Signs", "row", "[I", true)
  | _ => ("CheckRules$Signs", "used", "I", false)
def t_Sgn : Nat → FieldType := fun k => match k with
  | 0 => .array .int
  | _ => .int
theorem n_Sgn : ∀ a, a < 2 → ∀ b, b < 2 → a ≠ b → (F_Sgn a).2.1 ≠ (F_Sgn b).2.1 := by decide +kernel
theorem ty_Sgn : ∀ k, k < 2 → parseFieldDescriptor (F_Sgn k).2.2.1 = some (t_Sgn k) := by decide +kernel
theorem in_Sgn : ∀ w ∈ u_ws R_Sgn F_Sgn 2, w ∈ zTs := by
  have h : (u_ws R_Sgn F_Sgn 2) = [Cond.laysFinal "CheckRules$Signs" "CheckRules$Signs" "row" "[I", Cond.lays "CheckRules$Signs" "CheckRules$Signs" "used" "I"] := by decide +kernel
  rw [h]
  exact List.forall_mem_cons.mpr ⟨zT_in 107 (by decide +kernel) rfl, List.forall_mem_cons.mpr ⟨zT_in 109 (by decide +kernel) rfl, fun _ h => absurd h List.not_mem_nil⟩⟩
def R_Tre : String := "CheckRules$Tree"
def F_Tre : u_T := fun k => match k with
  | 0 => ("CheckRules$Tree", "kinds", "[I", true)
  | 1 => ("CheckRules$Tree", "values", "[I", true)
  | 2 => ("CheckRules$Tree", "rights", "[I", true)
  | _ => ("CheckRules$Tree", "used", "I", false)
def t_Tre : Nat → FieldType := fun k => match k with
  | 0 => .array .int
  | 1 => .array .int
  | 2 => .array .int
  | _ => .int
theorem n_Tre : ∀ a, a < 4 → ∀ b, b < 4 → a ≠ b → (F_Tre a).2.1 ≠ (F_Tre b).2.1 := by decide +kernel
theorem ty_Tre : ∀ k, k < 4 → parseFieldDescriptor (F_Tre k).2.2.1 = some (t_Tre k) := by decide +kernel
theorem in_Tre : ∀ w ∈ u_ws R_Tre F_Tre 4, w ∈ zTs := by
  have h : (u_ws R_Tre F_Tre 4) = [Cond.laysFinal "CheckRules$Tree" "CheckRules$Tree" "kinds" "[I", Cond.laysFinal "CheckRules$Tree" "CheckRules$Tree" "values" "[I", Cond.laysFinal "CheckRules$Tree" "CheckRules$Tree" "rights" "[I", Cond.lays "CheckRules$Tree" "CheckRules$Tree" "used" "I"] := by decide +kernel
  rw [h]
  exact List.forall_mem_cons.mpr ⟨zT_in 123 (by decide +kernel) rfl, List.forall_mem_cons.mpr ⟨zT_in 125 (by decide +kernel) rfl, List.forall_mem_cons.mpr ⟨zT_in 127 (by decide +kernel) rfl, List.forall_mem_cons.mpr ⟨zT_in 129 (by decide +kernel) rfl, fun _ h => absurd h List.not_mem_nil⟩⟩⟩⟩
def R_Wrk : String := "CheckRules$Worker"
def F_Wrk : u_T := fun k => match k with
  | 0 => ("CheckRules$Worker", "declaration", "LCheckRules$Declaration;", true)
  | 1 => ("CheckRules$Worker", "results", "[I", true)
  | _ => ("CheckRules$Worker", "lineBits", "I", false)
def t_Wrk : Nat → FieldType := fun k => match k with
  | 0 => .object "CheckRules$Declaration"
  | 1 => .array .int
  | _ => .int
theorem n_Wrk : ∀ a, a < 3 → ∀ b, b < 3 → a ≠ b → (F_Wrk a).2.1 ≠ (F_Wrk b).2.1 := by decide +kernel
theorem ty_Wrk : ∀ k, k < 3 → parseFieldDescriptor (F_Wrk k).2.2.1 = some (t_Wrk k) := by decide +kernel
theorem in_Wrk : ∀ w ∈ u_ws R_Wrk F_Wrk 3, w ∈ zTs := by
  have h : (u_ws R_Wrk F_Wrk 3) = [Cond.laysFinal "CheckRules$Worker" "CheckRules$Worker" "declaration" "LCheckRules$Declaration;", Cond.laysFinal "CheckRules$Worker" "CheckRules$Worker" "results" "[I", Cond.lays "CheckRules$Worker" "CheckRules$Worker" "lineBits" "I"] := by decide +kernel
  rw [h]
  exact List.forall_mem_cons.mpr ⟨zT_in 200 (by decide +kernel) rfl, List.forall_mem_cons.mpr ⟨zT_in 202 (by decide +kernel) rfl, List.forall_mem_cons.mpr ⟨zT_in 204 (by decide +kernel) rfl, fun _ h => absurd h List.not_mem_nil⟩⟩⟩
def R_Cls : String := "CheckRules"
def F_Cls : u_T := fun k => match k with
  | 0 => ("CheckRules", "reader", "LCheckRules$Reader;", true)
  | 1 => ("CheckRules", "worker", "LCheckRules$Worker;", true)
  | 2 => ("CheckRules", "printer", "LCheckRules$Printer;", true)
  | 3 => ("CheckRules", "rules", "[LCheckRules$Rule;", true)
  | 4 => ("CheckRules", "ruleCount", "I", false)
  | 5 => ("CheckRules", "checkCount", "I", false)
  | _ => ("CheckRules", "today", "I", false)
def t_Cls : Nat → FieldType := fun k => match k with
  | 0 => .object "CheckRules$Reader"
  | 1 => .object "CheckRules$Worker"
  | 2 => .object "CheckRules$Printer"
  | 3 => .array (.object "CheckRules$Rule")
  | 4 => .int
  | 5 => .int
  | _ => .int
theorem n_Cls : ∀ a, a < 7 → ∀ b, b < 7 → a ≠ b → (F_Cls a).2.1 ≠ (F_Cls b).2.1 := by decide +kernel
theorem ty_Cls : ∀ k, k < 7 → parseFieldDescriptor (F_Cls k).2.2.1 = some (t_Cls k) := by decide +kernel
theorem in_Cls : ∀ w ∈ u_ws R_Cls F_Cls 7, w ∈ zTs := by
  have h : (u_ws R_Cls F_Cls 7) = [Cond.laysFinal "CheckRules" "CheckRules" "reader" "LCheckRules$Reader;", Cond.laysFinal "CheckRules" "CheckRules" "worker" "LCheckRules$Worker;", Cond.laysFinal "CheckRules" "CheckRules" "printer" "LCheckRules$Printer;", Cond.laysFinal "CheckRules" "CheckRules" "rules" "[LCheckRules$Rule;", Cond.lays "CheckRules" "CheckRules" "ruleCount" "I", Cond.lays "CheckRules" "CheckRules" "checkCount" "I", Cond.lays "CheckRules" "CheckRules" "today" "I"] := by decide +kernel
  rw [h]
  exact List.forall_mem_cons.mpr ⟨zT_in 229 (by decide +kernel) rfl, List.forall_mem_cons.mpr ⟨zT_in 231 (by decide +kernel) rfl, List.forall_mem_cons.mpr ⟨zT_in 233 (by decide +kernel) rfl, List.forall_mem_cons.mpr ⟨zT_in 235 (by decide +kernel) rfl, List.forall_mem_cons.mpr ⟨zT_in 237 (by decide +kernel) rfl, List.forall_mem_cons.mpr ⟨zT_in 239 (by decide +kernel) rfl, List.forall_mem_cons.mpr ⟨zT_in 241 (by decide +kernel) rfl, fun _ h => absurd h List.not_mem_nil⟩⟩⟩⟩⟩⟩⟩
def R_Mod : String := "CheckRulesModel"
def F_Mod : u_T := fun k => match k with
  | 0 => ("CheckRulesModel", "thrown", "I", false)
  | 1 => ("CheckRulesModel", "text", "[I", true)
  | 2 => ("CheckRulesModel", "length", "I", false)
  | 3 => ("CheckRulesModel", "rules", "I", false)
  | 4 => ("CheckRulesModel", "checks", "I", false)
  | 5 => ("CheckRulesModel", "today", "I", false)
  | 6 => ("CheckRulesModel", "kind", "[I", true)
  | 7 => ("CheckRulesModel", "told", "[I", true)
  | 8 => ("CheckRulesModel", "left", "[I", true)
  | 9 => ("CheckRulesModel", "right", "[I", true)
  | 10 => ("CheckRulesModel", "size", "[I", true)
  | 11 => ("CheckRulesModel", "group", "[I", true)
  | 12 => ("CheckRulesModel", "isHard", "[Z", true)
  | 13 => ("CheckRulesModel", "edition", "[I", true)
  | 14 => ("CheckRulesModel", "before", "[I", true)
  | 15 => ("CheckRulesModel", "isMet", "[Z", true)
  | 16 => ("CheckRulesModel", "isAnswered", "[Z", true)
  | 17 => ("CheckRulesModel", "isBad", "[Z", true)
  | 18 => ("CheckRulesModel", "values", "[I", true)
  | 19 => ("CheckRulesModel", "has", "[Z", true)
  | 20 => ("CheckRulesModel", "madeKind", "[I", true)
  | 21 => ("CheckRulesModel", "madeTold", "[I", true)
  | 22 => ("CheckRulesModel", "madeLeft", "[I", true)
  | 23 => ("CheckRulesModel", "madeRight", "[I", true)
  | 24 => ("CheckRulesModel", "made", "I", false)
  | 25 => ("CheckRulesModel", "at", "I", false)
  | 26 => ("CheckRulesModel", "depth", "I", false)
  | 27 => ("CheckRulesModel", "wrong", "I", false)
  | 28 => ("CheckRulesModel", "openKind", "[I", true)
  | 29 => ("CheckRulesModel", "openNode", "[I", true)
  | 30 => ("CheckRulesModel", "open", "I", false)
  | 31 => ("CheckRulesModel", "amount", "[J", true)
  | 32 => ("CheckRulesModel", "isKnown", "[Z", true)
  | 33 => ("CheckRulesModel", "answer", "[I", true)
  | 34 => ("CheckRulesModel", "numbered", "[I", true)
  | 35 => ("CheckRulesModel", "printed", "[I", true)
  | 36 => ("CheckRulesModel", "signs", "I", false)
  | _ => ("CheckRulesModel", "toPrint", "[I", true)
def t_Mod : Nat → FieldType := fun k => match k with
  | 0 => .int
  | 1 => .array .int
  | 2 => .int
  | 3 => .int
  | 4 => .int
  | 5 => .int
  | 6 => .array .int
  | 7 => .array .int
  | 8 => .array .int
  | 9 => .array .int
  | 10 => .array .int
  | 11 => .array .int
  | 12 => .array .boolean
  | 13 => .array .int
  | 14 => .array .int
  | 15 => .array .boolean
  | 16 => .array .boolean
  | 17 => .array .boolean
  | 18 => .array .int
  | 19 => .array .boolean
  | 20 => .array .int
  | 21 => .array .int
  | 22 => .array .int
  | 23 => .array .int
  | 24 => .int
  | 25 => .int
  | 26 => .int
  | 27 => .int
  | 28 => .array .int
  | 29 => .array .int
  | 30 => .int
  | 31 => .array .long
  | 32 => .array .boolean
  | 33 => .array .int
  | 34 => .array .int
  | 35 => .array .int
  | 36 => .int
  | _ => .array .int
theorem n_Mod : ∀ a, a < 38 → ∀ b, b < 38 → a ≠ b → (F_Mod a).2.1 ≠ (F_Mod b).2.1 := by decide +kernel
theorem ty_Mod : ∀ k, k < 38 → parseFieldDescriptor (F_Mod k).2.2.1 = some (t_Mod k) := by decide +kernel
theorem in_Mod : ∀ w ∈ u_ws R_Mod F_Mod 38, w ∈ zTs := by
  have h : (u_ws R_Mod F_Mod 38) = [Cond.lays "CheckRulesModel" "CheckRulesModel" "thrown" "I", Cond.laysFinal "CheckRulesModel" "CheckRulesModel" "text" "[I", Cond.lays "CheckRulesModel" "CheckRulesModel" "length" "I", Cond.lays "CheckRulesModel" "CheckRulesModel" "rules" "I", Cond.lays "CheckRulesModel" "CheckRulesModel" "checks" "I", Cond.lays "CheckRulesModel" "CheckRulesModel" "today" "I", Cond.laysFinal "CheckRulesModel" "CheckRulesModel" "kind" "[I", Cond.laysFinal "CheckRulesModel" "CheckRulesModel" "told" "[I", Cond.laysFinal "CheckRulesModel" "CheckRulesModel" "left" "[I", Cond.laysFinal "CheckRulesModel" "CheckRulesModel" "right" "[I", Cond.laysFinal "CheckRulesModel" "CheckRulesModel" "size" "[I", Cond.laysFinal "CheckRulesModel" "CheckRulesModel" "group" "[I", Cond.laysFinal "CheckRulesModel" "CheckRulesModel" "isHard" "[Z", Cond.laysFinal "CheckRulesModel" "CheckRulesModel" "edition" "[I", Cond.laysFinal "CheckRulesModel" "CheckRulesModel" "before" "[I", Cond.laysFinal "CheckRulesModel" "CheckRulesModel" "isMet" "[Z", Cond.laysFinal "CheckRulesModel" "CheckRulesModel" "isAnswered" "[Z", Cond.laysFinal "CheckRulesModel" "CheckRulesModel" "isBad" "[Z", Cond.laysFinal "CheckRulesModel" "CheckRulesModel" "values" "[I", Cond.laysFinal "CheckRulesModel" "CheckRulesModel" "has" "[Z", Cond.laysFinal "CheckRulesModel" "CheckRulesModel" "madeKind" "[I", Cond.laysFinal "CheckRulesModel" "CheckRulesModel" "madeTold" "[I", Cond.laysFinal "CheckRulesModel" "CheckRulesModel" "madeLeft" "[I", Cond.laysFinal "CheckRulesModel" "CheckRulesModel" "madeRight" "[I", Cond.lays "CheckRulesModel" "CheckRulesModel" "made" "I", Cond.lays "CheckRulesModel" "CheckRulesModel" "at" "I", Cond.lays "CheckRulesModel" "CheckRulesModel" "depth" "I", Cond.lays "CheckRulesModel" "CheckRulesModel" "wrong" "I", Cond.laysFinal "CheckRulesModel" "CheckRulesModel" "openKind" "[I", Cond.laysFinal "CheckRulesModel" "CheckRulesModel" "openNode" "[I", Cond.lays "CheckRulesModel" "CheckRulesModel" "open" "I", Cond.laysFinal "CheckRulesModel" "CheckRulesModel" "amount" "[J", Cond.laysFinal "CheckRulesModel" "CheckRulesModel" "isKnown" "[Z", Cond.laysFinal "CheckRulesModel" "CheckRulesModel" "answer" "[I", Cond.laysFinal "CheckRulesModel" "CheckRulesModel" "numbered" "[I", Cond.laysFinal "CheckRulesModel" "CheckRulesModel" "printed" "[I", Cond.lays "CheckRulesModel" "CheckRulesModel" "signs" "I", Cond.laysFinal "CheckRulesModel" "CheckRulesModel" "toPrint" "[I"] := by decide +kernel
  rw [h]
  exact List.forall_mem_cons.mpr ⟨zT_in 953 (by decide +kernel) rfl, List.forall_mem_cons.mpr ⟨zT_in 955 (by decide +kernel) rfl, List.forall_mem_cons.mpr ⟨zT_in 957 (by decide +kernel) rfl, List.forall_mem_cons.mpr ⟨zT_in 959 (by decide +kernel) rfl, List.forall_mem_cons.mpr ⟨zT_in 961 (by decide +kernel) rfl, List.forall_mem_cons.mpr ⟨zT_in 963 (by decide +kernel) rfl, List.forall_mem_cons.mpr ⟨zT_in 965 (by decide +kernel) rfl, List.forall_mem_cons.mpr ⟨zT_in 967 (by decide +kernel) rfl, List.forall_mem_cons.mpr ⟨zT_in 969 (by decide +kernel) rfl, List.forall_mem_cons.mpr ⟨zT_in 971 (by decide +kernel) rfl, List.forall_mem_cons.mpr ⟨zT_in 973 (by decide +kernel) rfl, List.forall_mem_cons.mpr ⟨zT_in 975 (by decide +kernel) rfl, List.forall_mem_cons.mpr ⟨zT_in 977 (by decide +kernel) rfl, List.forall_mem_cons.mpr ⟨zT_in 979 (by decide +kernel) rfl, List.forall_mem_cons.mpr ⟨zT_in 981 (by decide +kernel) rfl, List.forall_mem_cons.mpr ⟨zT_in 983 (by decide +kernel) rfl, List.forall_mem_cons.mpr ⟨zT_in 985 (by decide +kernel) rfl, List.forall_mem_cons.mpr ⟨zT_in 987 (by decide +kernel) rfl, List.forall_mem_cons.mpr ⟨zT_in 989 (by decide +kernel) rfl, List.forall_mem_cons.mpr ⟨zT_in 991 (by decide +kernel) rfl, List.forall_mem_cons.mpr ⟨zT_in 993 (by decide +kernel) rfl, List.forall_mem_cons.mpr ⟨zT_in 995 (by decide +kernel) rfl, List.forall_mem_cons.mpr ⟨zT_in 997 (by decide +kernel) rfl, List.forall_mem_cons.mpr ⟨zT_in 999 (by decide +kernel) rfl, List.forall_mem_cons.mpr ⟨zT_in 1001 (by decide +kernel) rfl, List.forall_mem_cons.mpr ⟨zT_in 1003 (by decide +kernel) rfl, List.forall_mem_cons.mpr ⟨zT_in 1005 (by decide +kernel) rfl, List.forall_mem_cons.mpr ⟨zT_in 1007 (by decide +kernel) rfl, List.forall_mem_cons.mpr ⟨zT_in 1009 (by decide +kernel) rfl, List.forall_mem_cons.mpr ⟨zT_in 1011 (by decide +kernel) rfl, List.forall_mem_cons.mpr ⟨zT_in 1013 (by decide +kernel) rfl, List.forall_mem_cons.mpr ⟨zT_in 1015 (by decide +kernel) rfl, List.forall_mem_cons.mpr ⟨zT_in 1017 (by decide +kernel) rfl, List.forall_mem_cons.mpr ⟨zT_in 1019 (by decide +kernel) rfl, List.forall_mem_cons.mpr ⟨zT_in 1021 (by decide +kernel) rfl, List.forall_mem_cons.mpr ⟨zT_in 1023 (by decide +kernel) rfl, List.forall_mem_cons.mpr ⟨zT_in 1025 (by decide +kernel) rfl, List.forall_mem_cons.mpr ⟨zT_in 1027 (by decide +kernel) rfl, fun _ h => absurd h List.not_mem_nil⟩⟩⟩⟩⟩⟩⟩⟩⟩⟩⟩⟩⟩⟩⟩⟩⟩⟩⟩⟩⟩⟩⟩⟩⟩⟩⟩⟩⟩⟩⟩⟩⟩⟩⟩⟩⟩⟩
def R_ISE : String := "java/lang/IllegalStateException"
def F_ISE : u_T := fun k => match k with
  | _ => ("", "", "", false)
def t_ISE : Nat → FieldType := fun k => match k with
  | _ => .int
theorem n_ISE : ∀ a, a < 0 → ∀ b, b < 0 → a ≠ b → (F_ISE a).2.1 ≠ (F_ISE b).2.1 := by decide +kernel
theorem ty_ISE : ∀ k, k < 0 → parseFieldDescriptor (F_ISE k).2.2.1 = some (t_ISE k) := by decide +kernel
theorem in_ISE : ∀ w ∈ u_ws R_ISE F_ISE 0, w ∈ zTs := fun _ h => absurd h List.not_mem_nil
def R_IAE : String := "java/lang/IllegalArgumentException"
def F_IAE : u_T := fun k => match k with
  | _ => ("", "", "", false)
def t_IAE : Nat → FieldType := fun k => match k with
  | _ => .int
theorem n_IAE : ∀ a, a < 0 → ∀ b, b < 0 → a ≠ b → (F_IAE a).2.1 ≠ (F_IAE b).2.1 := by decide +kernel
theorem ty_IAE : ∀ k, k < 0 → parseFieldDescriptor (F_IAE k).2.2.1 = some (t_IAE k) := by decide +kernel
theorem in_IAE : ∀ w ∈ u_ws R_IAE F_IAE 0, w ∈ zTs := fun _ h => absurd h List.not_mem_nil
def R_IOE : String := "java/lang/IndexOutOfBoundsException"
def F_IOE : u_T := fun k => match k with
  | _ => ("", "", "", false)
def t_IOE : Nat → FieldType := fun k => match k with
  | _ => .int
theorem n_IOE : ∀ a, a < 0 → ∀ b, b < 0 → a ≠ b → (F_IOE a).2.1 ≠ (F_IOE b).2.1 := by decide +kernel
theorem ty_IOE : ∀ k, k < 0 → parseFieldDescriptor (F_IOE k).2.2.1 = some (t_IOE k) := by decide +kernel
theorem in_IOE : ∀ w ∈ u_ws R_IOE F_IOE 0, w ∈ zTs := fun _ h => absurd h List.not_mem_nil
/-- the classes whose objects the heap holds -/
def zcl : List vw_C := [(R_Decl, F_Decl, 1), (R_Prt, F_Prt, 1), (R_Rdr, F_Rdr, 14), (R_Rul, F_Rul, 8), (R_Sgn, F_Sgn, 2), (R_Tre, F_Tre, 4), (R_Wrk, F_Wrk, 3), (R_Cls, F_Cls, 7), (R_Mod, F_Mod, 38), (R_ISE, F_ISE, 0), (R_IAE, F_IAE, 0), (R_IOE, F_IOE, 0)]
theorem cl_Decl : zcl[0]? = some (R_Decl, F_Decl, 1) := rfl
theorem cl_Prt : zcl[1]? = some (R_Prt, F_Prt, 1) := rfl
theorem cl_Rdr : zcl[2]? = some (R_Rdr, F_Rdr, 14) := rfl
theorem cl_Rul : zcl[3]? = some (R_Rul, F_Rul, 8) := rfl
theorem cl_Sgn : zcl[4]? = some (R_Sgn, F_Sgn, 2) := rfl
theorem cl_Tre : zcl[5]? = some (R_Tre, F_Tre, 4) := rfl
theorem cl_Wrk : zcl[6]? = some (R_Wrk, F_Wrk, 3) := rfl
theorem cl_Cls : zcl[7]? = some (R_Cls, F_Cls, 7) := rfl
theorem cl_Mod : zcl[8]? = some (R_Mod, F_Mod, 38) := rfl
theorem cl_ISE : zcl[9]? = some (R_ISE, F_ISE, 0) := rfl
theorem cl_IAE : zcl[10]? = some (R_IAE, F_IAE, 0) := rfl
theorem cl_IOE : zcl[11]? = some (R_IOE, F_IOE, 0) := rfl
def y_Cls_init : MethodName := ⟨"CheckRules", "<init>", "()V"⟩
set_option maxRecDepth 100000 in
theorem mc_Cls_init : Cond.code y_Cls_init prog_1_method_1_code 1 (none) ∈ zTs := zT_in 89 rfl rfl
def y_Rdr_init : MethodName := ⟨"CheckRules$Reader", "<init>", "()V"⟩
set_option maxRecDepth 100000 in
theorem mc_Rdr_init : Cond.code y_Rdr_init prog_4_method_1_code 1 (none) ∈ zTs := zT_in 97 rfl rfl
def y_Sgn_init : MethodName := ⟨"CheckRules$Signs", "<init>", "()V"⟩
set_option maxRecDepth 100000 in
theorem mc_Sgn_init : Cond.code y_Sgn_init prog_6_method_1_code 1 (none) ∈ zTs := zT_in 103 rfl rfl
def y_Tre_init : MethodName := ⟨"CheckRules$Tree", "<init>", "()V"⟩
set_option maxRecDepth 100000 in
theorem mc_Tre_init : Cond.code y_Tre_init prog_7_method_1_code 1 (none) ∈ zTs := zT_in 117 rfl rfl
def y_Wrk_init : MethodName := ⟨"CheckRules$Worker", "<init>", "()V"⟩
set_option maxRecDepth 100000 in
theorem mc_Wrk_init : Cond.code y_Wrk_init prog_8_method_1_code 1 (none) ∈ zTs := zT_in 180 rfl rfl
def y_Decl_init : MethodName := ⟨"CheckRules$Declaration", "<init>", "()V"⟩
set_option maxRecDepth 100000 in
theorem mc_Decl_init : Cond.code y_Decl_init prog_2_method_1_code 1 (none) ∈ zTs := zT_in 186 rfl rfl
def y_Arrays_fill : MethodName := ⟨"java/util/Arrays", "fill", "([II)V"⟩
set_option maxRecDepth 100000 in
theorem mc_Arrays_fill : Cond.code y_Arrays_fill prog_24_method_103_code 4 (none) ∈ zTs := zT_in 191 rfl rfl
def y_Prt_init : MethodName := ⟨"CheckRules$Printer", "<init>", "()V"⟩
set_option maxRecDepth 100000 in
theorem mc_Prt_init : Cond.code y_Prt_init prog_3_method_1_code 1 (none) ∈ zTs := zT_in 211 rfl rfl
def y_Cls_sign : MethodName := ⟨"CheckRules", "sign", "(I)Z"⟩
set_option maxRecDepth 100000 in
theorem mc_Cls_sign : Cond.code y_Cls_sign prog_1_method_2_code 2 ((some FieldType.boolean)) ∈ zTs := zT_in 247 rfl rfl
def y_Sgn_add : MethodName := ⟨"CheckRules$Signs", "add", "(I)Z"⟩
set_option maxRecDepth 100000 in
theorem mc_Sgn_add : Cond.code y_Sgn_add prog_6_method_4_code 2 ((some FieldType.boolean)) ∈ zTs := zT_in 251 rfl rfl
def y_Cls_order : MethodName := ⟨"CheckRules", "order", "(IIZ)Z"⟩
set_option maxRecDepth 100000 in
theorem mc_Cls_order : Cond.code y_Cls_order prog_1_method_4_code 5 ((some FieldType.boolean)) ∈ zTs := zT_in 255 rfl rfl
def y_Cls_find : MethodName := ⟨"CheckRules", "find", "(I)LCheckRules$Rule;"⟩
set_option maxRecDepth 100000 in
theorem mc_Cls_find : Cond.code y_Cls_find prog_1_method_21_code 2 ((some (FieldType.object "CheckRules$Rule"))) ∈ zTs := zT_in 259 rfl rfl
def y_Cls_edition : MethodName := ⟨"CheckRules", "edition", "(II)Z"⟩
set_option maxRecDepth 100000 in
theorem mc_Cls_edition : Cond.code y_Cls_edition prog_1_method_5_code 4 ((some FieldType.boolean)) ∈ zTs := zT_in 263 rfl rfl
def y_Cls_isDay : MethodName := ⟨"CheckRules", "isDay", "(I)Z"⟩
set_option maxRecDepth 100000 in
theorem mc_Cls_isDay : Cond.code y_Cls_isDay prog_1_method_25_code 1 ((some FieldType.boolean)) ∈ zTs := zT_in 266 rfl rfl
def y_Cls_day : MethodName := ⟨"CheckRules", "day", "(I)Z"⟩
set_option maxRecDepth 100000 in
theorem mc_Cls_day : Cond.code y_Cls_day prog_1_method_6_code 2 ((some FieldType.boolean)) ∈ zTs := zT_in 271 rfl rfl
def y_Cls_field : MethodName := ⟨"CheckRules", "field", "(III)Z"⟩
set_option maxRecDepth 100000 in
theorem mc_Cls_field : Cond.code y_Cls_field prog_1_method_7_code 4 ((some FieldType.boolean)) ∈ zTs := zT_in 275 rfl rfl
def y_Decl_put : MethodName := ⟨"CheckRules$Declaration", "put", "(III)Z"⟩
set_option maxRecDepth 100000 in
theorem mc_Decl_put : Cond.code y_Decl_put prog_2_method_3_code 5 ((some FieldType.boolean)) ∈ zTs := zT_in 281 rfl rfl
def y_Decl_slotOf : MethodName := ⟨"CheckRules$Declaration", "slotOf", "(II)I"⟩
set_option maxRecDepth 100000 in
theorem mc_Decl_slotOf : Cond.code y_Decl_slotOf prog_2_method_2_code 2 ((some FieldType.int)) ∈ zTs := zT_in 284 rfl rfl
def y_Cls_without : MethodName := ⟨"CheckRules", "without", "(II)Z"⟩
set_option maxRecDepth 100000 in
theorem mc_Cls_without : Cond.code y_Cls_without prog_1_method_8_code 3 ((some FieldType.boolean)) ∈ zTs := zT_in 288 rfl rfl
def y_Decl_valueOn : MethodName := ⟨"CheckRules$Declaration", "valueOn", "(II)I"⟩
set_option maxRecDepth 100000 in
theorem mc_Decl_valueOn : Cond.code y_Decl_valueOn prog_2_method_4_code 4 ((some FieldType.int)) ∈ zTs := zT_in 292 rfl rfl
def y_Cls_check : MethodName := ⟨"CheckRules", "check", "()I"⟩
set_option maxRecDepth 100000 in
theorem mc_Cls_check : Cond.code y_Cls_check prog_1_method_9_code 2 ((some FieldType.int)) ∈ zTs := zT_in 297 rfl rfl
def y_Cls_checkOne : MethodName := ⟨"CheckRules", "checkOne", "(LCheckRules$Rule;)V"⟩
set_option maxRecDepth 100000 in
theorem mc_Cls_checkOne : Cond.code y_Cls_checkOne prog_1_method_22_code 2 (none) ∈ zTs := zT_in 301 rfl rfl
def y_Wrk_workOut : MethodName := ⟨"CheckRules$Worker", "workOut", "(LCheckRules$Tree;)I"⟩
set_option maxRecDepth 100000 in
theorem mc_Wrk_workOut : Cond.code y_Wrk_workOut prog_8_method_2_code 3 ((some FieldType.int)) ∈ zTs := zT_in 305 rfl rfl
def y_Decl_lineBits : MethodName := ⟨"CheckRules$Declaration", "lineBits", "()I"⟩
set_option maxRecDepth 100000 in
theorem mc_Decl_lineBits : Cond.code y_Decl_lineBits prog_2_method_7_code 4 ((some FieldType.int)) ∈ zTs := zT_in 309 rfl rfl
def y_Tre_size : MethodName := ⟨"CheckRules$Tree", "size", "()I"⟩
set_option maxRecDepth 100000 in
theorem mc_Tre_size : Cond.code y_Tre_size prog_7_method_5_code 1 ((some FieldType.int)) ∈ zTs := zT_in 314 rfl rfl
def y_Wrk_workOutNode : MethodName := ⟨"CheckRules$Worker", "workOutNode", "(LCheckRules$Tree;I)V"⟩
set_option maxRecDepth 100000 in
theorem mc_Wrk_workOutNode : Cond.code y_Wrk_workOutNode prog_8_method_3_code 8 (none) ∈ zTs := zT_in 321 rfl rfl
def y_Tre_kindOf : MethodName := ⟨"CheckRules$Tree", "kindOf", "(I)I"⟩
set_option maxRecDepth 100000 in
theorem mc_Tre_kindOf : Cond.code y_Tre_kindOf prog_7_method_10_code 2 ((some FieldType.int)) ∈ zTs := zT_in 325 rfl rfl
def y_Tre_has : MethodName := ⟨"CheckRules$Tree", "has", "(I)Z"⟩
set_option maxRecDepth 100000 in
theorem mc_Tre_has : Cond.code y_Tre_has prog_7_method_9_code 2 ((some FieldType.boolean)) ∈ zTs := zT_in 329 rfl rfl
def y_Tre_valueOf : MethodName := ⟨"CheckRules$Tree", "valueOf", "(I)I"⟩
set_option maxRecDepth 100000 in
theorem mc_Tre_valueOf : Cond.code y_Tre_valueOf prog_7_method_11_code 2 ((some FieldType.int)) ∈ zTs := zT_in 333 rfl rfl
def y_Wrk_setOnAllLines : MethodName := ⟨"CheckRules$Worker", "setOnAllLines", "(II)V"⟩
set_option maxRecDepth 100000 in
theorem mc_Wrk_setOnAllLines : Cond.code y_Wrk_setOnAllLines prog_8_method_11_code 4 (none) ∈ zTs := zT_in 337 rfl rfl
def y_Wrk_setResult : MethodName := ⟨"CheckRules$Worker", "setResult", "(III)V"⟩
set_option maxRecDepth 100000 in
theorem mc_Wrk_setResult : Cond.code y_Wrk_setResult prog_8_method_12_code 5 (none) ∈ zTs := zT_in 341 rfl rfl
def y_Decl_sumOf : MethodName := ⟨"CheckRules$Declaration", "sumOf", "(I)I"⟩
set_option maxRecDepth 100000 in
theorem mc_Decl_sumOf : Cond.code y_Decl_sumOf prog_2_method_5_code 5 ((some FieldType.int)) ∈ zTs := zT_in 345 rfl rfl
def y_Decl_countOf : MethodName := ⟨"CheckRules$Declaration", "countOf", "(I)I"⟩
set_option maxRecDepth 100000 in
theorem mc_Decl_countOf : Cond.code y_Decl_countOf prog_2_method_6_code 4 ((some FieldType.int)) ∈ zTs := zT_in 349 rfl rfl
def y_Tre_leftOf : MethodName := ⟨"CheckRules$Tree", "leftOf", "(I)I"⟩
set_option maxRecDepth 100000 in
theorem mc_Tre_leftOf : Cond.code y_Tre_leftOf prog_7_method_12_code 2 ((some FieldType.int)) ∈ zTs := zT_in 353 rfl rfl
def y_Wrk_overLines : MethodName := ⟨"CheckRules$Worker", "overLines", "(II)I"⟩
set_option maxRecDepth 100000 in
theorem mc_Wrk_overLines : Cond.code y_Wrk_overLines prog_8_method_4_code 6 ((some FieldType.int)) ∈ zTs := zT_in 357 rfl rfl
def y_Wrk_resultOf : MethodName := ⟨"CheckRules$Worker", "resultOf", "(II)I"⟩
set_option maxRecDepth 100000 in
theorem mc_Wrk_resultOf : Cond.code y_Wrk_resultOf prog_8_method_13_code 4 ((some FieldType.int)) ∈ zTs := zT_in 361 rfl rfl
def y_Wrk_both : MethodName := ⟨"CheckRules$Worker", "both", "(II)I"⟩
set_option maxRecDepth 100000 in
theorem mc_Wrk_both : Cond.code y_Wrk_both prog_8_method_8_code 2 ((some FieldType.int)) ∈ zTs := zT_in 365 rfl rfl
def y_Wrk_either : MethodName := ⟨"CheckRules$Worker", "either", "(II)I"⟩
set_option maxRecDepth 100000 in
theorem mc_Wrk_either : Cond.code y_Wrk_either prog_8_method_9_code 2 ((some FieldType.int)) ∈ zTs := zT_in 368 rfl rfl
def y_Wrk_turned : MethodName := ⟨"CheckRules$Worker", "turned", "(I)I"⟩
set_option maxRecDepth 100000 in
theorem mc_Wrk_turned : Cond.code y_Wrk_turned prog_8_method_10_code 1 ((some FieldType.int)) ∈ zTs := zT_in 371 rfl rfl
def y_Tre_rightOf : MethodName := ⟨"CheckRules$Tree", "rightOf", "(I)I"⟩
set_option maxRecDepth 100000 in
theorem mc_Tre_rightOf : Cond.code y_Tre_rightOf prog_7_method_13_code 2 ((some FieldType.int)) ∈ zTs := zT_in 376 rfl rfl
def y_Wrk_joined : MethodName := ⟨"CheckRules$Worker", "joined", "(III)I"⟩
set_option maxRecDepth 100000 in
theorem mc_Wrk_joined : Cond.code y_Wrk_joined prog_8_method_5_code 3 ((some FieldType.int)) ∈ zTs := zT_in 379 rfl rfl
def y_Wrk_calculated : MethodName := ⟨"CheckRules$Worker", "calculated", "(III)I"⟩
set_option maxRecDepth 100000 in
theorem mc_Wrk_calculated : Cond.code y_Wrk_calculated prog_8_method_6_code 4 ((some FieldType.int)) ∈ zTs := zT_in 382 rfl rfl
def y_Wrk_holds : MethodName := ⟨"CheckRules$Worker", "holds", "(III)Z"⟩
set_option maxRecDepth 100000 in
theorem mc_Wrk_holds : Cond.code y_Wrk_holds prog_8_method_7_code 3 ((some FieldType.boolean)) ∈ zTs := zT_in 385 rfl rfl
def y_Rul_takeResult : MethodName := ⟨"CheckRules$Rule", "takeResult", "(I)V"⟩
set_option maxRecDepth 100000 in
theorem mc_Rul_takeResult : Cond.code y_Rul_takeResult prog_5_method_2_code 2 (none) ∈ zTs := zT_in 389 rfl rfl
def y_Cls_findBad : MethodName := ⟨"CheckRules", "findBad", "(IZ)I"⟩
set_option maxRecDepth 100000 in
theorem mc_Cls_findBad : Cond.code y_Cls_findBad prog_1_method_23_code 7 ((some FieldType.int)) ∈ zTs := zT_in 393 rfl rfl
def y_Rul_isBad : MethodName := ⟨"CheckRules$Rule", "isBad", "(Z)Z"⟩
set_option maxRecDepth 100000 in
theorem mc_Rul_isBad : Cond.code y_Rul_isBad prog_5_method_3_code 2 ((some FieldType.boolean)) ∈ zTs := zT_in 397 rfl rfl
def y_Cls_bad : MethodName := ⟨"CheckRules", "bad", "(IZ)I"⟩
set_option maxRecDepth 100000 in
theorem mc_Cls_bad : Cond.code y_Cls_bad prog_1_method_10_code 3 ((some FieldType.int)) ∈ zTs := zT_in 401 rfl rfl
def y_Cls_answer : MethodName := ⟨"CheckRules", "answer", "(I)Z"⟩
set_option maxRecDepth 100000 in
theorem mc_Cls_answer : Cond.code y_Cls_answer prog_1_method_13_code 3 ((some FieldType.boolean)) ∈ zTs := zT_in 405 rfl rfl
def y_Cls_never : MethodName := ⟨"CheckRules", "never", "(I)I"⟩
set_option maxRecDepth 100000 in
theorem mc_Cls_never : Cond.code y_Cls_never prog_1_method_15_code 5 ((some FieldType.int)) ∈ zTs := zT_in 409 rfl rfl
def y_Cls_count : MethodName := ⟨"CheckRules", "count", "(I)I"⟩
set_option maxRecDepth 100000 in
theorem mc_Cls_count : Cond.code y_Cls_count prog_1_method_19_code 2 ((some FieldType.int)) ∈ zTs := zT_in 413 rfl rfl
def y_Sgn_size : MethodName := ⟨"CheckRules$Signs", "size", "()I"⟩
set_option maxRecDepth 100000 in
theorem mc_Sgn_size : Cond.code y_Sgn_size prog_6_method_2_code 1 ((some FieldType.int)) ∈ zTs := zT_in 417 rfl rfl
def y_Cls_countBad : MethodName := ⟨"CheckRules", "countBad", "(Z)I"⟩
set_option maxRecDepth 100000 in
theorem mc_Cls_countBad : Cond.code y_Cls_countBad prog_1_method_24_code 5 ((some FieldType.int)) ∈ zTs := zT_in 421 rfl rfl
def y_Cls_countNodes : MethodName := ⟨"CheckRules", "countNodes", "(I)I"⟩
set_option maxRecDepth 100000 in
theorem mc_Cls_countNodes : Cond.code y_Cls_countNodes prog_1_method_20_code 3 ((some FieldType.int)) ∈ zTs := zT_in 426 rfl rfl
def y_Cls_rule : MethodName := ⟨"CheckRules", "rule", "()I"⟩
set_option maxRecDepth 100000 in
theorem mc_Cls_rule : Cond.code y_Cls_rule prog_1_method_3_code 2 ((some FieldType.int)) ∈ zTs := zT_in 435 rfl rfl
def y_Rdr_readText : MethodName := ⟨"CheckRules$Reader", "readText", "()I"⟩
set_option maxRecDepth 100000 in
theorem mc_Rdr_readText : Cond.code y_Rdr_readText prog_4_method_3_code 2 ((some FieldType.int)) ∈ zTs := zT_in 507 rfl rfl
def y_Tre_clear : MethodName := ⟨"CheckRules$Tree", "clear", "()V"⟩
set_option maxRecDepth 100000 in
theorem mc_Tre_clear : Cond.code y_Tre_clear prog_7_method_4_code 1 (none) ∈ zTs := zT_in 511 rfl rfl
def y_Rdr_beginLevel : MethodName := ⟨"CheckRules$Reader", "beginLevel", "(I)Z"⟩
set_option maxRecDepth 100000 in
theorem mc_Rdr_beginLevel : Cond.code y_Rdr_beginLevel prog_4_method_13_code 2 ((some FieldType.boolean)) ∈ zTs := zT_in 515 rfl rfl
def y_Rdr_readToken : MethodName := ⟨"CheckRules$Reader", "readToken", "()V"⟩
set_option maxRecDepth 100000 in
theorem mc_Rdr_readToken : Cond.code y_Rdr_readToken prog_4_method_15_code 2 (none) ∈ zTs := zT_in 520 rfl rfl
def y_Sgn_get : MethodName := ⟨"CheckRules$Signs", "get", "(I)I"⟩
set_option maxRecDepth 100000 in
theorem mc_Sgn_get : Cond.code y_Sgn_get prog_6_method_5_code 2 ((some FieldType.int)) ∈ zTs := zT_in 524 rfl rfl
def y_Rdr_isDigit : MethodName := ⟨"CheckRules$Reader", "isDigit", "(I)Z"⟩
set_option maxRecDepth 100000 in
theorem mc_Rdr_isDigit : Cond.code y_Rdr_isDigit prog_4_method_19_code 1 ((some FieldType.boolean)) ∈ zTs := zT_in 527 rfl rfl
def y_Rdr_readNumber : MethodName := ⟨"CheckRules$Reader", "readNumber", "(I)Z"⟩
set_option maxRecDepth 100000 in
theorem mc_Rdr_readNumber : Cond.code y_Rdr_readNumber prog_4_method_16_code 4 ((some FieldType.boolean)) ∈ zTs := zT_in 531 rfl rfl
def y_Rdr_isLetter : MethodName := ⟨"CheckRules$Reader", "isLetter", "(I)Z"⟩
set_option maxRecDepth 100000 in
theorem mc_Rdr_isLetter : Cond.code y_Rdr_isLetter prog_4_method_20_code 1 ((some FieldType.boolean)) ∈ zTs := zT_in 534 rfl rfl
def y_Rdr_readWord : MethodName := ⟨"CheckRules$Reader", "readWord", "()I"⟩
set_option maxRecDepth 100000 in
theorem mc_Rdr_readWord : Cond.code y_Rdr_readWord prog_4_method_17_code 2 ((some FieldType.int)) ∈ zTs := zT_in 538 rfl rfl
def y_Rdr_isWord : MethodName := ⟨"CheckRules$Reader", "isWord", "(Ljava/lang/String;)Z"⟩
set_option maxRecDepth 100000 in
theorem mc_Rdr_isWord : Cond.code y_Rdr_isWord prog_4_method_18_code 3 ((some FieldType.boolean)) ∈ zTs := zT_in 543 rfl rfl
def y_Rdr_takeToken : MethodName := ⟨"CheckRules$Reader", "takeToken", "()Z"⟩
set_option maxRecDepth 100000 in
theorem mc_Rdr_takeToken : Cond.code y_Rdr_takeToken prog_4_method_4_code 1 ((some FieldType.boolean)) ∈ zTs := zT_in 599 rfl rfl
def y_Rdr_takePart : MethodName := ⟨"CheckRules$Reader", "takePart", "()Z"⟩
set_option maxRecDepth 100000 in
theorem mc_Rdr_takePart : Cond.code y_Rdr_takePart prog_4_method_5_code 1 ((some FieldType.boolean)) ∈ zTs := zT_in 603 rfl rfl
def y_Rdr_goDeeper : MethodName := ⟨"CheckRules$Reader", "goDeeper", "()Z"⟩
set_option maxRecDepth 100000 in
theorem mc_Rdr_goDeeper : Cond.code y_Rdr_goDeeper prog_4_method_12_code 1 ((some FieldType.boolean)) ∈ zTs := zT_in 607 rfl rfl
def y_Tre_append : MethodName := ⟨"CheckRules$Tree", "append", "(II)Z"⟩
set_option maxRecDepth 100000 in
theorem mc_Tre_append : Cond.code y_Tre_append prog_7_method_6_code 3 ((some FieldType.boolean)) ∈ zTs := zT_in 611 rfl rfl
def y_Rdr_takeTerm : MethodName := ⟨"CheckRules$Reader", "takeTerm", "()Z"⟩
set_option maxRecDepth 100000 in
theorem mc_Rdr_takeTerm : Cond.code y_Rdr_takeTerm prog_4_method_6_code 1 ((some FieldType.boolean)) ∈ zTs := zT_in 615 rfl rfl
def y_Rdr_takeFieldOfSum : MethodName := ⟨"CheckRules$Reader", "takeFieldOfSum", "()Z"⟩
set_option maxRecDepth 100000 in
theorem mc_Rdr_takeFieldOfSum : Cond.code y_Rdr_takeFieldOfSum prog_4_method_7_code 1 ((some FieldType.boolean)) ∈ zTs := zT_in 619 rfl rfl
def y_Tre_setLastValue : MethodName := ⟨"CheckRules$Tree", "setLastValue", "(I)V"⟩
set_option maxRecDepth 100000 in
theorem mc_Tre_setLastValue : Cond.code y_Tre_setLastValue prog_7_method_8_code 2 (none) ∈ zTs := zT_in 623 rfl rfl
def y_Rdr_takeBehindTerm : MethodName := ⟨"CheckRules$Reader", "takeBehindTerm", "()Z"⟩
set_option maxRecDepth 100000 in
theorem mc_Rdr_takeBehindTerm : Cond.code y_Rdr_takeBehindTerm prog_4_method_8_code 1 ((some FieldType.boolean)) ∈ zTs := zT_in 627 rfl rfl
def y_Rdr_kindOfToken : MethodName := ⟨"CheckRules$Reader", "kindOfToken", "()I"⟩
set_option maxRecDepth 100000 in
theorem mc_Rdr_kindOfToken : Cond.code y_Rdr_kindOfToken prog_4_method_10_code 1 ((some FieldType.int)) ∈ zTs := zT_in 631 rfl rfl
def y_Tre_insert : MethodName := ⟨"CheckRules$Tree", "insert", "(II)Z"⟩
set_option maxRecDepth 100000 in
theorem mc_Tre_insert : Cond.code y_Tre_insert prog_7_method_7_code 4 ((some FieldType.boolean)) ∈ zTs := zT_in 693 rfl rfl
def y_Rdr_compare : MethodName := ⟨"CheckRules$Reader", "compare", "()Z"⟩
set_option maxRecDepth 100000 in
theorem mc_Rdr_compare : Cond.code y_Rdr_compare prog_4_method_9_code 1 ((some FieldType.boolean)) ∈ zTs := zT_in 698 rfl rfl
def y_Rdr_takeBehindPart : MethodName := ⟨"CheckRules$Reader", "takeBehindPart", "()Z"⟩
set_option maxRecDepth 100000 in
theorem mc_Rdr_takeBehindPart : Cond.code y_Rdr_takeBehindPart prog_4_method_11_code 2 ((some FieldType.boolean)) ∈ zTs := zT_in 702 rfl rfl
def y_Rdr_endLevel : MethodName := ⟨"CheckRules$Reader", "endLevel", "()Z"⟩
set_option maxRecDepth 100000 in
theorem mc_Rdr_endLevel : Cond.code y_Rdr_endLevel prog_4_method_14_code 1 ((some FieldType.boolean)) ∈ zTs := zT_in 706 rfl rfl
def y_Sgn_clear : MethodName := ⟨"CheckRules$Signs", "clear", "()V"⟩
set_option maxRecDepth 100000 in
theorem mc_Sgn_clear : Cond.code y_Sgn_clear prog_6_method_3_code 1 (none) ∈ zTs := zT_in 710 rfl rfl
def y_Rdr_copyOfTree : MethodName := ⟨"CheckRules$Reader", "copyOfTree", "()LCheckRules$Tree;"⟩
set_option maxRecDepth 100000 in
theorem mc_Rdr_copyOfTree : Cond.code y_Rdr_copyOfTree prog_4_method_2_code 1 ((some (FieldType.object "CheckRules$Tree"))) ∈ zTs := zT_in 715 rfl rfl
def y_Tre_copy : MethodName := ⟨"CheckRules$Tree", "copy", "()LCheckRules$Tree;"⟩
set_option maxRecDepth 100000 in
theorem mc_Tre_copy : Cond.code y_Tre_copy prog_7_method_3_code 1 ((some (FieldType.object "CheckRules$Tree"))) ∈ zTs := zT_in 719 rfl rfl
def y_Tre_init2 : MethodName := ⟨"CheckRules$Tree", "<init>", "(LCheckRules$Tree;)V"⟩
set_option maxRecDepth 100000 in
theorem mc_Tre_init2 : Cond.code y_Tre_init2 prog_7_method_2_code 2 (none) ∈ zTs := zT_in 723 rfl rfl
def y_Arrays_copyOf : MethodName := ⟨"java/util/Arrays", "copyOf", "([II)[I"⟩
set_option maxRecDepth 100000 in
theorem mc_Arrays_copyOf : Cond.code y_Arrays_copyOf prog_24_method_123_code 3 ((some (FieldType.array FieldType.int))) ∈ zTs := zT_in 726 rfl rfl
def y_Rul_init : MethodName := ⟨"CheckRules$Rule", "<init>", "(LCheckRules$Tree;)V"⟩
set_option maxRecDepth 100000 in
theorem mc_Rul_init : Cond.code y_Rul_init prog_5_method_1_code 2 (none) ∈ zTs := zT_in 740 rfl rfl
def y_Cls_was : MethodName := ⟨"CheckRules", "was", "(I)I"⟩
set_option maxRecDepth 100000 in
theorem mc_Cls_was : Cond.code y_Cls_was prog_1_method_11_code 3 ((some FieldType.int)) ∈ zTs := zT_in 782 rfl rfl
def y_Cls_is : MethodName := ⟨"CheckRules", "is", "(I)I"⟩
set_option maxRecDepth 100000 in
theorem mc_Cls_is : Cond.code y_Cls_is prog_1_method_12_code 3 ((some FieldType.int)) ∈ zTs := zT_in 805 rfl rfl
def y_Cls_touch : MethodName := ⟨"CheckRules", "touch", "(I)I"⟩
set_option maxRecDepth 100000 in
theorem mc_Cls_touch : Cond.code y_Cls_touch prog_1_method_14_code 5 ((some FieldType.int)) ∈ zTs := zT_in 812 rfl rfl
def y_Tre_names : MethodName := ⟨"CheckRules$Tree", "names", "(I)Z"⟩
set_option maxRecDepth 100000 in
theorem mc_Tre_names : Cond.code y_Tre_names prog_7_method_14_code 3 ((some FieldType.boolean)) ∈ zTs := zT_in 817 rfl rfl
def y_Cls_node : MethodName := ⟨"CheckRules", "node", "(III)I"⟩
set_option maxRecDepth 100000 in
theorem mc_Cls_node : Cond.code y_Cls_node prog_1_method_16_code 5 ((some FieldType.int)) ∈ zTs := zT_in 827 rfl rfl
def y_Cls_print : MethodName := ⟨"CheckRules", "print", "(I)I"⟩
set_option maxRecDepth 100000 in
theorem mc_Cls_print : Cond.code y_Cls_print prog_1_method_17_code 3 ((some FieldType.int)) ∈ zTs := zT_in 854 rfl rfl
def y_Prt_printTree : MethodName := ⟨"CheckRules$Printer", "printTree", "(LCheckRules$Tree;)V"⟩
set_option maxRecDepth 100000 in
theorem mc_Prt_printTree : Cond.code y_Prt_printTree prog_3_method_2_code 2 (none) ∈ zTs := zT_in 858 rfl rfl
def y_Prt_printNode : MethodName := ⟨"CheckRules$Printer", "printNode", "(LCheckRules$Tree;II)V"⟩
set_option maxRecDepth 100000 in
theorem mc_Prt_printNode : Cond.code y_Prt_printNode prog_3_method_3_code 5 (none) ∈ zTs := zT_in 863 rfl rfl
def y_Prt_printBelow : MethodName := ⟨"CheckRules$Printer", "printBelow", "(LCheckRules$Tree;III)V"⟩
set_option maxRecDepth 100000 in
theorem mc_Prt_printBelow : Cond.code y_Prt_printBelow prog_3_method_4_code 7 (none) ∈ zTs := zT_in 870 rfl rfl
def y_Prt_needsBrackets : MethodName := ⟨"CheckRules$Printer", "needsBrackets", "(IIZ)Z"⟩
set_option maxRecDepth 100000 in
theorem mc_Prt_needsBrackets : Cond.code y_Prt_needsBrackets prog_3_method_5_code 3 ((some FieldType.boolean)) ∈ zTs := zT_in 874 rfl rfl
def y_Prt_addWord : MethodName := ⟨"CheckRules$Printer", "addWord", "(Ljava/lang/String;)V"⟩
set_option maxRecDepth 100000 in
theorem mc_Prt_addWord : Cond.code y_Prt_addWord prog_3_method_8_code 3 (none) ∈ zTs := zT_in 880 rfl rfl
def y_Prt_printTerm : MethodName := ⟨"CheckRules$Printer", "printTerm", "(II)V"⟩
set_option maxRecDepth 100000 in
theorem mc_Prt_printTerm : Cond.code y_Prt_printTerm prog_3_method_6_code 3 (none) ∈ zTs := zT_in 887 rfl rfl
def y_Prt_addNumber : MethodName := ⟨"CheckRules$Printer", "addNumber", "(I)V"⟩
set_option maxRecDepth 100000 in
theorem mc_Prt_addNumber : Cond.code y_Prt_addNumber prog_3_method_7_code 3 (none) ∈ zTs := zT_in 893 rfl rfl
def y_Prt_addSignOf : MethodName := ⟨"CheckRules$Printer", "addSignOf", "(I)V"⟩
set_option maxRecDepth 100000 in
theorem mc_Prt_addSignOf : Cond.code y_Prt_addSignOf prog_3_method_9_code 2 (none) ∈ zTs := zT_in 898 rfl rfl
def y_Cls_at : MethodName := ⟨"CheckRules", "at", "(I)I"⟩
set_option maxRecDepth 100000 in
theorem mc_Cls_at : Cond.code y_Cls_at prog_1_method_18_code 3 ((some FieldType.int)) ∈ zTs := zT_in 906 rfl rfl
def y_Mod_init : MethodName := ⟨"CheckRulesModel", "<init>", "()V"⟩
set_option maxRecDepth 100000 in
theorem mc_Mod_init : Cond.code y_Mod_init prog_10_method_1_code 1 (none) ∈ zTs := zT_in 913 rfl rfl
def y_Mod_thrown : MethodName := ⟨"CheckRulesModel", "thrown", "()I"⟩
set_option maxRecDepth 100000 in
theorem mc_Mod_thrown : Cond.code y_Mod_thrown prog_10_method_2_code 1 ((some FieldType.int)) ∈ zTs := zT_in 1035 rfl rfl
def y_Mod_sign : MethodName := ⟨"CheckRulesModel", "sign", "(I)Z"⟩
set_option maxRecDepth 100000 in
theorem mc_Mod_sign : Cond.code y_Mod_sign prog_10_method_5_code 2 ((some FieldType.boolean)) ∈ zTs := zT_in 1039 rfl rfl
def y_Mod_in : MethodName := ⟨"CheckRulesModel", "in", "(III)Z"⟩
set_option maxRecDepth 100000 in
theorem mc_Mod_in : Cond.code y_Mod_in prog_10_method_3_code 3 ((some FieldType.boolean)) ∈ zTs := zT_in 1042 rfl rfl
def y_Mod_rule : MethodName := ⟨"CheckRulesModel", "rule", "()I"⟩
set_option maxRecDepth 100000 in
theorem mc_Mod_rule : Cond.code y_Mod_rule prog_10_method_24_code 2 ((some FieldType.int)) ∈ zTs := zT_in 1046 rfl rfl
def y_Mod_read : MethodName := ⟨"CheckRulesModel", "read", "()I"⟩
set_option maxRecDepth 100000 in
theorem mc_Mod_read : Cond.code y_Mod_read prog_10_method_22_code 6 ((some FieldType.int)) ∈ zTs := zT_in 1050 rfl rfl
def y_Mod_begins : MethodName := ⟨"CheckRulesModel", "begins", "()Z"⟩
set_option maxRecDepth 100000 in
theorem mc_Mod_begins : Cond.code y_Mod_begins prog_10_method_19_code 4 ((some FieldType.boolean)) ∈ zTs := zT_in 1054 rfl rfl
def y_Mod_look : MethodName := ⟨"CheckRulesModel", "look", "()I"⟩
set_option maxRecDepth 100000 in
theorem mc_Mod_look : Cond.code y_Mod_look prog_10_method_6_code 1 ((some FieldType.int)) ∈ zTs := zT_in 1058 rfl rfl
def y_Mod_word : MethodName := ⟨"CheckRulesModel", "word", "()I"⟩
set_option maxRecDepth 100000 in
theorem mc_Mod_word : Cond.code y_Mod_word prog_10_method_9_code 4 ((some FieldType.int)) ∈ zTs := zT_in 1062 rfl rfl
def y_Mod_isSmall : MethodName := ⟨"CheckRulesModel", "isSmall", "(I)Z"⟩
set_option maxRecDepth 100000 in
theorem mc_Mod_isSmall : Cond.code y_Mod_isSmall prog_10_method_8_code 1 ((some FieldType.boolean)) ∈ zTs := zT_in 1065 rfl rfl
def y_Mod_node : MethodName := ⟨"CheckRulesModel", "node", "(II)I"⟩
set_option maxRecDepth 100000 in
theorem mc_Mod_node : Cond.code y_Mod_node prog_10_method_11_code 3 ((some FieldType.int)) ∈ zTs := zT_in 1076 rfl rfl
def y_Mod_fail : MethodName := ⟨"CheckRulesModel", "fail", "(I)V"⟩
set_option maxRecDepth 100000 in
theorem mc_Mod_fail : Cond.code y_Mod_fail prog_10_method_10_code 2 (none) ∈ zTs := zT_in 1080 rfl rfl
def y_Mod_enter : MethodName := ⟨"CheckRulesModel", "enter", "(I)V"⟩
set_option maxRecDepth 100000 in
theorem mc_Mod_enter : Cond.code y_Mod_enter prog_10_method_13_code 2 (none) ∈ zTs := zT_in 1084 rfl rfl
def y_Mod_push : MethodName := ⟨"CheckRulesModel", "push", "(II)V"⟩
set_option maxRecDepth 100000 in
theorem mc_Mod_push : Cond.code y_Mod_push prog_10_method_12_code 3 (none) ∈ zTs := zT_in 1088 rfl rfl
def y_Mod_comparison : MethodName := ⟨"CheckRulesModel", "comparison", "()I"⟩
set_option maxRecDepth 100000 in
theorem mc_Mod_comparison : Cond.code y_Mod_comparison prog_10_method_18_code 6 ((some FieldType.int)) ∈ zTs := zT_in 1092 rfl rfl
def y_Mod_sum : MethodName := ⟨"CheckRulesModel", "sum", "()I"⟩
set_option maxRecDepth 100000 in
theorem mc_Mod_sum : Cond.code y_Mod_sum prog_10_method_17_code 4 ((some FieldType.int)) ∈ zTs := zT_in 1096 rfl rfl
def y_Mod_term : MethodName := ⟨"CheckRulesModel", "term", "()I"⟩
set_option maxRecDepth 100000 in
theorem mc_Mod_term : Cond.code y_Mod_term prog_10_method_16_code 6 ((some FieldType.int)) ∈ zTs := zT_in 1100 rfl rfl
def y_Mod_isDigit : MethodName := ⟨"CheckRulesModel", "isDigit", "(I)Z"⟩
set_option maxRecDepth 100000 in
theorem mc_Mod_isDigit : Cond.code y_Mod_isDigit prog_10_method_7_code 1 ((some FieldType.boolean)) ∈ zTs := zT_in 1103 rfl rfl
def y_Mod_digits : MethodName := ⟨"CheckRulesModel", "digits", "(II)I"⟩
set_option maxRecDepth 100000 in
theorem mc_Mod_digits : Cond.code y_Mod_digits prog_10_method_14_code 5 ((some FieldType.int)) ∈ zTs := zT_in 1107 rfl rfl
def y_Mod_field : MethodName := ⟨"CheckRulesModel", "field", "()I"⟩
set_option maxRecDepth 100000 in
theorem mc_Mod_field : Cond.code y_Mod_field prog_10_method_15_code 4 ((some FieldType.int)) ∈ zTs := zT_in 1111 rfl rfl
def y_Mod_taken : MethodName := ⟨"CheckRulesModel", "taken", "(I)I"⟩
set_option maxRecDepth 100000 in
theorem mc_Mod_taken : Cond.code y_Mod_taken prog_10_method_20_code 4 ((some FieldType.int)) ∈ zTs := zT_in 1115 rfl rfl
def y_Mod_or : MethodName := ⟨"CheckRulesModel", "or", "(I)I"⟩
set_option maxRecDepth 100000 in
theorem mc_Mod_or : Cond.code y_Mod_or prog_10_method_21_code 2 ((some FieldType.int)) ∈ zTs := zT_in 1119 rfl rfl
def y_Mod_number : MethodName := ⟨"CheckRulesModel", "number", "(II)V"⟩
set_option maxRecDepth 100000 in
theorem mc_Mod_number : Cond.code y_Mod_number prog_10_method_23_code 8 (none) ∈ zTs := zT_in 1123 rfl rfl
def y_Mod_order : MethodName := ⟨"CheckRulesModel", "order", "(IIZ)Z"⟩
set_option maxRecDepth 100000 in
theorem mc_Mod_order : Cond.code y_Mod_order prog_10_method_25_code 4 ((some FieldType.boolean)) ∈ zTs := zT_in 1127 rfl rfl
def y_Mod_isRule : MethodName := ⟨"CheckRulesModel", "isRule", "(I)Z"⟩
set_option maxRecDepth 100000 in
theorem mc_Mod_isRule : Cond.code y_Mod_isRule prog_10_method_4_code 2 ((some FieldType.boolean)) ∈ zTs := zT_in 1131 rfl rfl
def y_Mod_edition : MethodName := ⟨"CheckRulesModel", "edition", "(II)Z"⟩
set_option maxRecDepth 100000 in
theorem mc_Mod_edition : Cond.code y_Mod_edition prog_10_method_26_code 3 ((some FieldType.boolean)) ∈ zTs := zT_in 1135 rfl rfl
def y_Mod_day : MethodName := ⟨"CheckRulesModel", "day", "(I)Z"⟩
set_option maxRecDepth 100000 in
theorem mc_Mod_day : Cond.code y_Mod_day prog_10_method_27_code 2 ((some FieldType.boolean)) ∈ zTs := zT_in 1140 rfl rfl
def y_Mod_field2 : MethodName := ⟨"CheckRulesModel", "field", "(III)Z"⟩
set_option maxRecDepth 100000 in
theorem mc_Mod_field2 : Cond.code y_Mod_field2 prog_10_method_28_code 4 ((some FieldType.boolean)) ∈ zTs := zT_in 1144 rfl rfl
def y_Mod_without : MethodName := ⟨"CheckRulesModel", "without", "(II)Z"⟩
set_option maxRecDepth 100000 in
theorem mc_Mod_without : Cond.code y_Mod_without prog_10_method_29_code 3 ((some FieldType.boolean)) ∈ zTs := zT_in 1150 rfl rfl
def y_Mod_check : MethodName := ⟨"CheckRulesModel", "check", "()I"⟩
set_option maxRecDepth 100000 in
theorem mc_Mod_check : Cond.code y_Mod_check prog_10_method_39_code 4 ((some FieldType.int)) ∈ zTs := zT_in 1154 rfl rfl
def y_Mod_work : MethodName := ⟨"CheckRulesModel", "work", "(I)I"⟩
set_option maxRecDepth 100000 in
theorem mc_Mod_work : Cond.code y_Mod_work prog_10_method_38_code 4 ((some FieldType.int)) ∈ zTs := zT_in 1158 rfl rfl
def y_Mod_workNode : MethodName := ⟨"CheckRulesModel", "workNode", "(III)V"⟩
set_option maxRecDepth 100000 in
theorem mc_Mod_workNode : Cond.code y_Mod_workNode prog_10_method_37_code 8 (none) ∈ zTs := zT_in 1162 rfl rfl
def y_Mod_workTerm : MethodName := ⟨"CheckRulesModel", "workTerm", "(III)V"⟩
set_option maxRecDepth 100000 in
theorem mc_Mod_workTerm : Cond.code y_Mod_workTerm prog_10_method_31_code 6 (none) ∈ zTs := zT_in 1166 rfl rfl
def y_Mod_compared : MethodName := ⟨"CheckRulesModel", "compared", "(III)I"⟩
set_option maxRecDepth 100000 in
theorem mc_Mod_compared : Cond.code y_Mod_compared prog_10_method_35_code 7 ((some FieldType.int)) ∈ zTs := zT_in 1170 rfl rfl
def y_Mod_over : MethodName := ⟨"CheckRulesModel", "over", "(II)I"⟩
set_option maxRecDepth 100000 in
theorem mc_Mod_over : Cond.code y_Mod_over prog_10_method_36_code 5 ((some FieldType.int)) ∈ zTs := zT_in 1174 rfl rfl
def y_Mod_isThere : MethodName := ⟨"CheckRulesModel", "isThere", "(I)Z"⟩
set_option maxRecDepth 100000 in
theorem mc_Mod_isThere : Cond.code y_Mod_isThere prog_10_method_30_code 4 ((some FieldType.boolean)) ∈ zTs := zT_in 1178 rfl rfl
def y_Mod_and : MethodName := ⟨"CheckRulesModel", "and", "(II)I"⟩
set_option maxRecDepth 100000 in
theorem mc_Mod_and : Cond.code y_Mod_and prog_10_method_32_code 2 ((some FieldType.int)) ∈ zTs := zT_in 1181 rfl rfl
def y_Mod_or2 : MethodName := ⟨"CheckRulesModel", "or", "(II)I"⟩
set_option maxRecDepth 100000 in
theorem mc_Mod_or2 : Cond.code y_Mod_or2 prog_10_method_34_code 2 ((some FieldType.int)) ∈ zTs := zT_in 1184 rfl rfl
def y_Mod_not : MethodName := ⟨"CheckRulesModel", "not", "(I)I"⟩
set_option maxRecDepth 100000 in
theorem mc_Mod_not : Cond.code y_Mod_not prog_10_method_33_code 1 ((some FieldType.int)) ∈ zTs := zT_in 1187 rfl rfl
def y_Mod_badAt : MethodName := ⟨"CheckRulesModel", "badAt", "(IZ)I"⟩
set_option maxRecDepth 100000 in
theorem mc_Mod_badAt : Cond.code y_Mod_badAt prog_10_method_40_code 7 ((some FieldType.int)) ∈ zTs := zT_in 1191 rfl rfl
def y_Mod_bad : MethodName := ⟨"CheckRulesModel", "bad", "(IZ)I"⟩
set_option maxRecDepth 100000 in
theorem mc_Mod_bad : Cond.code y_Mod_bad prog_10_method_41_code 3 ((some FieldType.int)) ∈ zTs := zT_in 1195 rfl rfl
def y_Mod_was : MethodName := ⟨"CheckRulesModel", "was", "(I)I"⟩
set_option maxRecDepth 100000 in
theorem mc_Mod_was : Cond.code y_Mod_was prog_10_method_42_code 2 ((some FieldType.int)) ∈ zTs := zT_in 1199 rfl rfl
def y_Mod_is : MethodName := ⟨"CheckRulesModel", "is", "(I)I"⟩
set_option maxRecDepth 100000 in
theorem mc_Mod_is : Cond.code y_Mod_is prog_10_method_43_code 2 ((some FieldType.int)) ∈ zTs := zT_in 1203 rfl rfl
def y_Mod_answer : MethodName := ⟨"CheckRulesModel", "answer", "(I)Z"⟩
set_option maxRecDepth 100000 in
theorem mc_Mod_answer : Cond.code y_Mod_answer prog_10_method_44_code 2 ((some FieldType.boolean)) ∈ zTs := zT_in 1207 rfl rfl
def y_Mod_touch : MethodName := ⟨"CheckRulesModel", "touch", "(I)I"⟩
set_option maxRecDepth 100000 in
theorem mc_Mod_touch : Cond.code y_Mod_touch prog_10_method_45_code 6 ((some FieldType.int)) ∈ zTs := zT_in 1211 rfl rfl
def y_Mod_never : MethodName := ⟨"CheckRulesModel", "never", "(I)I"⟩
set_option maxRecDepth 100000 in
theorem mc_Mod_never : Cond.code y_Mod_never prog_10_method_46_code 5 ((some FieldType.int)) ∈ zTs := zT_in 1215 rfl rfl
def y_Mod_node2 : MethodName := ⟨"CheckRulesModel", "node", "(III)I"⟩
set_option maxRecDepth 100000 in
theorem mc_Mod_node2 : Cond.code y_Mod_node2 prog_10_method_47_code 5 ((some FieldType.int)) ∈ zTs := zT_in 1219 rfl rfl
def y_Mod_print : MethodName := ⟨"CheckRulesModel", "print", "(I)I"⟩
set_option maxRecDepth 100000 in
theorem mc_Mod_print : Cond.code y_Mod_print prog_10_method_52_code 5 ((some FieldType.int)) ∈ zTs := zT_in 1223 rfl rfl
def y_Mod_put : MethodName := ⟨"CheckRulesModel", "put", "(I)V"⟩
set_option maxRecDepth 100000 in
theorem mc_Mod_put : Cond.code y_Mod_put prog_10_method_48_code 2 (none) ∈ zTs := zT_in 1227 rfl rfl
def y_Mod_putTerm : MethodName := ⟨"CheckRulesModel", "putTerm", "(I)V"⟩
set_option maxRecDepth 100000 in
theorem mc_Mod_putTerm : Cond.code y_Mod_putTerm prog_10_method_50_code 2 (none) ∈ zTs := zT_in 1231 rfl rfl
def y_Mod_putNumber : MethodName := ⟨"CheckRulesModel", "putNumber", "(I)V"⟩
set_option maxRecDepth 100000 in
theorem mc_Mod_putNumber : Cond.code y_Mod_putNumber prog_10_method_49_code 4 (none) ∈ zTs := zT_in 1235 rfl rfl
def y_Mod_unfold : MethodName := ⟨"CheckRulesModel", "unfold", "(III)I"⟩
set_option maxRecDepth 100000 in
theorem mc_Mod_unfold : Cond.code y_Mod_unfold prog_10_method_51_code 10 ((some FieldType.int)) ∈ zTs := zT_in 1239 rfl rfl
def y_Mod_at : MethodName := ⟨"CheckRulesModel", "at", "(I)I"⟩
set_option maxRecDepth 100000 in
theorem mc_Mod_at : Cond.code y_Mod_at prog_10_method_53_code 2 ((some FieldType.int)) ∈ zTs := zT_in 1243 rfl rfl
def y_Mod_count : MethodName := ⟨"CheckRulesModel", "count", "(I)I"⟩
set_option maxRecDepth 100000 in
theorem mc_Mod_count : Cond.code y_Mod_count prog_10_method_54_code 6 ((some FieldType.int)) ∈ zTs := zT_in 1247 rfl rfl
end
section
/-- links between nest mates -/
def zNs : List Cond := [Cond.methodLinkNest "CheckRules" 11 ⟨"CheckRules$Reader", "<init>", "()V"⟩ "CheckRules", Cond.methodLinkNest "CheckRules$Reader" 11 ⟨"CheckRules$Signs", "<init>", "()V"⟩ "CheckRules", Cond.fieldLinkNest "CheckRules" 48 "CheckRules$Reader" "text" "LCheckRules$Signs;" "CheckRules", Cond.methodLinkNest "CheckRules" 20 ⟨"CheckRules$Worker", "<init>", "()V"⟩ "CheckRules", Cond.fieldLinkNest "CheckRules" 98 "CheckRules$Worker" "declaration" "LCheckRules$Declaration;" "CheckRules", Cond.methodLinkNest "CheckRules" 27 ⟨"CheckRules$Printer", "<init>", "()V"⟩ "CheckRules", Cond.methodLinkNest "CheckRules$Printer" 11 ⟨"CheckRules$Signs", "<init>", "()V"⟩ "CheckRules", Cond.fieldLinkNest "CheckRules" 174 "CheckRules$Printer" "printed" "LCheckRules$Signs;" "CheckRules", Cond.fieldLinkNest "CheckRules" 129 "CheckRules$Rule" "tree" "LCheckRules$Tree;" "CheckRules", Cond.fieldLinkNest "CheckRules" 83 "CheckRules$Rule" "group" "I" "CheckRules", Cond.fieldLinkNest "CheckRules" 86 "CheckRules$Rule" "hard" "Z" "CheckRules", Cond.fieldLinkNest "CheckRules" 93 "CheckRules$Rule" "firstDay" "I" "CheckRules", Cond.fieldLinkNest "CheckRules" 126 "CheckRules$Rule" "latest" "I" "CheckRules", Cond.fieldLinkNest "CheckRules" 147 "CheckRules$Rule" "met" "Z" "CheckRules", Cond.fieldLinkNest "CheckRules" 137 "CheckRules$Rule" "answered" "Z" "CheckRules", Cond.fieldLinkNest "CheckRules" 193 "CheckRules$Rule" "faulty" "Z" "CheckRules"]
theorem ns_0 : Cond.methodLinkNest "CheckRules" 11 ⟨"CheckRules$Reader", "<init>", "()V"⟩ "CheckRules" ∈ zNs := List.mem_of_getElem? (i := 0) rfl
theorem ns_1 : Cond.methodLinkNest "CheckRules$Reader" 11 ⟨"CheckRules$Signs", "<init>", "()V"⟩ "CheckRules" ∈ zNs := List.mem_of_getElem? (i := 1) rfl
theorem ns_2 : Cond.fieldLinkNest "CheckRules" 48 "CheckRules$Reader" "text" "LCheckRules$Signs;" "CheckRules" ∈ zNs := List.mem_of_getElem? (i := 2) rfl
theorem ns_3 : Cond.methodLinkNest "CheckRules" 20 ⟨"CheckRules$Worker", "<init>", "()V"⟩ "CheckRules" ∈ zNs := List.mem_of_getElem? (i := 3) rfl
theorem ns_4 : Cond.fieldLinkNest "CheckRules" 98 "CheckRules$Worker" "declaration" "LCheckRules$Declaration;" "CheckRules" ∈ zNs := List.mem_of_getElem? (i := 4) rfl
theorem ns_5 : Cond.methodLinkNest "CheckRules" 27 ⟨"CheckRules$Printer", "<init>", "()V"⟩ "CheckRules" ∈ zNs := List.mem_of_getElem? (i := 5) rfl
theorem ns_6 : Cond.methodLinkNest "CheckRules$Printer" 11 ⟨"CheckRules$Signs", "<init>", "()V"⟩ "CheckRules" ∈ zNs := List.mem_of_getElem? (i := 6) rfl
theorem ns_7 : Cond.fieldLinkNest "CheckRules" 174 "CheckRules$Printer" "printed" "LCheckRules$Signs;" "CheckRules" ∈ zNs := List.mem_of_getElem? (i := 7) rfl
theorem ns_8 : Cond.fieldLinkNest "CheckRules" 129 "CheckRules$Rule" "tree" "LCheckRules$Tree;" "CheckRules" ∈ zNs := List.mem_of_getElem? (i := 8) rfl
theorem ns_9 : Cond.fieldLinkNest "CheckRules" 83 "CheckRules$Rule" "group" "I" "CheckRules" ∈ zNs := List.mem_of_getElem? (i := 9) rfl
theorem ns_10 : Cond.fieldLinkNest "CheckRules" 86 "CheckRules$Rule" "hard" "Z" "CheckRules" ∈ zNs := List.mem_of_getElem? (i := 10) rfl
theorem ns_11 : Cond.fieldLinkNest "CheckRules" 93 "CheckRules$Rule" "firstDay" "I" "CheckRules" ∈ zNs := List.mem_of_getElem? (i := 11) rfl
theorem ns_12 : Cond.fieldLinkNest "CheckRules" 126 "CheckRules$Rule" "latest" "I" "CheckRules" ∈ zNs := List.mem_of_getElem? (i := 12) rfl
theorem ns_13 : Cond.fieldLinkNest "CheckRules" 147 "CheckRules$Rule" "met" "Z" "CheckRules" ∈ zNs := List.mem_of_getElem? (i := 13) rfl
theorem ns_14 : Cond.fieldLinkNest "CheckRules" 137 "CheckRules$Rule" "answered" "Z" "CheckRules" ∈ zNs := List.mem_of_getElem? (i := 14) rfl
theorem ns_15 : Cond.fieldLinkNest "CheckRules" 193 "CheckRules$Rule" "faulty" "Z" "CheckRules" ∈ zNs := List.mem_of_getElem? (i := 15) rfl
/-- the String constants: whose, which entry, text, bytes -/
def zSo : Nat → String := fun j => match j with
  | 0 => "CheckRules"
  | 1 => "CheckRules$Reader"
  | 2 => "CheckRules$Reader"
  | 3 => "CheckRules$Reader"
  | 4 => "CheckRules$Reader"
  | 5 => "CheckRules$Reader"
  | 6 => "CheckRules$Reader"
  | 7 => "CheckRules"
  | 8 => "CheckRules"
  | 9 => "CheckRules"
  | 10 => "CheckRules$Printer"
  | 11 => "CheckRules$Printer"
  | 12 => "CheckRules$Printer"
  | 13 => "CheckRules$Printer"
  | 14 => "CheckRules$Printer"
  | _ => "CheckRules"
def zSi : Nat → Nat := fun j => match j with
  | 0 => 60
  | 1 => 147
  | 2 => 153
  | 3 => 155
  | 4 => 157
  | 5 => 159
  | 6 => 121
  | 7 => 123
  | 8 => 140
  | 9 => 155
  | 10 => 42
  | 11 => 44
  | 12 => 68
  | 13 => 70
  | 14 => 86
  | _ => 181
def zSt : Nat → String := fun j => match j with
  | 0 => "there are 20 rules"
  | 1 => "f"
  | 2 => "all"
  | 3 => "any"
  | 4 => "sum"
  | 5 => "count"
  | 6 => "|&!  <>=#+-"
  | 7 => "no such rule"
  | 8 => "no such field"
  | 9 => "no such rule, node or what"
  | 10 => "all("
  | 11 => "any("
  | 12 => "sum "
  | 13 => "count "
  | 14 => "|&!  <>=#+-"
  | _ => "no such sign"
def zSb : Nat → List Int32 := fun j => match j with
  | 0 => [116, 104, 101, 114, 101, 32, 97, 114, 101, 32, 50, 48, 32, 114, 117, 108, 101, 115]
  | 1 => [102]
  | 2 => [97, 108, 108]
  | 3 => [97, 110, 121]
  | 4 => [115, 117, 109]
  | 5 => [99, 111, 117, 110, 116]
  | 6 => [124, 38, 33, 32, 32, 60, 62, 61, 35, 43, 45]
  | 7 => [110, 111, 32, 115, 117, 99, 104, 32, 114, 117, 108, 101]
  | 8 => [110, 111, 32, 115, 117, 99, 104, 32, 102, 105, 101, 108, 100]
  | 9 => [110, 111, 32, 115, 117, 99, 104, 32, 114, 117, 108, 101, 44, 32, 110, 111, 100, 101, 32, 111, 114, 32, 119, 104, 97, 116]
  | 10 => [97, 108, 108, 40]
  | 11 => [97, 110, 121, 40]
  | 12 => [115, 117, 109, 32]
  | 13 => [99, 111, 117, 110, 116, 32]
  | 14 => [124, 38, 33, 32, 32, 60, 62, 61, 35, 43, 45]
  | _ => [110, 111, 32, 115, 117, 99, 104, 32, 115, 105, 103, 110]
def zStr (ad : (Nat → Nat) × (Nat → Nat)) (b0 : Nat) (U : State) : Prop := ∀ j : Nat, j < 16 → vk_R (zSo j) (zSi j) (zSt j) (ad.1 j) U ∧ va_O "java/lang/String" (ad.1 j) (zA b0) U U.heap ∧ va_OF "java/lang/String" "coder" "B" (.int 0) (ad.1 j) (zA b0) U U.heap ∧ va_OF "java/lang/String" "value" "[B" (.ref (ad.2 j)) (ad.1 j) (zA b0) U U.heap ∧ va_T .byte (ad.2 j) (zSb j).length (fun k => .int ((zSb j).getD k 0)) (zA b0) U U.heap
/-- what holds throughout of tables, constants and statics -/
def zG (ad : (Nat → Nat) × (Nat → Nat)) (b0 : Nat) (U : State) : Prop :=
  (∀ w ∈ zTs, w.before #[] U = true) ∧ (∀ w ∈ zNs, va_Nw w U) ∧ va_AO "CheckRules$Rule" U ∧ zStr ad b0 U ∧ va_Z "java/lang/String" "COMPACT_STRINGS" "Z" (.int 1) (zA b0) U U.heap ∧ va_Zq "java/lang/Throwable" "UNASSIGNED_STACK" "[Ljava/lang/StackTraceElement;" (zA b0) U U.heap ∧ va_Zq "java/lang/Throwable" "SUPPRESSED_SENTINEL" "Ljava/util/List;" (zA b0) U U.heap ∧ va_Zq "jdk/internal/util/Preconditions" "SIOOBE_FORMATTER" "Ljava/util/function/BiFunction;" (zA b0) U U.heap
theorem zTs_good : ∀ w ∈ zTs, (w.onTables && w.keeps) = true ∨ ∃ ty, w = .arrayClass ty := fun w h => good_of_word (List.mem_filter.mp h).2
theorem zG_w {ad : (Nat → Nat) × (Nat → Nat)} {b0 : Nat} : zGw (zG ad b0) zTs := fun s args h w hw => word_at (State.WarmedH.refl s) (zTs_good w hw) (h.1 w hw)
theorem zG_n {ad : (Nat → Nat) × (Nat → Nat)} {b0 : Nat} {s : State} (h : zG ad b0 s) {w : Cond} (hw : w ∈ zNs) : va_Nw w s := h.2.1 w hw
theorem zG_ao {ad : (Nat → Nat) × (Nat → Nat)} {b0 : Nat} {s : State} (h : zG ad b0 s) : va_AO "CheckRules$Rule" s := h.2.2.1
theorem zG_ok {ad : (Nat → Nat) × (Nat → Nat)} {b0 : Nat} : zGok b0 (zG ad b0) := by
  intro s U hW hb hlow h
  obtain ⟨h1, h2, h3, h4, h5, h6, h7, h8⟩ := h
  have hq : ∀ a : Nat, a < s.heap.size → ¬ zA b0 a → U.heap[a]? = s.heap[a]? := fun a _ h => hlow a (Nat.not_le.mp h)
  have hal := hW.alike
  refine ⟨fun w hw => word_at hW (zTs_good w hw) (h1 w hw), fun w hw => ?_, va_AO.moved hal h3, fun j hj => ?_, (va_Z.moved hal h5).kept hq, (va_Zq.moved hal h6).kept hq, (va_Zq.moved hal h7).kept hq, (va_Zq.moved hal h8).kept hq⟩
  · have h := h2 w hw
    simp only [zNs, List.mem_cons, List.not_mem_nil, or_false] at hw
    rcases hw with rfl | rfl | rfl | rfl | rfl | rfl | rfl | rfl | rfl | rfl | rfl | rfl | rfl | rfl | rfl | rfl <;> first | exact va_Nw.warmF hW h | exact va_Nw.warmM hW h
  · obtain ⟨a1, a2, a3, a4, a5⟩ := h4 j hj
    exact ⟨a1.warm hW, (va_O.moved hal a2).kept hq, (va_OF.moved hal a3).kept hq, (va_OF.moved hal a4).kept hq, (va_T.moved hal a5).kept hq⟩
/-- the room of a call that goes d frames deep -/
abbrev zR (d mc ms : Nat) : Room := { frames := d, cells := mc, slots := ms, locals := 48 * d }
end
