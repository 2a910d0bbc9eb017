section
-- ===== PART A: goes FIRST, ahead of the names: the tables' words, and 'selects' of the private methods out of them =====
/-- a private method of a class that the tables say can be made, by its rows of tables_1 -/
def lw_okq (q : MethodName × Nat) : Prop := (q.1.cls ≠ "java/lang/invoke/MethodHandle" ∧ q.1.cls ≠ "java/lang/invoke/VarHandle") ∧ Cond.instantiable q.1.cls q.2 ∈ tables_1 ∧ Cond.privateMethod q.1 ∈ tables_1 ∧ Cond.instanceMethod q.1 ∈ tables_1
theorem lw_p0 : lw_okq (⟨"CheckRules", "find", "(I)LCheckRules$Rule;"⟩, 7) := ⟨⟨by decide +kernel, by decide +kernel⟩, List.mem_of_getElem? (i := 25) (by decide +kernel), List.mem_of_getElem? (i := 196) (by decide +kernel), List.mem_of_getElem? (i := 197) (by decide +kernel)⟩
theorem lw_p1 : lw_okq (⟨"CheckRules", "checkOne", "(LCheckRules$Rule;)V"⟩, 7) := ⟨⟨by decide +kernel, by decide +kernel⟩, List.mem_of_getElem? (i := 25) (by decide +kernel), List.mem_of_getElem? (i := 238) (by decide +kernel), List.mem_of_getElem? (i := 239) (by decide +kernel)⟩
theorem lw_p2 : lw_okq (⟨"CheckRules$Worker", "workOutNode", "(LCheckRules$Tree;I)V"⟩, 3) := ⟨⟨by decide +kernel, by decide +kernel⟩, List.mem_of_getElem? (i := 116) (by decide +kernel), List.mem_of_getElem? (i := 258) (by decide +kernel), List.mem_of_getElem? (i := 259) (by decide +kernel)⟩
theorem lw_p3 : lw_okq (⟨"CheckRules$Tree", "has", "(I)Z"⟩, 4) := ⟨⟨by decide +kernel, by decide +kernel⟩, List.mem_of_getElem? (i := 53) (by decide +kernel), List.mem_of_getElem? (i := 266) (by decide +kernel), List.mem_of_getElem? (i := 267) (by decide +kernel)⟩
theorem lw_p4 : lw_okq (⟨"CheckRules$Worker", "setOnAllLines", "(II)V"⟩, 3) := ⟨⟨by decide +kernel, by decide +kernel⟩, List.mem_of_getElem? (i := 116) (by decide +kernel), List.mem_of_getElem? (i := 274) (by decide +kernel), List.mem_of_getElem? (i := 275) (by decide +kernel)⟩
theorem lw_p5 : lw_okq (⟨"CheckRules$Worker", "setResult", "(III)V"⟩, 3) := ⟨⟨by decide +kernel, by decide +kernel⟩, List.mem_of_getElem? (i := 116) (by decide +kernel), List.mem_of_getElem? (i := 278) (by decide +kernel), List.mem_of_getElem? (i := 279) (by decide +kernel)⟩
theorem lw_p6 : lw_okq (⟨"CheckRules$Worker", "overLines", "(II)I"⟩, 3) := ⟨⟨by decide +kernel, by decide +kernel⟩, List.mem_of_getElem? (i := 116) (by decide +kernel), List.mem_of_getElem? (i := 294) (by decide +kernel), List.mem_of_getElem? (i := 295) (by decide +kernel)⟩
theorem lw_p7 : lw_okq (⟨"CheckRules$Worker", "resultOf", "(II)I"⟩, 3) := ⟨⟨by decide +kernel, by decide +kernel⟩, List.mem_of_getElem? (i := 116) (by decide +kernel), List.mem_of_getElem? (i := 298) (by decide +kernel), List.mem_of_getElem? (i := 299) (by decide +kernel)⟩
theorem lw_p8 : lw_okq (⟨"CheckRules", "findBad", "(IZ)I"⟩, 7) := ⟨⟨by decide +kernel, by decide +kernel⟩, List.mem_of_getElem? (i := 25) (by decide +kernel), List.mem_of_getElem? (i := 330) (by decide +kernel), List.mem_of_getElem? (i := 331) (by decide +kernel)⟩
theorem lw_p9 : lw_okq (⟨"CheckRules", "countBad", "(Z)I"⟩, 7) := ⟨⟨by decide +kernel, by decide +kernel⟩, List.mem_of_getElem? (i := 25) (by decide +kernel), List.mem_of_getElem? (i := 358) (by decide +kernel), List.mem_of_getElem? (i := 359) (by decide +kernel)⟩
theorem lw_p10 : lw_okq (⟨"CheckRules", "countNodes", "(I)I"⟩, 7) := ⟨⟨by decide +kernel, by decide +kernel⟩, List.mem_of_getElem? (i := 25) (by decide +kernel), List.mem_of_getElem? (i := 363) (by decide +kernel), List.mem_of_getElem? (i := 364) (by decide +kernel)⟩
theorem lw_p11 : lw_okq (⟨"java/lang/Throwable", "fillInStackTrace", "(I)Ljava/lang/Throwable;"⟩, 6) := ⟨⟨by decide +kernel, by decide +kernel⟩, List.mem_of_getElem? (i := 414) (by decide +kernel), List.mem_of_getElem? (i := 412) (by decide +kernel), List.mem_of_getElem? (i := 413) (by decide +kernel)⟩
theorem lw_p12 : lw_okq (⟨"CheckRules$Reader", "beginLevel", "(I)Z"⟩, 14) := ⟨⟨by decide +kernel, by decide +kernel⟩, List.mem_of_getElem? (i := 33) (by decide +kernel), List.mem_of_getElem? (i := 452) (by decide +kernel), List.mem_of_getElem? (i := 453) (by decide +kernel)⟩
theorem lw_p13 : lw_okq (⟨"CheckRules$Reader", "readToken", "()V"⟩, 14) := ⟨⟨by decide +kernel, by decide +kernel⟩, List.mem_of_getElem? (i := 33) (by decide +kernel), List.mem_of_getElem? (i := 457) (by decide +kernel), List.mem_of_getElem? (i := 458) (by decide +kernel)⟩
theorem lw_p14 : lw_okq (⟨"CheckRules$Reader", "readNumber", "(I)Z"⟩, 14) := ⟨⟨by decide +kernel, by decide +kernel⟩, List.mem_of_getElem? (i := 33) (by decide +kernel), List.mem_of_getElem? (i := 468) (by decide +kernel), List.mem_of_getElem? (i := 469) (by decide +kernel)⟩
theorem lw_p15 : lw_okq (⟨"CheckRules$Reader", "readWord", "()I"⟩, 14) := ⟨⟨by decide +kernel, by decide +kernel⟩, List.mem_of_getElem? (i := 33) (by decide +kernel), List.mem_of_getElem? (i := 475) (by decide +kernel), List.mem_of_getElem? (i := 476) (by decide +kernel)⟩
def lw_privs_1 : List (MethodName × Nat) := [(⟨"CheckRules", "find", "(I)LCheckRules$Rule;"⟩, 7), (⟨"CheckRules", "checkOne", "(LCheckRules$Rule;)V"⟩, 7), (⟨"CheckRules$Worker", "workOutNode", "(LCheckRules$Tree;I)V"⟩, 3), (⟨"CheckRules$Tree", "has", "(I)Z"⟩, 4), (⟨"CheckRules$Worker", "setOnAllLines", "(II)V"⟩, 3), (⟨"CheckRules$Worker", "setResult", "(III)V"⟩, 3), (⟨"CheckRules$Worker", "overLines", "(II)I"⟩, 3), (⟨"CheckRules$Worker", "resultOf", "(II)I"⟩, 3), (⟨"CheckRules", "findBad", "(IZ)I"⟩, 7), (⟨"CheckRules", "countBad", "(Z)I"⟩, 7), (⟨"CheckRules", "countNodes", "(I)I"⟩, 7), (⟨"java/lang/Throwable", "fillInStackTrace", "(I)Ljava/lang/Throwable;"⟩, 6), (⟨"CheckRules$Reader", "beginLevel", "(I)Z"⟩, 14), (⟨"CheckRules$Reader", "readToken", "()V"⟩, 14), (⟨"CheckRules$Reader", "readNumber", "(I)Z"⟩, 14), (⟨"CheckRules$Reader", "readWord", "()I"⟩, 14)]
theorem lw_r1 : ∀ q ∈ lw_privs_1, lw_okq q := List.forall_mem_cons.mpr ⟨lw_p0, List.forall_mem_cons.mpr ⟨lw_p1, List.forall_mem_cons.mpr ⟨lw_p2, List.forall_mem_cons.mpr ⟨lw_p3, List.forall_mem_cons.mpr ⟨lw_p4, List.forall_mem_cons.mpr ⟨lw_p5, List.forall_mem_cons.mpr ⟨lw_p6, List.forall_mem_cons.mpr ⟨lw_p7, List.forall_mem_cons.mpr ⟨lw_p8, List.forall_mem_cons.mpr ⟨lw_p9, List.forall_mem_cons.mpr ⟨lw_p10, List.forall_mem_cons.mpr ⟨lw_p11, List.forall_mem_cons.mpr ⟨lw_p12, List.forall_mem_cons.mpr ⟨lw_p13, List.forall_mem_cons.mpr ⟨lw_p14, List.forall_mem_cons.mpr ⟨lw_p15, fun _ h => absurd h List.not_mem_nil⟩⟩⟩⟩⟩⟩⟩⟩⟩⟩⟩⟩⟩⟩⟩⟩
theorem lw_p16 : lw_okq (⟨"CheckRules$Reader", "isWord", "(Ljava/lang/String;)Z"⟩, 14) := ⟨⟨by decide +kernel, by decide +kernel⟩, List.mem_of_getElem? (i := 33) (by decide +kernel), List.mem_of_getElem? (i := 480) (by decide +kernel), List.mem_of_getElem? (i := 481) (by decide +kernel)⟩
theorem lw_p17 : lw_okq (⟨"CheckRules$Reader", "takeToken", "()Z"⟩, 14) := ⟨⟨by decide +kernel, by decide +kernel⟩, List.mem_of_getElem? (i := 33) (by decide +kernel), List.mem_of_getElem? (i := 536) (by decide +kernel), List.mem_of_getElem? (i := 537) (by decide +kernel)⟩
theorem lw_p18 : lw_okq (⟨"CheckRules$Reader", "takePart", "()Z"⟩, 14) := ⟨⟨by decide +kernel, by decide +kernel⟩, List.mem_of_getElem? (i := 33) (by decide +kernel), List.mem_of_getElem? (i := 540) (by decide +kernel), List.mem_of_getElem? (i := 541) (by decide +kernel)⟩
theorem lw_p19 : lw_okq (⟨"CheckRules$Reader", "goDeeper", "()Z"⟩, 14) := ⟨⟨by decide +kernel, by decide +kernel⟩, List.mem_of_getElem? (i := 33) (by decide +kernel), List.mem_of_getElem? (i := 544) (by decide +kernel), List.mem_of_getElem? (i := 545) (by decide +kernel)⟩
theorem lw_p20 : lw_okq (⟨"CheckRules$Reader", "takeTerm", "()Z"⟩, 14) := ⟨⟨by decide +kernel, by decide +kernel⟩, List.mem_of_getElem? (i := 33) (by decide +kernel), List.mem_of_getElem? (i := 552) (by decide +kernel), List.mem_of_getElem? (i := 553) (by decide +kernel)⟩
theorem lw_p21 : lw_okq (⟨"CheckRules$Reader", "takeFieldOfSum", "()Z"⟩, 14) := ⟨⟨by decide +kernel, by decide +kernel⟩, List.mem_of_getElem? (i := 33) (by decide +kernel), List.mem_of_getElem? (i := 556) (by decide +kernel), List.mem_of_getElem? (i := 557) (by decide +kernel)⟩
theorem lw_p22 : lw_okq (⟨"CheckRules$Reader", "takeBehindTerm", "()Z"⟩, 14) := ⟨⟨by decide +kernel, by decide +kernel⟩, List.mem_of_getElem? (i := 33) (by decide +kernel), List.mem_of_getElem? (i := 564) (by decide +kernel), List.mem_of_getElem? (i := 565) (by decide +kernel)⟩
theorem lw_p23 : lw_okq (⟨"CheckRules$Reader", "kindOfToken", "()I"⟩, 14) := ⟨⟨by decide +kernel, by decide +kernel⟩, List.mem_of_getElem? (i := 33) (by decide +kernel), List.mem_of_getElem? (i := 568) (by decide +kernel), List.mem_of_getElem? (i := 569) (by decide +kernel)⟩
theorem lw_p24 : lw_okq (⟨"CheckRules$Reader", "compare", "()Z"⟩, 14) := ⟨⟨by decide +kernel, by decide +kernel⟩, List.mem_of_getElem? (i := 33) (by decide +kernel), List.mem_of_getElem? (i := 635) (by decide +kernel), List.mem_of_getElem? (i := 636) (by decide +kernel)⟩
theorem lw_p25 : lw_okq (⟨"CheckRules$Reader", "takeBehindPart", "()Z"⟩, 14) := ⟨⟨by decide +kernel, by decide +kernel⟩, List.mem_of_getElem? (i := 33) (by decide +kernel), List.mem_of_getElem? (i := 639) (by decide +kernel), List.mem_of_getElem? (i := 640) (by decide +kernel)⟩
theorem lw_p26 : lw_okq (⟨"CheckRules$Reader", "endLevel", "()Z"⟩, 14) := ⟨⟨by decide +kernel, by decide +kernel⟩, List.mem_of_getElem? (i := 33) (by decide +kernel), List.mem_of_getElem? (i := 643) (by decide +kernel), List.mem_of_getElem? (i := 644) (by decide +kernel)⟩
theorem lw_p27 : lw_okq (⟨"CheckRules$Printer", "printNode", "(LCheckRules$Tree;II)V"⟩, 1) := ⟨⟨by decide +kernel, by decide +kernel⟩, List.mem_of_getElem? (i := 147) (by decide +kernel), List.mem_of_getElem? (i := 800) (by decide +kernel), List.mem_of_getElem? (i := 801) (by decide +kernel)⟩
theorem lw_p28 : lw_okq (⟨"CheckRules$Printer", "printBelow", "(LCheckRules$Tree;III)V"⟩, 1) := ⟨⟨by decide +kernel, by decide +kernel⟩, List.mem_of_getElem? (i := 147) (by decide +kernel), List.mem_of_getElem? (i := 807) (by decide +kernel), List.mem_of_getElem? (i := 808) (by decide +kernel)⟩
theorem lw_p29 : lw_okq (⟨"CheckRules$Printer", "addWord", "(Ljava/lang/String;)V"⟩, 1) := ⟨⟨by decide +kernel, by decide +kernel⟩, List.mem_of_getElem? (i := 147) (by decide +kernel), List.mem_of_getElem? (i := 817) (by decide +kernel), List.mem_of_getElem? (i := 818) (by decide +kernel)⟩
theorem lw_p30 : lw_okq (⟨"CheckRules$Printer", "printTerm", "(II)V"⟩, 1) := ⟨⟨by decide +kernel, by decide +kernel⟩, List.mem_of_getElem? (i := 147) (by decide +kernel), List.mem_of_getElem? (i := 824) (by decide +kernel), List.mem_of_getElem? (i := 825) (by decide +kernel)⟩
theorem lw_p31 : lw_okq (⟨"CheckRules$Printer", "addNumber", "(I)V"⟩, 1) := ⟨⟨by decide +kernel, by decide +kernel⟩, List.mem_of_getElem? (i := 147) (by decide +kernel), List.mem_of_getElem? (i := 830) (by decide +kernel), List.mem_of_getElem? (i := 831) (by decide +kernel)⟩
def lw_privs_2 : List (MethodName × Nat) := [(⟨"CheckRules$Reader", "isWord", "(Ljava/lang/String;)Z"⟩, 14), (⟨"CheckRules$Reader", "takeToken", "()Z"⟩, 14), (⟨"CheckRules$Reader", "takePart", "()Z"⟩, 14), (⟨"CheckRules$Reader", "goDeeper", "()Z"⟩, 14), (⟨"CheckRules$Reader", "takeTerm", "()Z"⟩, 14), (⟨"CheckRules$Reader", "takeFieldOfSum", "()Z"⟩, 14), (⟨"CheckRules$Reader", "takeBehindTerm", "()Z"⟩, 14), (⟨"CheckRules$Reader", "kindOfToken", "()I"⟩, 14), (⟨"CheckRules$Reader", "compare", "()Z"⟩, 14), (⟨"CheckRules$Reader", "takeBehindPart", "()Z"⟩, 14), (⟨"CheckRules$Reader", "endLevel", "()Z"⟩, 14), (⟨"CheckRules$Printer", "printNode", "(LCheckRules$Tree;II)V"⟩, 1), (⟨"CheckRules$Printer", "printBelow", "(LCheckRules$Tree;III)V"⟩, 1), (⟨"CheckRules$Printer", "addWord", "(Ljava/lang/String;)V"⟩, 1), (⟨"CheckRules$Printer", "printTerm", "(II)V"⟩, 1), (⟨"CheckRules$Printer", "addNumber", "(I)V"⟩, 1)]
theorem lw_r2 : ∀ q ∈ lw_privs_2, lw_okq q := List.forall_mem_cons.mpr ⟨lw_p16, List.forall_mem_cons.mpr ⟨lw_p17, List.forall_mem_cons.mpr ⟨lw_p18, List.forall_mem_cons.mpr ⟨lw_p19, List.forall_mem_cons.mpr ⟨lw_p20, List.forall_mem_cons.mpr ⟨lw_p21, List.forall_mem_cons.mpr ⟨lw_p22, List.forall_mem_cons.mpr ⟨lw_p23, List.forall_mem_cons.mpr ⟨lw_p24, List.forall_mem_cons.mpr ⟨lw_p25, List.forall_mem_cons.mpr ⟨lw_p26, List.forall_mem_cons.mpr ⟨lw_p27, List.forall_mem_cons.mpr ⟨lw_p28, List.forall_mem_cons.mpr ⟨lw_p29, List.forall_mem_cons.mpr ⟨lw_p30, List.forall_mem_cons.mpr ⟨lw_p31, fun _ h => absurd h List.not_mem_nil⟩⟩⟩⟩⟩⟩⟩⟩⟩⟩⟩⟩⟩⟩⟩⟩
theorem lw_p32 : lw_okq (⟨"CheckRules$Printer", "addSignOf", "(I)V"⟩, 1) := ⟨⟨by decide +kernel, by decide +kernel⟩, List.mem_of_getElem? (i := 147) (by decide +kernel), List.mem_of_getElem? (i := 835) (by decide +kernel), List.mem_of_getElem? (i := 836) (by decide +kernel)⟩
theorem lw_p33 : lw_okq (⟨"CheckRulesModel", "read", "()I"⟩, 38) := ⟨⟨by decide +kernel, by decide +kernel⟩, List.mem_of_getElem? (i := 849) (by decide +kernel), List.mem_of_getElem? (i := 987) (by decide +kernel), List.mem_of_getElem? (i := 988) (by decide +kernel)⟩
theorem lw_p34 : lw_okq (⟨"CheckRulesModel", "begins", "()Z"⟩, 38) := ⟨⟨by decide +kernel, by decide +kernel⟩, List.mem_of_getElem? (i := 849) (by decide +kernel), List.mem_of_getElem? (i := 991) (by decide +kernel), List.mem_of_getElem? (i := 992) (by decide +kernel)⟩
theorem lw_p35 : lw_okq (⟨"CheckRulesModel", "look", "()I"⟩, 38) := ⟨⟨by decide +kernel, by decide +kernel⟩, List.mem_of_getElem? (i := 849) (by decide +kernel), List.mem_of_getElem? (i := 995) (by decide +kernel), List.mem_of_getElem? (i := 996) (by decide +kernel)⟩
theorem lw_p36 : lw_okq (⟨"CheckRulesModel", "word", "()I"⟩, 38) := ⟨⟨by decide +kernel, by decide +kernel⟩, List.mem_of_getElem? (i := 849) (by decide +kernel), List.mem_of_getElem? (i := 999) (by decide +kernel), List.mem_of_getElem? (i := 1000) (by decide +kernel)⟩
theorem lw_p37 : lw_okq (⟨"CheckRulesModel", "node", "(II)I"⟩, 38) := ⟨⟨by decide +kernel, by decide +kernel⟩, List.mem_of_getElem? (i := 849) (by decide +kernel), List.mem_of_getElem? (i := 1013) (by decide +kernel), List.mem_of_getElem? (i := 1014) (by decide +kernel)⟩
theorem lw_p38 : lw_okq (⟨"CheckRulesModel", "fail", "(I)V"⟩, 38) := ⟨⟨by decide +kernel, by decide +kernel⟩, List.mem_of_getElem? (i := 849) (by decide +kernel), List.mem_of_getElem? (i := 1017) (by decide +kernel), List.mem_of_getElem? (i := 1018) (by decide +kernel)⟩
theorem lw_p39 : lw_okq (⟨"CheckRulesModel", "enter", "(I)V"⟩, 38) := ⟨⟨by decide +kernel, by decide +kernel⟩, List.mem_of_getElem? (i := 849) (by decide +kernel), List.mem_of_getElem? (i := 1021) (by decide +kernel), List.mem_of_getElem? (i := 1022) (by decide +kernel)⟩
theorem lw_p40 : lw_okq (⟨"CheckRulesModel", "push", "(II)V"⟩, 38) := ⟨⟨by decide +kernel, by decide +kernel⟩, List.mem_of_getElem? (i := 849) (by decide +kernel), List.mem_of_getElem? (i := 1025) (by decide +kernel), List.mem_of_getElem? (i := 1026) (by decide +kernel)⟩
theorem lw_p41 : lw_okq (⟨"CheckRulesModel", "comparison", "()I"⟩, 38) := ⟨⟨by decide +kernel, by decide +kernel⟩, List.mem_of_getElem? (i := 849) (by decide +kernel), List.mem_of_getElem? (i := 1029) (by decide +kernel), List.mem_of_getElem? (i := 1030) (by decide +kernel)⟩
theorem lw_p42 : lw_okq (⟨"CheckRulesModel", "sum", "()I"⟩, 38) := ⟨⟨by decide +kernel, by decide +kernel⟩, List.mem_of_getElem? (i := 849) (by decide +kernel), List.mem_of_getElem? (i := 1033) (by decide +kernel), List.mem_of_getElem? (i := 1034) (by decide +kernel)⟩
theorem lw_p43 : lw_okq (⟨"CheckRulesModel", "term", "()I"⟩, 38) := ⟨⟨by decide +kernel, by decide +kernel⟩, List.mem_of_getElem? (i := 849) (by decide +kernel), List.mem_of_getElem? (i := 1037) (by decide +kernel), List.mem_of_getElem? (i := 1038) (by decide +kernel)⟩
theorem lw_p44 : lw_okq (⟨"CheckRulesModel", "digits", "(II)I"⟩, 38) := ⟨⟨by decide +kernel, by decide +kernel⟩, List.mem_of_getElem? (i := 849) (by decide +kernel), List.mem_of_getElem? (i := 1044) (by decide +kernel), List.mem_of_getElem? (i := 1045) (by decide +kernel)⟩
theorem lw_p45 : lw_okq (⟨"CheckRulesModel", "field", "()I"⟩, 38) := ⟨⟨by decide +kernel, by decide +kernel⟩, List.mem_of_getElem? (i := 849) (by decide +kernel), List.mem_of_getElem? (i := 1048) (by decide +kernel), List.mem_of_getElem? (i := 1049) (by decide +kernel)⟩
theorem lw_p46 : lw_okq (⟨"CheckRulesModel", "taken", "(I)I"⟩, 38) := ⟨⟨by decide +kernel, by decide +kernel⟩, List.mem_of_getElem? (i := 849) (by decide +kernel), List.mem_of_getElem? (i := 1052) (by decide +kernel), List.mem_of_getElem? (i := 1053) (by decide +kernel)⟩
theorem lw_p47 : lw_okq (⟨"CheckRulesModel", "or", "(I)I"⟩, 38) := ⟨⟨by decide +kernel, by decide +kernel⟩, List.mem_of_getElem? (i := 849) (by decide +kernel), List.mem_of_getElem? (i := 1056) (by decide +kernel), List.mem_of_getElem? (i := 1057) (by decide +kernel)⟩
def lw_privs_3 : List (MethodName × Nat) := [(⟨"CheckRules$Printer", "addSignOf", "(I)V"⟩, 1), (⟨"CheckRulesModel", "read", "()I"⟩, 38), (⟨"CheckRulesModel", "begins", "()Z"⟩, 38), (⟨"CheckRulesModel", "look", "()I"⟩, 38), (⟨"CheckRulesModel", "word", "()I"⟩, 38), (⟨"CheckRulesModel", "node", "(II)I"⟩, 38), (⟨"CheckRulesModel", "fail", "(I)V"⟩, 38), (⟨"CheckRulesModel", "enter", "(I)V"⟩, 38), (⟨"CheckRulesModel", "push", "(II)V"⟩, 38), (⟨"CheckRulesModel", "comparison", "()I"⟩, 38), (⟨"CheckRulesModel", "sum", "()I"⟩, 38), (⟨"CheckRulesModel", "term", "()I"⟩, 38), (⟨"CheckRulesModel", "digits", "(II)I"⟩, 38), (⟨"CheckRulesModel", "field", "()I"⟩, 38), (⟨"CheckRulesModel", "taken", "(I)I"⟩, 38), (⟨"CheckRulesModel", "or", "(I)I"⟩, 38)]
theorem lw_r3 : ∀ q ∈ lw_privs_3, lw_okq q := List.forall_mem_cons.mpr ⟨lw_p32, List.forall_mem_cons.mpr ⟨lw_p33, List.forall_mem_cons.mpr ⟨lw_p34, List.forall_mem_cons.mpr ⟨lw_p35, List.forall_mem_cons.mpr ⟨lw_p36, List.forall_mem_cons.mpr ⟨lw_p37, List.forall_mem_cons.mpr ⟨lw_p38, List.forall_mem_cons.mpr ⟨lw_p39, List.forall_mem_cons.mpr ⟨lw_p40, List.forall_mem_cons.mpr ⟨lw_p41, List.forall_mem_cons.mpr ⟨lw_p42, List.forall_mem_cons.mpr ⟨lw_p43, List.forall_mem_cons.mpr ⟨lw_p44, List.forall_mem_cons.mpr ⟨lw_p45, List.forall_mem_cons.mpr ⟨lw_p46, List.forall_mem_cons.mpr ⟨lw_p47, fun _ h => absurd h List.not_mem_nil⟩⟩⟩⟩⟩⟩⟩⟩⟩⟩⟩⟩⟩⟩⟩⟩
theorem lw_p48 : lw_okq (⟨"CheckRulesModel", "number", "(II)V"⟩, 38) := ⟨⟨by decide +kernel, by decide +kernel⟩, List.mem_of_getElem? (i := 849) (by decide +kernel), List.mem_of_getElem? (i := 1060) (by decide +kernel), List.mem_of_getElem? (i := 1061) (by decide +kernel)⟩
theorem lw_p49 : lw_okq (⟨"CheckRulesModel", "isRule", "(I)Z"⟩, 38) := ⟨⟨by decide +kernel, by decide +kernel⟩, List.mem_of_getElem? (i := 849) (by decide +kernel), List.mem_of_getElem? (i := 1068) (by decide +kernel), List.mem_of_getElem? (i := 1069) (by decide +kernel)⟩
theorem lw_p50 : lw_okq (⟨"CheckRulesModel", "work", "(I)I"⟩, 38) := ⟨⟨by decide +kernel, by decide +kernel⟩, List.mem_of_getElem? (i := 849) (by decide +kernel), List.mem_of_getElem? (i := 1095) (by decide +kernel), List.mem_of_getElem? (i := 1096) (by decide +kernel)⟩
theorem lw_p51 : lw_okq (⟨"CheckRulesModel", "workNode", "(III)V"⟩, 38) := ⟨⟨by decide +kernel, by decide +kernel⟩, List.mem_of_getElem? (i := 849) (by decide +kernel), List.mem_of_getElem? (i := 1099) (by decide +kernel), List.mem_of_getElem? (i := 1100) (by decide +kernel)⟩
theorem lw_p52 : lw_okq (⟨"CheckRulesModel", "workTerm", "(III)V"⟩, 38) := ⟨⟨by decide +kernel, by decide +kernel⟩, List.mem_of_getElem? (i := 849) (by decide +kernel), List.mem_of_getElem? (i := 1103) (by decide +kernel), List.mem_of_getElem? (i := 1104) (by decide +kernel)⟩
theorem lw_p53 : lw_okq (⟨"CheckRulesModel", "compared", "(III)I"⟩, 38) := ⟨⟨by decide +kernel, by decide +kernel⟩, List.mem_of_getElem? (i := 849) (by decide +kernel), List.mem_of_getElem? (i := 1107) (by decide +kernel), List.mem_of_getElem? (i := 1108) (by decide +kernel)⟩
theorem lw_p54 : lw_okq (⟨"CheckRulesModel", "over", "(II)I"⟩, 38) := ⟨⟨by decide +kernel, by decide +kernel⟩, List.mem_of_getElem? (i := 849) (by decide +kernel), List.mem_of_getElem? (i := 1111) (by decide +kernel), List.mem_of_getElem? (i := 1112) (by decide +kernel)⟩
theorem lw_p55 : lw_okq (⟨"CheckRulesModel", "isThere", "(I)Z"⟩, 38) := ⟨⟨by decide +kernel, by decide +kernel⟩, List.mem_of_getElem? (i := 849) (by decide +kernel), List.mem_of_getElem? (i := 1115) (by decide +kernel), List.mem_of_getElem? (i := 1116) (by decide +kernel)⟩
theorem lw_p56 : lw_okq (⟨"CheckRulesModel", "badAt", "(IZ)I"⟩, 38) := ⟨⟨by decide +kernel, by decide +kernel⟩, List.mem_of_getElem? (i := 849) (by decide +kernel), List.mem_of_getElem? (i := 1128) (by decide +kernel), List.mem_of_getElem? (i := 1129) (by decide +kernel)⟩
theorem lw_p57 : lw_okq (⟨"CheckRulesModel", "put", "(I)V"⟩, 38) := ⟨⟨by decide +kernel, by decide +kernel⟩, List.mem_of_getElem? (i := 849) (by decide +kernel), List.mem_of_getElem? (i := 1164) (by decide +kernel), List.mem_of_getElem? (i := 1165) (by decide +kernel)⟩
theorem lw_p58 : lw_okq (⟨"CheckRulesModel", "putTerm", "(I)V"⟩, 38) := ⟨⟨by decide +kernel, by decide +kernel⟩, List.mem_of_getElem? (i := 849) (by decide +kernel), List.mem_of_getElem? (i := 1168) (by decide +kernel), List.mem_of_getElem? (i := 1169) (by decide +kernel)⟩
theorem lw_p59 : lw_okq (⟨"CheckRulesModel", "putNumber", "(I)V"⟩, 38) := ⟨⟨by decide +kernel, by decide +kernel⟩, List.mem_of_getElem? (i := 849) (by decide +kernel), List.mem_of_getElem? (i := 1172) (by decide +kernel), List.mem_of_getElem? (i := 1173) (by decide +kernel)⟩
theorem lw_p60 : lw_okq (⟨"CheckRulesModel", "unfold", "(III)I"⟩, 38) := ⟨⟨by decide +kernel, by decide +kernel⟩, List.mem_of_getElem? (i := 849) (by decide +kernel), List.mem_of_getElem? (i := 1176) (by decide +kernel), List.mem_of_getElem? (i := 1177) (by decide +kernel)⟩
def lw_privs_4 : List (MethodName × Nat) := [(⟨"CheckRulesModel", "number", "(II)V"⟩, 38), (⟨"CheckRulesModel", "isRule", "(I)Z"⟩, 38), (⟨"CheckRulesModel", "work", "(I)I"⟩, 38), (⟨"CheckRulesModel", "workNode", "(III)V"⟩, 38), (⟨"CheckRulesModel", "workTerm", "(III)V"⟩, 38), (⟨"CheckRulesModel", "compared", "(III)I"⟩, 38), (⟨"CheckRulesModel", "over", "(II)I"⟩, 38), (⟨"CheckRulesModel", "isThere", "(I)Z"⟩, 38), (⟨"CheckRulesModel", "badAt", "(IZ)I"⟩, 38), (⟨"CheckRulesModel", "put", "(I)V"⟩, 38), (⟨"CheckRulesModel", "putTerm", "(I)V"⟩, 38), (⟨"CheckRulesModel", "putNumber", "(I)V"⟩, 38), (⟨"CheckRulesModel", "unfold", "(III)I"⟩, 38)]
theorem lw_r4 : ∀ q ∈ lw_privs_4, lw_okq q := List.forall_mem_cons.mpr ⟨lw_p48, List.forall_mem_cons.mpr ⟨lw_p49, List.forall_mem_cons.mpr ⟨lw_p50, List.forall_mem_cons.mpr ⟨lw_p51, List.forall_mem_cons.mpr ⟨lw_p52, List.forall_mem_cons.mpr ⟨lw_p53, List.forall_mem_cons.mpr ⟨lw_p54, List.forall_mem_cons.mpr ⟨lw_p55, List.forall_mem_cons.mpr ⟨lw_p56, List.forall_mem_cons.mpr ⟨lw_p57, List.forall_mem_cons.mpr ⟨lw_p58, List.forall_mem_cons.mpr ⟨lw_p59, List.forall_mem_cons.mpr ⟨lw_p60, fun _ h => absurd h List.not_mem_nil⟩⟩⟩⟩⟩⟩⟩⟩⟩⟩⟩⟩⟩
def lw_privs : List (MethodName × Nat) := lw_privs_1 ++ (lw_privs_2 ++ (lw_privs_3 ++ (lw_privs_4)))
def lw_tbl : List Cond := k2_sels lw_privs ++ tables_1
theorem lw_privs_ok : ∀ q ∈ lw_privs, lw_okq q := by
  show ∀ q ∈ lw_privs_1 ++ (lw_privs_2 ++ (lw_privs_3 ++ (lw_privs_4))), lw_okq q
  exact List.forall_mem_append.mpr ⟨lw_r1, List.forall_mem_append.mpr ⟨lw_r2, List.forall_mem_append.mpr ⟨lw_r3, lw_r4⟩⟩⟩
end
section
/-! Z: the walk over a heap that is a function. b0: where the cells of this run begin; N: the heap's size; f a: the cell at a (b0 ≤ a < N). -/
def zH (D : va_G) (cl : List vw_C) (b0 N : Nat) (f : Nat → va_E) (H : Heap) : Prop := H.size = N ∧ ∀ a : Nat, b0 ≤ a → a < N → va_at D cl (a, f a) H
def zL (ls : Array Slot) (nL : Nat) (lv : List (Nat × Value)) : Prop := lv_has ls nL lv
/-- a store at i hits no half of a listed long -/
def zok (lv : List (Nat × Value)) (i : Nat) : Bool := lv.all (fun q => !(q.1 + 1 == i && q.2.category == 2))
def zok2 (lv : List (Nat × Value)) (i : Nat) : Bool := lv.all (fun q => !(q.1 == i + 1) && !(q.1 + 1 == i && q.2.category == 2))
/-- the locals as a list: read, write -/
def zg : List (Nat × Value) → Nat → Option Value
  | [], _ => none
  | (j, v) :: t, i => if j = i then some v else zg t i
def zs (lv : List (Nat × Value)) (i : Nat) (v : Value) : List (Nat × Value) := if (lv.any fun q => q.1 == i) = true then lv.map (fun q => if q.1 = i then (i, v) else q) else lv ++ [(i, v)]
theorem zg_mem : ∀ {lv : List (Nat × Value)} {i : Nat} {v : Value}, zg lv i = some v → (i, v) ∈ lv
  | [], i, v, h => by cases h
  | (j, w) :: t, i, v, h => by
    unfold zg at h
    by_cases hj : j = i
    · rw [if_pos hj] at h
      cases h
      subst hj
      exact List.mem_cons_self
    · rw [if_neg hj] at h
      exact List.mem_cons_of_mem _ (zg_mem h)
theorem zL.get {ls : Array Slot} {nL : Nat} {lv : List (Nat × Value)} {i : Nat} {v : Value} (h : zL ls nL lv) (hg : zg lv i = some v) : ls[i]? = some (.val v) := h.2.2 (i, v) (zg_mem hg)
theorem zs_mem {lv : List (Nat × Value)} {i : Nat} {v : Value} {q : Nat × Value} (h : q ∈ zs lv i v) : q = (i, v) ∨ (q ∈ lv ∧ q.1 ≠ i) := by
  unfold zs at h
  by_cases ha : (lv.any fun q => q.1 == i) = true
  · rw [if_pos ha] at h
    obtain ⟨r, h1, h2⟩ := List.mem_map.mp h
    by_cases hr : r.1 = i
    · rw [if_pos hr] at h2
      exact Or.inl h2.symm
    · rw [if_neg hr] at h2
      subst h2
      exact Or.inr ⟨h1, hr⟩
  · rw [if_neg ha] at h
    rcases List.mem_append.mp h with h | h
    · refine Or.inr ⟨h, fun hi => ha ?_⟩
      exact List.any_eq_true.mpr ⟨q, h, by simp [hi]⟩
    · exact Or.inl (by simpa using h)
theorem zH.set {D : va_G} {cl : List vw_C} {b0 N : Nat} {f : Nat → va_E} {H H1 : Heap} (h : zH D cl b0 N f H) {a : Nat} {x : va_E} (hz : H1.size = H.size) (he : va_at D cl (a, x) H1) (ho : ∀ q : Nat, q ≠ a → H1[q]? = H[q]?) : zH D cl b0 N (va_up f a x) H1 := by
  refine ⟨hz.trans h.1, fun q h1 h2 => ?_⟩
  by_cases hq : q = a
  · subst hq
    rw [va_up_self]
    exact he
  · rw [va_up_ne _ _ hq]
    exact (h.2 q h1 h2).kept (ho q hq)
theorem zH.push {D : va_G} {cl : List vw_C} {b0 N : Nat} {f : Nat → va_E} {H H1 : Heap} (h : zH D cl b0 N f H) {x : va_E} (hz : H1.size = N + 1) (he : va_at D cl (N, x) H1) (ho : ∀ q : Nat, q < N → H1[q]? = H[q]?) : zH D cl b0 (N + 1) (va_up f N x) H1 := by
  refine ⟨hz, fun q h1 h2 => ?_⟩
  by_cases hq : q = N
  · subst hq
    rw [va_up_self]
    exact he
  · rw [va_up_ne _ _ hq]
    exact (h.2 q h1 (by omega)).kept (ho q (by omega))
/-- the frame: what lies below b0 stays -/
abbrev zA (b0 : Nat) : Nat → Prop := fun q => b0 ≤ q
theorem zS_put {b0 a i : Nat} {H0 H H1 : Heap} {locs : List Loc} (h : va_S (zA b0) H0 H locs) (z : H1.size = H.size) (o : ∀ q : Nat, q ≠ a → H1[q]? = H[q]?) (ha : b0 ≤ a) : va_S (zA b0) H0 H1 (locs ++ [⟨a, i⟩]) := by
  refine ⟨by rw [z]; exact h.1, fun q h1 h2 => ?_, fun l hl => ?_⟩
  · have hq : q ≠ a := fun e => h2 (by rw [e]; exact ha)
    rw [o q hq]
    exact h.2.1 q h1 h2
  · rcases List.mem_append.mp hl with hl | hl
    · exact h.2.2 l hl
    · rcases List.mem_singleton.mp hl with rfl
      exact ha
theorem zS_push {b0 N : Nat} {H0 H H1 : Heap} {locs : List Loc} (h : va_S (zA b0) H0 H locs) (hN : H.size = N) (z : H1.size = N + 1) (o : ∀ q : Nat, q < N → H1[q]? = H[q]?) : va_S (zA b0) H0 H1 locs := by
  refine ⟨by have := h.1; omega, fun q h1 h2 => ?_, h.2.2⟩
  rw [o q (by have := h.1; omega)]
  exact h.2.1 q h1 h2
/-- what a method's walk stands on -/
def zX (p : Program) (s : State) (m : MethodId) (args : Array Value) (meth : Method) (c : Code) (D : va_G) (cl : List vw_C) (tys : List (ClassId × FieldType)) (b0 : Nat) (G : State → Prop) (cc : ByteArray) (nL : Nat) (own : String) (Ts : List Cond) (ret : Option FieldType) : Prop :=
  p.tables.exec = Jvm.exec ∧ c.code = cc ∧ c.maxLocals = nL ∧ s.vm.findClass own = some m.cls ∧ (∀ w ∈ Ts, w.before args s = true) ∧ G s ∧ va_K D cl tys s ∧ meth.sig.returnType = ret ∧ meth.locks = false ∧ b0 ≤ s.heap.size
/-- the machine comes from here to a state with Q: pc, locals, operand stack, heap -/
def zW (p : Program) (l : Launch) (e : Env) (R : Room) (s : State) (m : MethodId) (args : Array Value) (below : List Frame) (meth : Method) (c : Code) (D : va_G) (cl : List vw_C) (b0 nL cells slots : Nat) (Q : State → Prop) (N : Nat) (f : Nat → va_E) (pc : Nat) (lv : List (Nat × Value)) (st : List Value) : Prop :=
  ∀ (H : Heap) (locs : List Loc) (ls : Array Slot), zH D cl b0 N f H → va_S (zA b0) s.heap H locs → zL ls nL lv → W p l e R s m args below meth c H locs cells slots Q (F0 m pc ls st)
/-- a call's end: an answer, a heap, and what is said of them -/
def zQ (D : va_G) (cl : List vw_C) (b0 : Nat) (P : Option Value → Nat → (Nat → va_E) → Prop) : Array Value → State → Outcome → State → Prop := fun _ u oc t => ∃ (r : Option Value) (N' : Nat) (f' : Nat → va_E), oc = .returned r ∧ zH D cl b0 N' f' t.heap ∧ (∀ q : Nat, q < b0 → t.heap[q]? = u.heap[q]?) ∧ u.heap.size ≤ N' ∧ P r N' f'
def zPc (D : va_G) (cl : List vw_C) (tys : List (ClassId × FieldType)) (b0 : Nat) (G : State → Prop) (As : List Value) (N : Nat) (f : Nat → va_E) : Array Value → State → Prop := va_Pc As (fun U => G U ∧ va_K D cl tys U ∧ zH D cl b0 N f U.heap ∧ b0 ≤ N)
/-- a contract: called with As in the heap (N, f), the method answers r and leaves (N', f') with P -/
def zM (l : Launch) (D : va_G) (cl : List vw_C) (tys : List (ClassId × FieldType)) (b0 : Nat) (G : State → Prop) (y : MethodName) (ws : List Cond) (rm : Room) (mc ms : Nat) (As : List Value) (N : Nat) (f : Nat → va_E) (P : Option Value → Nat → (Nat → va_E) → Prop) : Prop :=
  Met l y ws rm (zPc D cl tys b0 G As N f) (zQ D cl b0 P) mc ms (zA b0)
/-- G moves with the machine -/
def zGok (b0 : Nat) (G : State → Prop) : Prop := ∀ s U : State, s.WarmedH U.vm → b0 ≤ s.heap.size → (∀ q : Nat, q < b0 → U.heap[q]? = s.heap[q]?) → G s → G U
def zlv (As : List Value) : List (Nat × Value) := lv_args 0 As
theorem zL.sto {ls' : Array Slot} {nL : Nat} {lv : List (Nat × Value)} {i : Nat} {v : Value} (hz : zok lv i = true) (h1 : lv_has ls' nL ((i, v) :: lv.filter (fun q => !(q.1 == i) && !(q.1 + 1 == i && q.2.category == 2)))) : zL ls' nL (zs lv i v) := by
  refine ⟨h1.1, h1.2.1, fun q hq => ?_⟩
  rcases zs_mem hq with rfl | ⟨h2, h3⟩
  · exact h1.2.2 _ List.mem_cons_self
  · refine h1.2.2 q (List.mem_cons_of_mem _ (List.mem_filter.mpr ⟨h2, ?_⟩))
    have hc := List.all_eq_true.mp hz q h2
    simp only [Bool.and_eq_true] at hc ⊢
    exact ⟨by simp [h3], hc⟩
theorem zL.sto2 {ls' : Array Slot} {nL : Nat} {lv : List (Nat × Value)} {i : Nat} {v : Value} (hz : zok2 lv i = true) (h1 : lv_has ls' nL ((i, v) :: lv.filter (fun q => !(q.1 == i) && (!(q.1 == i + 1) && !(q.1 + 1 == i && q.2.category == 2))))) : zL ls' nL (zs lv i v) := by
  refine ⟨h1.1, h1.2.1, fun q hq => ?_⟩
  rcases zs_mem hq with rfl | ⟨h2, h3⟩
  · exact h1.2.2 _ List.mem_cons_self
  · refine h1.2.2 q (List.mem_cons_of_mem _ (List.mem_filter.mpr ⟨h2, ?_⟩))
    have hc := List.all_eq_true.mp hz q h2
    simp only [Bool.and_eq_true] at hc ⊢
    exact ⟨by simp [h3], hc⟩
theorem zP1 {D : va_G} {cl : List vw_C} {q : Nat × va_E} {H : Heap} (h : va_at D cl q H) : va_P D cl [q] H := by
  intro k r hk
  match k, hk with
  | 0, hk => cases hk; exact h
  | k + 1, hk => simp at hk
theorem zlow {b0 : Nat} {s : State} {H : Heap} {locs : List Loc} (hb : b0 ≤ s.heap.size) (hS : va_S (zA b0) s.heap H locs) : ∀ q : Nat, q < b0 → H[q]? = s.heap[q]? := fun q hq => hS.2.1 q (Nat.lt_of_lt_of_le hq hb) (Nat.not_le.mpr hq)
theorem zblind {D : va_G} {cl : List vw_C} {tys : List (ClassId × FieldType)} {b0 : Nat} {G : State → Prop} {As : List Value} {N : Nat} {f : Nat → va_E} (hg : zGok b0 G) : FrameBlind (zPc D cl tys b0 G As N f) := by
  intro a U g mk h
  obtain ⟨h1, h2, h3, h4, h5⟩ := h
  exact ⟨h1, hg U (U.calling g mk a) (State.WarmedH.refl U) (by rw [h4.1]; exact h5) (fun _ _ => rfl) h2, va_K.moved (u := U) (U := U.calling g mk a) (Vm.Alike.refl U.vm) h3, h4, h5⟩
section ZZ
variable {p : Program} {l : Launch} {e : Env} {R : Room} {s : State} {m : MethodId} {args : Array Value} {below : List Frame} {meth : Method} {c : Code} {cells slots : Nat} {Q : State → Prop} {D : va_G} {cl : List vw_C} {tys : List (ClassId × FieldType)} {b0 : Nat} {G : State → Prop} {cc : ByteArray} {nL : Nat} {own : String} {Ts : List Cond} {ret : Option FieldType} {N : Nat} {f : Nat → va_E} {pc : Nat} {lv : List (Nat × Value)} {st : List Value}
theorem zW.widen {k n : Nat} (h1 : cells ≤ k) (h2 : slots ≤ n) (kk : zW p l e R s m args below meth c D cl b0 nL k n Q N f pc lv st) : zW p l e R s m args below meth c D cl b0 nL cells slots Q N f pc lv st := fun H locs ls hH hS hL => W.widen h1 h2 (kk H locs ls hH hS hL)
theorem zW.heap {N' : Nat} {f' : Nat → va_E} (h1 : N = N') (h2 : f = f') (kk : zW p l e R s m args below meth c D cl b0 nL cells slots Q N' f' pc lv st) : zW p l e R s m args below meth c D cl b0 nL cells slots Q N f pc lv st := by subst h1; subst h2; exact kk
theorem zW.loc {lv' : List (Nat × Value)} (h : ∀ q ∈ lv', q ∈ lv) (kk : zW p l e R s m args below meth c D cl b0 nL cells slots Q N f pc lv' st) : zW p l e R s m args below meth c D cl b0 nL cells slots Q N f pc lv st := fun H locs ls hH hS hL => kk H locs ls hH hS ⟨hL.1, hL.2.1, fun q hq => hL.2.2 q (h q hq)⟩
theorem z_iconst (X : zX p s m args meth c D cl tys b0 G cc nL own Ts ret) {n : Int} (hdg : decode cc pc = .ok (.iconst n, 1)) {v : Int32} (hv : Int32.ofInt n = v) (k : zW p l e R s m args below meth c D cl b0 nL cells slots Q N f (pc + 1) lv (.int v :: st)) : zW p l e R s m args below meth c D cl b0 nL cells slots Q N f pc lv st := fun H locs ls hH hS hL => lv_iconst X.1 X.2.1 hdg hv (k H locs ls hH hS hL)
theorem z_bipush (X : zX p s m args meth c D cl tys b0 G cc nL own Ts ret) {n : Int} (hdg : decode cc pc = .ok (.bipush n, 2)) {v : Int32} (hv : (Int8.ofInt n).toInt32 = v) (k : zW p l e R s m args below meth c D cl b0 nL cells slots Q N f (pc + 2) lv (.int v :: st)) : zW p l e R s m args below meth c D cl b0 nL cells slots Q N f pc lv st := fun H locs ls hH hS hL => lv_bipush X.1 X.2.1 hdg hv (k H locs ls hH hS hL)
theorem z_sipush (X : zX p s m args meth c D cl tys b0 G cc nL own Ts ret) {n : Int} (hdg : decode cc pc = .ok (.sipush n, 3)) {v : Int32} (hv : (Int16.ofInt n).toInt32 = v) (k : zW p l e R s m args below meth c D cl b0 nL cells slots Q N f (pc + 3) lv (.int v :: st)) : zW p l e R s m args below meth c D cl b0 nL cells slots Q N f pc lv st := fun H locs ls hH hS hL => lv_sipush X.1 X.2.1 hdg hv (k H locs ls hH hS hL)
theorem z_iload_n (X : zX p s m args meth c D cl tys b0 G cc nL own Ts ret) {k : Fin 4} {x : Int32} (hdg : decode cc pc = .ok (.iload_n k, 1)) (hg : zg lv (k : Nat) = some (.int x)) (k : zW p l e R s m args below meth c D cl b0 nL cells slots Q N f (pc + 1) lv (.int x :: st)) : zW p l e R s m args below meth c D cl b0 nL cells slots Q N f pc lv st := fun H locs ls hH hS hL => lv_iload_n X.1 X.2.1 hdg rfl (hL.get hg) (k H locs ls hH hS hL)
theorem z_iload (X : zX p s m args meth c D cl tys b0 G cc nL own Ts ret) {i : Nat} {x : Int32} (hdg : decode cc pc = .ok (.iload i, 2)) (hg : zg lv i = some (.int x)) (k : zW p l e R s m args below meth c D cl b0 nL cells slots Q N f (pc + 2) lv (.int x :: st)) : zW p l e R s m args below meth c D cl b0 nL cells slots Q N f pc lv st := fun H locs ls hH hS hL => lv_iload X.1 X.2.1 hdg (hL.get hg) (k H locs ls hH hS hL)
theorem z_aload_n (X : zX p s m args meth c D cl tys b0 G cc nL own Ts ret) {k : Fin 4} {x : Nat} (hdg : decode cc pc = .ok (.aload_n k, 1)) (hg : zg lv (k : Nat) = some (.ref x)) (k : zW p l e R s m args below meth c D cl b0 nL cells slots Q N f (pc + 1) lv (.ref x :: st)) : zW p l e R s m args below meth c D cl b0 nL cells slots Q N f pc lv st := fun H locs ls hH hS hL => lv_aload_n X.1 X.2.1 hdg rfl (hL.get hg) (k H locs ls hH hS hL)
theorem z_aload (X : zX p s m args meth c D cl tys b0 G cc nL own Ts ret) {i : Nat} {x : Nat} (hdg : decode cc pc = .ok (.aload i, 2)) (hg : zg lv i = some (.ref x)) (k : zW p l e R s m args below meth c D cl b0 nL cells slots Q N f (pc + 2) lv (.ref x :: st)) : zW p l e R s m args below meth c D cl b0 nL cells slots Q N f pc lv st := fun H locs ls hH hS hL => lv_aload X.1 X.2.1 hdg (hL.get hg) (k H locs ls hH hS hL)
theorem z_aload_nN (X : zX p s m args meth c D cl tys b0 G cc nL own Ts ret) {k : Fin 4} (hdg : decode cc pc = .ok (.aload_n k, 1)) (hg : zg lv (k : Nat) = some .null) (k : zW p l e R s m args below meth c D cl b0 nL cells slots Q N f (pc + 1) lv (.null :: st)) : zW p l e R s m args below meth c D cl b0 nL cells slots Q N f pc lv st := fun H locs ls hH hS hL => lv_aload_nN X.1 X.2.1 hdg rfl (hL.get hg) (k H locs ls hH hS hL)
theorem z_aloadN (X : zX p s m args meth c D cl tys b0 G cc nL own Ts ret) {i : Nat} (hdg : decode cc pc = .ok (.aload i, 2)) (hg : zg lv i = some .null) (k : zW p l e R s m args below meth c D cl b0 nL cells slots Q N f (pc + 2) lv (.null :: st)) : zW p l e R s m args below meth c D cl b0 nL cells slots Q N f pc lv st := fun H locs ls hH hS hL => lv_aloadN X.1 X.2.1 hdg (hL.get hg) (k H locs ls hH hS hL)
theorem z_iadd (X : zX p s m args meth c D cl tys b0 G cc nL own Ts ret) {x y : Int32} (hdg : decode cc pc = .ok (.iadd, 1))  (k : zW p l e R s m args below meth c D cl b0 nL cells slots Q N f (pc + 1) lv (.int (x + y) :: st)) : zW p l e R s m args below meth c D cl b0 nL cells slots Q N f pc lv (.int y :: .int x :: st) := fun H locs ls hH hS hL => lv_iadd X.1 X.2.1 hdg  (k H locs ls hH hS hL)
theorem z_isub (X : zX p s m args meth c D cl tys b0 G cc nL own Ts ret) {x y : Int32} (hdg : decode cc pc = .ok (.isub, 1))  (k : zW p l e R s m args below meth c D cl b0 nL cells slots Q N f (pc + 1) lv (.int (x - y) :: st)) : zW p l e R s m args below meth c D cl b0 nL cells slots Q N f pc lv (.int y :: .int x :: st) := fun H locs ls hH hS hL => lv_isub X.1 X.2.1 hdg  (k H locs ls hH hS hL)
theorem z_imul (X : zX p s m args meth c D cl tys b0 G cc nL own Ts ret) {x y : Int32} (hdg : decode cc pc = .ok (.imul, 1))  (k : zW p l e R s m args below meth c D cl b0 nL cells slots Q N f (pc + 1) lv (.int (x * y) :: st)) : zW p l e R s m args below meth c D cl b0 nL cells slots Q N f pc lv (.int y :: .int x :: st) := fun H locs ls hH hS hL => lv_imul X.1 X.2.1 hdg  (k H locs ls hH hS hL)
theorem z_iand (X : zX p s m args meth c D cl tys b0 G cc nL own Ts ret) {x y : Int32} (hdg : decode cc pc = .ok (.iand, 1))  (k : zW p l e R s m args below meth c D cl b0 nL cells slots Q N f (pc + 1) lv (.int (x &&& y) :: st)) : zW p l e R s m args below meth c D cl b0 nL cells slots Q N f pc lv (.int y :: .int x :: st) := fun H locs ls hH hS hL => lv_iand X.1 X.2.1 hdg  (k H locs ls hH hS hL)
theorem z_ior (X : zX p s m args meth c D cl tys b0 G cc nL own Ts ret) {x y : Int32} (hdg : decode cc pc = .ok (.ior, 1))  (k : zW p l e R s m args below meth c D cl b0 nL cells slots Q N f (pc + 1) lv (.int (x ||| y) :: st)) : zW p l e R s m args below meth c D cl b0 nL cells slots Q N f pc lv (.int y :: .int x :: st) := fun H locs ls hH hS hL => lv_ior X.1 X.2.1 hdg  (k H locs ls hH hS hL)
theorem z_ixor (X : zX p s m args meth c D cl tys b0 G cc nL own Ts ret) {x y : Int32} (hdg : decode cc pc = .ok (.ixor, 1))  (k : zW p l e R s m args below meth c D cl b0 nL cells slots Q N f (pc + 1) lv (.int (x ^^^ y) :: st)) : zW p l e R s m args below meth c D cl b0 nL cells slots Q N f pc lv (.int y :: .int x :: st) := fun H locs ls hH hS hL => lv_ixor X.1 X.2.1 hdg  (k H locs ls hH hS hL)
theorem z_ishl (X : zX p s m args meth c D cl tys b0 G cc nL own Ts ret) {x y : Int32} (hdg : decode cc pc = .ok (.ishl, 1))  (k : zW p l e R s m args below meth c D cl b0 nL cells slots Q N f (pc + 1) lv (.int (x <<< (y &&& 31)) :: st)) : zW p l e R s m args below meth c D cl b0 nL cells slots Q N f pc lv (.int y :: .int x :: st) := fun H locs ls hH hS hL => lv_ishl X.1 X.2.1 hdg  (k H locs ls hH hS hL)
theorem z_ishr (X : zX p s m args meth c D cl tys b0 G cc nL own Ts ret) {x y : Int32} (hdg : decode cc pc = .ok (.ishr, 1))  (k : zW p l e R s m args below meth c D cl b0 nL cells slots Q N f (pc + 1) lv (.int (x >>> (y &&& 31)) :: st)) : zW p l e R s m args below meth c D cl b0 nL cells slots Q N f pc lv (.int y :: .int x :: st) := fun H locs ls hH hS hL => lv_ishr X.1 X.2.1 hdg  (k H locs ls hH hS hL)
theorem z_idiv (X : zX p s m args meth c D cl tys b0 G cc nL own Ts ret) {x y : Int32} (hdg : decode cc pc = .ok (.idiv, 1)) (hne : ¬ y = 0) (k : zW p l e R s m args below meth c D cl b0 nL cells slots Q N f (pc + 1) lv (.int (x / y) :: st)) : zW p l e R s m args below meth c D cl b0 nL cells slots Q N f pc lv (.int y :: .int x :: st) := fun H locs ls hH hS hL => lv_idiv X.1 X.2.1 hdg hne (k H locs ls hH hS hL)
theorem z_irem (X : zX p s m args meth c D cl tys b0 G cc nL own Ts ret) {x y : Int32} (hdg : decode cc pc = .ok (.irem, 1)) (hne : ¬ y = 0) (k : zW p l e R s m args below meth c D cl b0 nL cells slots Q N f (pc + 1) lv (.int (x - x / y * y) :: st)) : zW p l e R s m args below meth c D cl b0 nL cells slots Q N f pc lv (.int y :: .int x :: st) := fun H locs ls hH hS hL => lv_irem X.1 X.2.1 hdg hne (k H locs ls hH hS hL)
theorem z_ineg (X : zX p s m args meth c D cl tys b0 G cc nL own Ts ret) {x : Int32} (hdg : decode cc pc = .ok (.ineg, 1))  (k : zW p l e R s m args below meth c D cl b0 nL cells slots Q N f (pc + 1) lv (.int (-x) :: st)) : zW p l e R s m args below meth c D cl b0 nL cells slots Q N f pc lv (.int x :: st) := fun H locs ls hH hS hL => lv_ineg X.1 X.2.1 hdg  (k H locs ls hH hS hL)
theorem z_i2l (X : zX p s m args meth c D cl tys b0 G cc nL own Ts ret) {x : Int32} (hdg : decode cc pc = .ok (.i2l, 1)) {v : Int64} (hv : x.toInt64 = v) (k : zW p l e R s m args below meth c D cl b0 nL cells slots Q N f (pc + 1) lv (.long v :: st)) : zW p l e R s m args below meth c D cl b0 nL cells slots Q N f pc lv (.int x :: st) := fun H locs ls hH hS hL => lv_i2l X.1 X.2.1 hdg hv (k H locs ls hH hS hL)
theorem z_i2c (X : zX p s m args meth c D cl tys b0 G cc nL own Ts ret) {x : Int32} (hdg : decode cc pc = .ok (.i2c, 1)) {v : Int32} (hv : (x.toUInt32 % 65536).toInt32 = v) (k : zW p l e R s m args below meth c D cl b0 nL cells slots Q N f (pc + 1) lv (.int v :: st)) : zW p l e R s m args below meth c D cl b0 nL cells slots Q N f pc lv (.int x :: st) := fun H locs ls hH hS hL => lv_i2c X.1 X.2.1 hdg hv (k H locs ls hH hS hL)
theorem z_i2b (X : zX p s m args meth c D cl tys b0 G cc nL own Ts ret) {x : Int32} (hdg : decode cc pc = .ok (.i2b, 1)) {v : Int32} (hv : x.toInt8.toInt32 = v) (k : zW p l e R s m args below meth c D cl b0 nL cells slots Q N f (pc + 1) lv (.int v :: st)) : zW p l e R s m args below meth c D cl b0 nL cells slots Q N f pc lv (.int x :: st) := fun H locs ls hH hS hL => lv_i2b X.1 X.2.1 hdg hv (k H locs ls hH hS hL)
theorem z_dup (X : zX p s m args meth c D cl tys b0 G cc nL own Ts ret) {v : Value} (hdg : decode cc pc = .ok (.dup, 1)) (hv : v.category = 1) (k : zW p l e R s m args below meth c D cl b0 nL cells slots Q N f (pc + 1) lv (v :: v :: st)) : zW p l e R s m args below meth c D cl b0 nL cells slots Q N f pc lv (v :: st) := fun H locs ls hH hS hL => lv_dup X.1 X.2.1 hdg hv (k H locs ls hH hS hL)
theorem z_pop (X : zX p s m args meth c D cl tys b0 G cc nL own Ts ret) {v : Value} (hdg : decode cc pc = .ok (.pop, 1)) (hv : v.category = 1) (k : zW p l e R s m args below meth c D cl b0 nL cells slots Q N f (pc + 1) lv st) : zW p l e R s m args below meth c D cl b0 nL cells slots Q N f pc lv (v :: st) := fun H locs ls hH hS hL => lv_pop X.1 X.2.1 hdg hv (k H locs ls hH hS hL)
theorem z_dup_x1 (X : zX p s m args meth c D cl tys b0 G cc nL own Ts ret) {v w : Value} (hdg : decode cc pc = .ok (.dup_x1, 1)) (hv : v.category = 1) (hw : w.category = 1) (k : zW p l e R s m args below meth c D cl b0 nL cells slots Q N f (pc + 1) lv (v :: w :: v :: st)) : zW p l e R s m args below meth c D cl b0 nL cells slots Q N f pc lv (v :: w :: st) := fun H locs ls hH hS hL => lv_dup_x1 X.1 X.2.1 hdg hv hw (k H locs ls hH hS hL)
theorem z_dup_x2 (X : zX p s m args meth c D cl tys b0 G cc nL own Ts ret) {v w u : Value} (hdg : decode cc pc = .ok (.dup_x2, 1)) (hv : v.category = 1) (hw : w.category = 1) (hu : u.category = 1) (k : zW p l e R s m args below meth c D cl b0 nL cells slots Q N f (pc + 1) lv (v :: w :: u :: v :: st)) : zW p l e R s m args below meth c D cl b0 nL cells slots Q N f pc lv (v :: w :: u :: st) := fun H locs ls hH hS hL => lv_dup_x2 X.1 X.2.1 hdg hv hw hu (k H locs ls hH hS hL)
theorem z_dup2 (X : zX p s m args meth c D cl tys b0 G cc nL own Ts ret) {v w : Value} (hdg : decode cc pc = .ok (.dup2, 1)) (hv : v.category = 1) (hw : w.category = 1) (k : zW p l e R s m args below meth c D cl b0 nL cells slots Q N f (pc + 1) lv (v :: w :: v :: w :: st)) : zW p l e R s m args below meth c D cl b0 nL cells slots Q N f pc lv (v :: w :: st) := fun H locs ls hH hS hL => lv_dup2_11 X.1 X.2.1 hdg hv hw (k H locs ls hH hS hL)
theorem z_null (X : zX p s m args meth c D cl tys b0 G cc nL own Ts ret)  (hdg : decode cc pc = .ok (.aconst_null, 1))  (k : zW p l e R s m args below meth c D cl b0 nL cells slots Q N f (pc + 1) lv (.null :: st)) : zW p l e R s m args below meth c D cl b0 nL cells slots Q N f pc lv st := fun H locs ls hH hS hL => lv_null X.1 X.2.1 hdg  (k H locs ls hH hS hL)
theorem z_if_eq (X : zX p s m args meth c D cl tys b0 G cc nL own Ts ret) {x : Int32} {off : Int} (tgt : Nat) (hdg : decode cc pc = .ok (.ifCond .eq off, 3)) (ht : (pc : Int) + off = (tgt : Int)) (kt : x = 0 → zW p l e R s m args below meth c D cl b0 nL cells slots Q N f tgt lv st) (kf : ¬ x = 0 → zW p l e R s m args below meth c D cl b0 nL cells slots Q N f (pc + 3) lv st) : zW p l e R s m args below meth c D cl b0 nL cells slots Q N f pc lv (.int x :: st) := fun H locs ls hH hS hL => lv_if_eq X.1 X.2.1 hdg ht (fun q => kt q H locs ls hH hS hL) (fun q => kf q H locs ls hH hS hL)
theorem z_icmp_eq (X : zX p s m args meth c D cl tys b0 G cc nL own Ts ret) {x y : Int32} {off : Int} (tgt : Nat) (hdg : decode cc pc = .ok (.if_icmp .eq off, 3)) (ht : (pc : Int) + off = (tgt : Int)) (kt : x = y → zW p l e R s m args below meth c D cl b0 nL cells slots Q N f tgt lv st) (kf : ¬ x = y → zW p l e R s m args below meth c D cl b0 nL cells slots Q N f (pc + 3) lv st) : zW p l e R s m args below meth c D cl b0 nL cells slots Q N f pc lv (.int y :: .int x :: st) := fun H locs ls hH hS hL => lv_icmp_eq X.1 X.2.1 hdg ht (fun q => kt q H locs ls hH hS hL) (fun q => kf q H locs ls hH hS hL)
theorem z_if_ne (X : zX p s m args meth c D cl tys b0 G cc nL own Ts ret) {x : Int32} {off : Int} (tgt : Nat) (hdg : decode cc pc = .ok (.ifCond .ne off, 3)) (ht : (pc : Int) + off = (tgt : Int)) (kt : ¬ x = 0 → zW p l e R s m args below meth c D cl b0 nL cells slots Q N f tgt lv st) (kf : x = 0 → zW p l e R s m args below meth c D cl b0 nL cells slots Q N f (pc + 3) lv st) : zW p l e R s m args below meth c D cl b0 nL cells slots Q N f pc lv (.int x :: st) := fun H locs ls hH hS hL => lv_if_ne X.1 X.2.1 hdg ht (fun q => kt q H locs ls hH hS hL) (fun q => kf q H locs ls hH hS hL)
theorem z_icmp_ne (X : zX p s m args meth c D cl tys b0 G cc nL own Ts ret) {x y : Int32} {off : Int} (tgt : Nat) (hdg : decode cc pc = .ok (.if_icmp .ne off, 3)) (ht : (pc : Int) + off = (tgt : Int)) (kt : ¬ x = y → zW p l e R s m args below meth c D cl b0 nL cells slots Q N f tgt lv st) (kf : x = y → zW p l e R s m args below meth c D cl b0 nL cells slots Q N f (pc + 3) lv st) : zW p l e R s m args below meth c D cl b0 nL cells slots Q N f pc lv (.int y :: .int x :: st) := fun H locs ls hH hS hL => lv_icmp_ne X.1 X.2.1 hdg ht (fun q => kt q H locs ls hH hS hL) (fun q => kf q H locs ls hH hS hL)
theorem z_if_lt (X : zX p s m args meth c D cl tys b0 G cc nL own Ts ret) {x : Int32} {off : Int} (tgt : Nat) (hdg : decode cc pc = .ok (.ifCond .lt off, 3)) (ht : (pc : Int) + off = (tgt : Int)) (kt : x < 0 → zW p l e R s m args below meth c D cl b0 nL cells slots Q N f tgt lv st) (kf : ¬ x < 0 → zW p l e R s m args below meth c D cl b0 nL cells slots Q N f (pc + 3) lv st) : zW p l e R s m args below meth c D cl b0 nL cells slots Q N f pc lv (.int x :: st) := fun H locs ls hH hS hL => lv_if_lt X.1 X.2.1 hdg ht (fun q => kt q H locs ls hH hS hL) (fun q => kf q H locs ls hH hS hL)
theorem z_icmp_lt (X : zX p s m args meth c D cl tys b0 G cc nL own Ts ret) {x y : Int32} {off : Int} (tgt : Nat) (hdg : decode cc pc = .ok (.if_icmp .lt off, 3)) (ht : (pc : Int) + off = (tgt : Int)) (kt : x < y → zW p l e R s m args below meth c D cl b0 nL cells slots Q N f tgt lv st) (kf : ¬ x < y → zW p l e R s m args below meth c D cl b0 nL cells slots Q N f (pc + 3) lv st) : zW p l e R s m args below meth c D cl b0 nL cells slots Q N f pc lv (.int y :: .int x :: st) := fun H locs ls hH hS hL => lv_icmp_lt X.1 X.2.1 hdg ht (fun q => kt q H locs ls hH hS hL) (fun q => kf q H locs ls hH hS hL)
theorem z_if_ge (X : zX p s m args meth c D cl tys b0 G cc nL own Ts ret) {x : Int32} {off : Int} (tgt : Nat) (hdg : decode cc pc = .ok (.ifCond .ge off, 3)) (ht : (pc : Int) + off = (tgt : Int)) (kt : 0 ≤ x → zW p l e R s m args below meth c D cl b0 nL cells slots Q N f tgt lv st) (kf : ¬ 0 ≤ x → zW p l e R s m args below meth c D cl b0 nL cells slots Q N f (pc + 3) lv st) : zW p l e R s m args below meth c D cl b0 nL cells slots Q N f pc lv (.int x :: st) := fun H locs ls hH hS hL => lv_if_ge X.1 X.2.1 hdg ht (fun q => kt q H locs ls hH hS hL) (fun q => kf q H locs ls hH hS hL)
theorem z_icmp_ge (X : zX p s m args meth c D cl tys b0 G cc nL own Ts ret) {x y : Int32} {off : Int} (tgt : Nat) (hdg : decode cc pc = .ok (.if_icmp .ge off, 3)) (ht : (pc : Int) + off = (tgt : Int)) (kt : y ≤ x → zW p l e R s m args below meth c D cl b0 nL cells slots Q N f tgt lv st) (kf : ¬ y ≤ x → zW p l e R s m args below meth c D cl b0 nL cells slots Q N f (pc + 3) lv st) : zW p l e R s m args below meth c D cl b0 nL cells slots Q N f pc lv (.int y :: .int x :: st) := fun H locs ls hH hS hL => lv_icmp_ge X.1 X.2.1 hdg ht (fun q => kt q H locs ls hH hS hL) (fun q => kf q H locs ls hH hS hL)
theorem z_if_gt (X : zX p s m args meth c D cl tys b0 G cc nL own Ts ret) {x : Int32} {off : Int} (tgt : Nat) (hdg : decode cc pc = .ok (.ifCond .gt off, 3)) (ht : (pc : Int) + off = (tgt : Int)) (kt : 0 < x → zW p l e R s m args below meth c D cl b0 nL cells slots Q N f tgt lv st) (kf : ¬ 0 < x → zW p l e R s m args below meth c D cl b0 nL cells slots Q N f (pc + 3) lv st) : zW p l e R s m args below meth c D cl b0 nL cells slots Q N f pc lv (.int x :: st) := fun H locs ls hH hS hL => lv_if_gt X.1 X.2.1 hdg ht (fun q => kt q H locs ls hH hS hL) (fun q => kf q H locs ls hH hS hL)
theorem z_icmp_gt (X : zX p s m args meth c D cl tys b0 G cc nL own Ts ret) {x y : Int32} {off : Int} (tgt : Nat) (hdg : decode cc pc = .ok (.if_icmp .gt off, 3)) (ht : (pc : Int) + off = (tgt : Int)) (kt : y < x → zW p l e R s m args below meth c D cl b0 nL cells slots Q N f tgt lv st) (kf : ¬ y < x → zW p l e R s m args below meth c D cl b0 nL cells slots Q N f (pc + 3) lv st) : zW p l e R s m args below meth c D cl b0 nL cells slots Q N f pc lv (.int y :: .int x :: st) := fun H locs ls hH hS hL => lv_icmp_gt X.1 X.2.1 hdg ht (fun q => kt q H locs ls hH hS hL) (fun q => kf q H locs ls hH hS hL)
theorem z_if_le (X : zX p s m args meth c D cl tys b0 G cc nL own Ts ret) {x : Int32} {off : Int} (tgt : Nat) (hdg : decode cc pc = .ok (.ifCond .le off, 3)) (ht : (pc : Int) + off = (tgt : Int)) (kt : x ≤ 0 → zW p l e R s m args below meth c D cl b0 nL cells slots Q N f tgt lv st) (kf : ¬ x ≤ 0 → zW p l e R s m args below meth c D cl b0 nL cells slots Q N f (pc + 3) lv st) : zW p l e R s m args below meth c D cl b0 nL cells slots Q N f pc lv (.int x :: st) := fun H locs ls hH hS hL => lv_if_le X.1 X.2.1 hdg ht (fun q => kt q H locs ls hH hS hL) (fun q => kf q H locs ls hH hS hL)
theorem z_icmp_le (X : zX p s m args meth c D cl tys b0 G cc nL own Ts ret) {x y : Int32} {off : Int} (tgt : Nat) (hdg : decode cc pc = .ok (.if_icmp .le off, 3)) (ht : (pc : Int) + off = (tgt : Int)) (kt : x ≤ y → zW p l e R s m args below meth c D cl b0 nL cells slots Q N f tgt lv st) (kf : ¬ x ≤ y → zW p l e R s m args below meth c D cl b0 nL cells slots Q N f (pc + 3) lv st) : zW p l e R s m args below meth c D cl b0 nL cells slots Q N f pc lv (.int y :: .int x :: st) := fun H locs ls hH hS hL => lv_icmp_le X.1 X.2.1 hdg ht (fun q => kt q H locs ls hH hS hL) (fun q => kf q H locs ls hH hS hL)
theorem z_goto (X : zX p s m args meth c D cl tys b0 G cc nL own Ts ret) {off : Int} (tgt : Nat) (hdg : decode cc pc = .ok (.goto off, 3)) (ht : (pc : Int) + off = (tgt : Int)) (k : zW p l e R s m args below meth c D cl b0 nL cells slots Q N f tgt lv st) : zW p l e R s m args below meth c D cl b0 nL cells slots Q N f pc lv st := fun H locs ls hH hS hL => lv_goto X.1 X.2.1 hdg ht (k H locs ls hH hS hL)
theorem z_ifnonnull (X : zX p s m args meth c D cl tys b0 G cc nL own Ts ret) {x : Nat} {off : Int} (tgt : Nat) (hdg : decode cc pc = .ok (.ifnonnull off, 3)) (ht : (pc : Int) + off = (tgt : Int)) (k : zW p l e R s m args below meth c D cl b0 nL cells slots Q N f tgt lv st) : zW p l e R s m args below meth c D cl b0 nL cells slots Q N f pc lv (.ref x :: st) := fun H locs ls hH hS hL => lv_ifnonnull X.1 X.2.1 hdg ht (k H locs ls hH hS hL)
theorem z_ifnonnullN (X : zX p s m args meth c D cl tys b0 G cc nL own Ts ret) {off : Int} (hdg : decode cc pc = .ok (.ifnonnull off, 3)) (k : zW p l e R s m args below meth c D cl b0 nL cells slots Q N f (pc + 3) lv st) : zW p l e R s m args below meth c D cl b0 nL cells slots Q N f pc lv (.null :: st) := fun H locs ls hH hS hL => lv_ifnonnullN X.1 X.2.1 hdg (k H locs ls hH hS hL)
theorem z_ifnull (X : zX p s m args meth c D cl tys b0 G cc nL own Ts ret) {x : Nat} {off : Int} (hdg : decode cc pc = .ok (.ifnull off, 3)) (k : zW p l e R s m args below meth c D cl b0 nL cells slots Q N f (pc + 3) lv st) : zW p l e R s m args below meth c D cl b0 nL cells slots Q N f pc lv (.ref x :: st) := fun H locs ls hH hS hL => lv_ifnull X.1 X.2.1 hdg (k H locs ls hH hS hL)
theorem z_ifnullN (X : zX p s m args meth c D cl tys b0 G cc nL own Ts ret) {off : Int} (tgt : Nat) (hdg : decode cc pc = .ok (.ifnull off, 3)) (ht : (pc : Int) + off = (tgt : Int)) (k : zW p l e R s m args below meth c D cl b0 nL cells slots Q N f tgt lv st) : zW p l e R s m args below meth c D cl b0 nL cells slots Q N f pc lv (.null :: st) := fun H locs ls hH hS hL => lv_ifnullN X.1 X.2.1 hdg ht (k H locs ls hH hS hL)
theorem z_lookup (X : zX p s m args meth c D cl tys b0 G cc nL own Ts ret) {dflt : Int} {ps : Array (Int × Int)} {len : Nat} {x : Int32} {off : Int} (tgt : Nat) (hdg : decode cc pc = .ok (.lookupswitch dflt ps, len)) (hp : (ps.toList.zip (ps.toList.drop 1)).all (fun (a, next) => a.1 < next.1) = true) (ho : Op.lookupswitch.offset ps.toList dflt x.toInt = off) (ht : (pc : Int) + off = (tgt : Int)) (k : zW p l e R s m args below meth c D cl b0 nL cells slots Q N f tgt lv st) : zW p l e R s m args below meth c D cl b0 nL cells slots Q N f pc lv (.int x :: st) := fun H locs ls hH hS hL => lv_lookup X.1 X.2.1 hdg hp ho ht (k H locs ls hH hS hL)
theorem z_tableOut (X : zX p s m args meth c D cl tys b0 G cc nL own Ts ret) {dflt lo hi : Int} {offs : Array Int} {len : Nat} {x : Int32} (tgt : Nat) (hdg : decode cc pc = .ok (.tableswitch dflt lo hi offs, len)) (h : x.toInt < lo ∨ hi < x.toInt) (ht : (pc : Int) + dflt = (tgt : Int)) (k : zW p l e R s m args below meth c D cl b0 nL cells slots Q N f tgt lv st) : zW p l e R s m args below meth c D cl b0 nL cells slots Q N f pc lv (.int x :: st) := fun H locs ls hH hS hL => lv_tableOut X.1 X.2.1 hdg h ht (k H locs ls hH hS hL)
theorem z_tableIn (X : zX p s m args meth c D cl tys b0 G cc nL own Ts ret) {dflt lo hi : Int} {offs : Array Int} {len : Nat} {x : Int32} {off : Int} (tgt : Nat) (hdg : decode cc pc = .ok (.tableswitch dflt lo hi offs, len)) (h1 : ¬ x.toInt < lo) (h2 : ¬ hi < x.toInt) (ho : offs[(x.toInt - lo).toNat]? = some off) (ht : (pc : Int) + off = (tgt : Int)) (k : zW p l e R s m args below meth c D cl b0 nL cells slots Q N f tgt lv st) : zW p l e R s m args below meth c D cl b0 nL cells slots Q N f pc lv (.int x :: st) := fun H locs ls hH hS hL => lv_tableIn X.1 X.2.1 hdg h1 h2 ho ht (k H locs ls hH hS hL)
theorem z_istore_n (X : zX p s m args meth c D cl tys b0 G cc nL own Ts ret) {k : Fin 4} {x : Int32} (hdg : decode cc pc = .ok (.istore_n k, 1)) (hn : (k : Nat) < nL) (hz : zok lv (k : Nat) = true) (kk : zW p l e R s m args below meth c D cl b0 nL cells slots Q N f (pc + 1) (zs lv (k : Nat) (.int x)) st) : zW p l e R s m args below meth c D cl b0 nL cells slots Q N f pc lv (.int x :: st) := fun H locs ls hH hS hL => lv_istore_n X.1 X.2.1 hdg rfl hL hn rfl (fun ls' h' => kk H locs ls' hH hS (zL.sto hz h'))
theorem z_istore (X : zX p s m args meth c D cl tys b0 G cc nL own Ts ret) {i : Nat} {x : Int32} (hdg : decode cc pc = .ok (.istore i, 2)) (hn : i < nL) (hz : zok lv i = true) (kk : zW p l e R s m args below meth c D cl b0 nL cells slots Q N f (pc + 2) (zs lv i (.int x)) st) : zW p l e R s m args below meth c D cl b0 nL cells slots Q N f pc lv (.int x :: st) := fun H locs ls hH hS hL => lv_istore X.1 X.2.1 hdg hL hn rfl (fun ls' h' => kk H locs ls' hH hS (zL.sto hz h'))
theorem z_astore_n (X : zX p s m args meth c D cl tys b0 G cc nL own Ts ret) {k : Fin 4} {x : Nat} (hdg : decode cc pc = .ok (.astore_n k, 1)) (hn : (k : Nat) < nL) (hz : zok lv (k : Nat) = true) (kk : zW p l e R s m args below meth c D cl b0 nL cells slots Q N f (pc + 1) (zs lv (k : Nat) (.ref x)) st) : zW p l e R s m args below meth c D cl b0 nL cells slots Q N f pc lv (.ref x :: st) := fun H locs ls hH hS hL => lv_astore_n X.1 X.2.1 hdg rfl hL hn rfl (fun ls' h' => kk H locs ls' hH hS (zL.sto hz h'))
theorem z_astore (X : zX p s m args meth c D cl tys b0 G cc nL own Ts ret) {i : Nat} {x : Nat} (hdg : decode cc pc = .ok (.astore i, 2)) (hn : i < nL) (hz : zok lv i = true) (kk : zW p l e R s m args below meth c D cl b0 nL cells slots Q N f (pc + 2) (zs lv i (.ref x)) st) : zW p l e R s m args below meth c D cl b0 nL cells slots Q N f pc lv (.ref x :: st) := fun H locs ls hH hS hL => lv_astore X.1 X.2.1 hdg hL hn rfl (fun ls' h' => kk H locs ls' hH hS (zL.sto hz h'))
theorem z_astore_nN (X : zX p s m args meth c D cl tys b0 G cc nL own Ts ret) {k : Fin 4} (hdg : decode cc pc = .ok (.astore_n k, 1)) (hn : (k : Nat) < nL) (hz : zok lv (k : Nat) = true) (kk : zW p l e R s m args below meth c D cl b0 nL cells slots Q N f (pc + 1) (zs lv (k : Nat) (.null)) st) : zW p l e R s m args below meth c D cl b0 nL cells slots Q N f pc lv (.null :: st) := fun H locs ls hH hS hL => lv_astore_nN X.1 X.2.1 hdg rfl hL hn rfl (fun ls' h' => kk H locs ls' hH hS (zL.sto hz h'))
theorem z_astoreN (X : zX p s m args meth c D cl tys b0 G cc nL own Ts ret) {i : Nat} (hdg : decode cc pc = .ok (.astore i, 2)) (hn : i < nL) (hz : zok lv i = true) (kk : zW p l e R s m args below meth c D cl b0 nL cells slots Q N f (pc + 2) (zs lv i (.null)) st) : zW p l e R s m args below meth c D cl b0 nL cells slots Q N f pc lv (.null :: st) := fun H locs ls hH hS hL => lv_astoreN X.1 X.2.1 hdg hL hn rfl (fun ls' h' => kk H locs ls' hH hS (zL.sto hz h'))
theorem z_iinc (X : zX p s m args meth c D cl tys b0 G cc nL own Ts ret) {i : Nat} {n : Int} {x v : Int32} (hdg : decode cc pc = .ok (.iinc i n, 3)) (hg : zg lv i = some (.int x)) (hv : x + Int32.ofInt n = v) (hn : i < nL) (hz : zok lv i = true) (kk : zW p l e R s m args below meth c D cl b0 nL cells slots Q N f (pc + 3) (zs lv i (.int v)) st) : zW p l e R s m args below meth c D cl b0 nL cells slots Q N f pc lv st := fun H locs ls hH hS hL => by
  obtain ⟨k, hk⟩ := List.getElem?_of_mem (zg_mem hg)
  exact lv_iinc X.1 X.2.1 hdg hL hk hv hn rfl (fun ls' h' => kk H locs ls' hH hS (zL.sto hz h'))
theorem z_ldc (X : zX p s m args meth c D cl tys b0 G cc nL own Ts ret) {index : Nat} {v : Int32} (hdg : decode cc pc = .ok (.ldc index, 2)) (hc : Jvm.Cond.constant own index v ∈ Ts) (k : zW p l e R s m args below meth c D cl b0 nL cells slots Q N f (pc + 2) lv (.int v :: st)) : zW p l e R s m args below meth c D cl b0 nL cells slots Q N f pc lv st := fun H locs ls hH hS hL => lv_ldc X.1 X.2.1 X.2.2.2.1 (X.2.2.2.2.1 _ hc) hdg (k H locs ls hH hS hL)
theorem z_ldcw (X : zX p s m args meth c D cl tys b0 G cc nL own Ts ret) {index : Nat} {v : Int32} (hdg : decode cc pc = .ok (.ldc_w index, 3)) (hc : Jvm.Cond.constant own index v ∈ Ts) (k : zW p l e R s m args below meth c D cl b0 nL cells slots Q N f (pc + 3) lv (.int v :: st)) : zW p l e R s m args below meth c D cl b0 nL cells slots Q N f pc lv st := fun H locs ls hH hS hL => lv_ldcw X.1 X.2.1 X.2.2.2.1 (X.2.2.2.2.1 _ hc) hdg (k H locs ls hH hS hL)
theorem z_lconst (X : zX p s m args meth c D cl tys b0 G cc nL own Ts ret) {n : Fin 2} (hdg : decode cc pc = .ok (.lconst n, 1)) {v : Int64} (hv : Int64.ofNat (n : Nat) = v) (k : zW p l e R s m args below meth c D cl b0 nL cells slots Q N f (pc + 1) lv (.long v :: st)) : zW p l e R s m args below meth c D cl b0 nL cells slots Q N f pc lv st := fun H locs ls hH hS hL => lv_lconst X.1 X.2.1 hdg hv (k H locs ls hH hS hL)
theorem z_lload_n (X : zX p s m args meth c D cl tys b0 G cc nL own Ts ret) {k : Fin 4} {x : Int64} (hdg : decode cc pc = .ok (.lload_n k, 1)) (hg : zg lv (k : Nat) = some (.long x)) (k : zW p l e R s m args below meth c D cl b0 nL cells slots Q N f (pc + 1) lv (.long x :: st)) : zW p l e R s m args below meth c D cl b0 nL cells slots Q N f pc lv st := fun H locs ls hH hS hL => lv_lload_n X.1 X.2.1 hdg rfl (hL.get hg) (k H locs ls hH hS hL)
theorem z_lload (X : zX p s m args meth c D cl tys b0 G cc nL own Ts ret) {i : Nat} {x : Int64} (hdg : decode cc pc = .ok (.lload i, 2)) (hg : zg lv i = some (.long x)) (k : zW p l e R s m args below meth c D cl b0 nL cells slots Q N f (pc + 2) lv (.long x :: st)) : zW p l e R s m args below meth c D cl b0 nL cells slots Q N f pc lv st := fun H locs ls hH hS hL => lv_lload X.1 X.2.1 hdg (hL.get hg) (k H locs ls hH hS hL)
theorem z_ladd (X : zX p s m args meth c D cl tys b0 G cc nL own Ts ret) {x y : Int64} (hdg : decode cc pc = .ok (.ladd, 1))  (k : zW p l e R s m args below meth c D cl b0 nL cells slots Q N f (pc + 1) lv (.long (x + y) :: st)) : zW p l e R s m args below meth c D cl b0 nL cells slots Q N f pc lv (.long y :: .long x :: st) := fun H locs ls hH hS hL => lv_ladd X.1 X.2.1 hdg  (k H locs ls hH hS hL)
theorem z_lsub (X : zX p s m args meth c D cl tys b0 G cc nL own Ts ret) {x y : Int64} (hdg : decode cc pc = .ok (.lsub, 1))  (k : zW p l e R s m args below meth c D cl b0 nL cells slots Q N f (pc + 1) lv (.long (x - y) :: st)) : zW p l e R s m args below meth c D cl b0 nL cells slots Q N f pc lv (.long y :: .long x :: st) := fun H locs ls hH hS hL => lv_lsub X.1 X.2.1 hdg  (k H locs ls hH hS hL)
theorem z_lmul (X : zX p s m args meth c D cl tys b0 G cc nL own Ts ret) {x y : Int64} (hdg : decode cc pc = .ok (.lmul, 1))  (k : zW p l e R s m args below meth c D cl b0 nL cells slots Q N f (pc + 1) lv (.long (x * y) :: st)) : zW p l e R s m args below meth c D cl b0 nL cells slots Q N f pc lv (.long y :: .long x :: st) := fun H locs ls hH hS hL => lv_lmul X.1 X.2.1 hdg  (k H locs ls hH hS hL)
theorem z_l2i (X : zX p s m args meth c D cl tys b0 G cc nL own Ts ret) {x : Int64} (hdg : decode cc pc = .ok (.l2i, 1)) {v : Int32} (hv : x.toInt32 = v) (k : zW p l e R s m args below meth c D cl b0 nL cells slots Q N f (pc + 1) lv (.int v :: st)) : zW p l e R s m args below meth c D cl b0 nL cells slots Q N f pc lv (.long x :: st) := fun H locs ls hH hS hL => lv_l2i X.1 X.2.1 hdg hv (k H locs ls hH hS hL)
theorem z_lcmp (X : zX p s m args meth c D cl tys b0 G cc nL own Ts ret) {x y : Int64} (hdg : decode cc pc = .ok (.lcmp, 1))  (k : zW p l e R s m args below meth c D cl b0 nL cells slots Q N f (pc + 1) lv (.int (lg_cmp x y) :: st)) : zW p l e R s m args below meth c D cl b0 nL cells slots Q N f pc lv (.long y :: .long x :: st) := fun H locs ls hH hS hL => W.lcmp X.1 X.2.1 hdg  (k H locs ls hH hS hL)
theorem z_dup2L (X : zX p s m args meth c D cl tys b0 G cc nL own Ts ret) {v : Value} (hdg : decode cc pc = .ok (.dup2, 1)) (hv : v.category = 2) (k : zW p l e R s m args below meth c D cl b0 nL cells slots Q N f (pc + 1) lv (v :: v :: st)) : zW p l e R s m args below meth c D cl b0 nL cells slots Q N f pc lv (v :: st) := fun H locs ls hH hS hL => lv_dup2_2 X.1 X.2.1 hdg hv (k H locs ls hH hS hL)
theorem z_lstore_n (X : zX p s m args meth c D cl tys b0 G cc nL own Ts ret) {k : Fin 4} {x : Int64} (hdg : decode cc pc = .ok (.lstore_n k, 1)) (hn : (k : Nat) + 1 < nL) (hz : zok2 lv (k : Nat) = true) (kk : zW p l e R s m args below meth c D cl b0 nL cells slots Q N f (pc + 1) (zs lv (k : Nat) (.long x)) st) : zW p l e R s m args below meth c D cl b0 nL cells slots Q N f pc lv (.long x :: st) := fun H locs ls hH hS hL => lv_lstore_n X.1 X.2.1 hdg rfl hL hn rfl (fun ls' h' => kk H locs ls' hH hS (zL.sto2 hz h'))
theorem z_lstore (X : zX p s m args meth c D cl tys b0 G cc nL own Ts ret) {i : Nat} {x : Int64} (hdg : decode cc pc = .ok (.lstore i, 2)) (hn : i + 1 < nL) (hz : zok2 lv i = true) (kk : zW p l e R s m args below meth c D cl b0 nL cells slots Q N f (pc + 2) (zs lv i (.long x)) st) : zW p l e R s m args below meth c D cl b0 nL cells slots Q N f pc lv (.long x :: st) := fun H locs ls hH hS hL => lv_lstore X.1 X.2.1 hdg hL hn rfl (fun ls' h' => kk H locs ls' hH hS (zL.sto2 hz h'))
theorem z_ldc2 (X : zX p s m args meth c D cl tys b0 G cc nL own Ts ret) {index : Nat} {v : Int64} (hdg : decode cc pc = .ok (.ldc2_w index, 3)) (hc : Jvm.Cond.constantLong own index v ∈ Ts) (k : zW p l e R s m args below meth c D cl b0 nL cells slots Q N f (pc + 3) lv (.long v :: st)) : zW p l e R s m args below meth c D cl b0 nL cells slots Q N f pc lv st := fun H locs ls hH hS hL => lv_ldc2 X.1 X.2.1 X.2.2.2.1 (X.2.2.2.2.1 _ hc) hdg (k H locs ls hH hS hL)
theorem z_get (X : zX p s m args meth c D cl tys b0 G cc nL own Ts ret) {ref C : String} {T : u_T} {n ci index a : Nat} {fs : List Value} {v : Value} (hdg : decode cc pc = .ok (.getfield index, 3)) (ha : b0 ≤ a ∧ a < N) (hf : f a = .inr (ci, fs)) (hc : cl[ci]? = some (C, T, n)) (hin : ∀ w ∈ u_ws C T n, w ∈ Ts) (k : Nat) (hk : k < n) (hlink : Cond.fieldLink own index ref (T k).2.1 (T k).2.2.1 ∈ Ts) (href : (T k).1 = ref) (hv : fs[k]? = some v) (kk : zW p l e R s m args below meth c D cl b0 nL cells slots Q N f (pc + 3) lv (v :: st)) : zW p l e R s m args below meth c D cl b0 nL cells slots Q N f pc lv (.ref a :: st) := fun H locs ls hH hS hL => by
  have h1 := hH.2 a ha.1 ha.2
  rw [hf] at h1
  exact va_get (ws := [(a, .inr (ci, fs))]) X.1 X.2.1 X.2.2.2.2.1 hin X.2.2.2.1 X.2.2.2.2.2.2.1 (zP1 h1) 0 rfl hc k hk (X.2.2.2.2.1 _ hlink) (fun y hy => by rw [← href]; exact hy) hv hdg (kk H locs ls hH hS hL)
theorem z_getN (X : zX p s m args meth c D cl tys b0 G cc nL own Ts ret) {ref C : String} {T : u_T} {n ci index a : Nat} {fs : List Value} {v : Value} {host : String} (hdg : decode cc pc = .ok (.getfield index, 3)) (ha : b0 ≤ a ∧ a < N) (hf : f a = .inr (ci, fs)) (hc : cl[ci]? = some (C, T, n)) (hin : ∀ w ∈ u_ws C T n, w ∈ Ts) (k : Nat) (hk : k < n) (hlink : va_Nw (Cond.fieldLinkNest own index ref (T k).2.1 (T k).2.2.1 host) s) (href : (T k).1 = ref) (hv : fs[k]? = some v) (kk : zW p l e R s m args below meth c D cl b0 nL cells slots Q N f (pc + 3) lv (v :: st)) : zW p l e R s m args below meth c D cl b0 nL cells slots Q N f pc lv (.ref a :: st) := fun H locs ls hH hS hL => by
  have h1 := hH.2 a ha.1 ha.2
  rw [hf] at h1
  exact va_getN (ws := [(a, .inr (ci, fs))]) X.1 X.2.1 X.2.2.2.2.1 hin X.2.2.2.1 X.2.2.2.2.2.2.1 (zP1 h1) 0 rfl hc k hk (va_Nw.use rfl hlink) (fun y hy => by rw [← href]; exact hy) hv hdg (kk H locs ls hH hS hL)
theorem z_put (X : zX p s m args meth c D cl tys b0 G cc nL own Ts ret) {ref C : String} {T : u_T} {n ci index a : Nat} {fs : List Value} {v : Value} {ty : FieldType} (ty0 : Nat → FieldType) (hty : ∀ k, k < n → parseFieldDescriptor (T k).2.2.1 = some (ty0 k)) (hnm : ∀ a, a < n → ∀ b, b < n → a ≠ b → (T a).2.1 ≠ (T b).2.1) (hdg : decode cc pc = .ok (.putfield index, 3)) (ha : b0 ≤ a ∧ a < N) (hf : f a = .inr (ci, fs)) (hc : cl[ci]? = some (C, T, n)) (hin : ∀ w ∈ u_ws C T n, w ∈ Ts) (k : Nat) (hk : k < n) (hlink : Cond.fieldLink own index ref (T k).2.1 (T k).2.2.1 ∈ Ts) (href : (T k).1 = ref) (hfin : (T k).2.2.2 = false) (htk : ty0 k = ty) (hn : narrow ty v = v) (hfit : fits ty v = true) (hl : k < fs.length) (kk : zW p l e R s m args below meth c D cl b0 nL cells slots Q N (va_up f a (.inr (ci, fs.set k v))) (pc + 3) lv st) : zW p l e R s m args below meth c D cl b0 nL cells slots Q N f pc lv (v :: .ref a :: st) := fun H locs ls hH hS hL => by
  have h1 := hH.2 a ha.1 ha.2
  rw [hf] at h1
  have hts := X.2.2.2.2.1
  have hK := X.2.2.2.2.2.2.1
  have hap := va_apart (own := own) hts hin ty0 hty hnm hK hc
  obtain ⟨r, h2, cell, q1, q2, q3, q4⟩ := h1
  have hr : r = (C, T, n) := Option.some.inj (h2.symm.trans hc)
  subst hr
  obtain ⟨hSl, hfc, kC, hkC, hkind⟩ := hK.1 ci _ hc
  obtain ⟨cf, kf, fi, fd, hi, hsl⟩ := hSl k hk
  have hd : parseFieldDescriptor (T k).2.2.1 = some ty := by rw [hty k hk, htk]
  have hlay := hts _ (hin _ (u_in_lay hk))
  unfold u_lay at hlay
  have hst := (u_facts hfc hkC (u_lays hts hin hk) hi).1
  have hi2 : s.fieldFound? ref (T k).2.1 (T k).2.2.1 = some (cf, kf, fi, fd) := by rw [← href]; exact hi
  rw [if_neg (by rw [hfin]; decide)] at hlay
  have h6 := u_store hfc hkC hkind hlay hi hd hn hfit
  refine W.putK X.1 X.2.1 (f := fd) ⟨X.2.2.2.1, hts _ hlink, ⟨_, _, _, hi2⟩, hst⟩ (by rw [q2]; exact h6) q1 q3 (by rw [hsl]; exact k2_hasslot (q4 k hk)) rfl rfl hdg fun H' e1 e2 e3 => ?_
  rw [hsl] at e1 ⊢
  exact kk H' _ ls (hH.set e2 ⟨_, hc, t_OB.to (V := updV (vp_V fs) k v) ⟨_, e1, q2, q3, t_set q4 hap hk v⟩ (fun j _ => vp_updV_set hl v j)⟩ e3) (zS_put hS e2 e3 ha.1) hL
theorem z_putN (X : zX p s m args meth c D cl tys b0 G cc nL own Ts ret) {ref C : String} {T : u_T} {n ci index a : Nat} {fs : List Value} {v : Value} {ty : FieldType} (ty0 : Nat → FieldType) (hty : ∀ k, k < n → parseFieldDescriptor (T k).2.2.1 = some (ty0 k)) (hnm : ∀ a, a < n → ∀ b, b < n → a ≠ b → (T a).2.1 ≠ (T b).2.1) {host : String} (hdg : decode cc pc = .ok (.putfield index, 3)) (ha : b0 ≤ a ∧ a < N) (hf : f a = .inr (ci, fs)) (hc : cl[ci]? = some (C, T, n)) (hin : ∀ w ∈ u_ws C T n, w ∈ Ts) (k : Nat) (hk : k < n) (hlink : va_Nw (Cond.fieldLinkNest own index ref (T k).2.1 (T k).2.2.1 host) s) (href : (T k).1 = ref) (hfin : (T k).2.2.2 = false) (htk : ty0 k = ty) (hn : narrow ty v = v) (hfit : fits ty v = true) (hl : k < fs.length) (kk : zW p l e R s m args below meth c D cl b0 nL cells slots Q N (va_up f a (.inr (ci, fs.set k v))) (pc + 3) lv st) : zW p l e R s m args below meth c D cl b0 nL cells slots Q N f pc lv (v :: .ref a :: st) := fun H locs ls hH hS hL => by
  have h1 := hH.2 a ha.1 ha.2
  rw [hf] at h1
  have hts := X.2.2.2.2.1
  have hK := X.2.2.2.2.2.2.1
  have hap := va_apart (own := own) hts hin ty0 hty hnm hK hc
  obtain ⟨r, h2, cell, q1, q2, q3, q4⟩ := h1
  have hr : r = (C, T, n) := Option.some.inj (h2.symm.trans hc)
  subst hr
  obtain ⟨hSl, hfc, kC, hkC, hkind⟩ := hK.1 ci _ hc
  obtain ⟨cf, kf, fi, fd, hi, hsl⟩ := hSl k hk
  have hd : parseFieldDescriptor (T k).2.2.1 = some ty := by rw [hty k hk, htk]
  have hlay := hts _ (hin _ (u_in_lay hk))
  unfold u_lay at hlay
  have hst := (u_facts hfc hkC (u_lays hts hin hk) hi).1
  have hi2 : s.fieldFound? ref (T k).2.1 (T k).2.2.1 = some (cf, kf, fi, fd) := by rw [← href]; exact hi
  rw [if_neg (by rw [hfin]; decide)] at hlay
  have h6 := u_store hfc hkC hkind hlay hi hd hn hfit
  refine va_WputK X.1 X.2.1 (f := fd) X.2.2.2.1 (va_Nw.use rfl hlink) hi2 hst (by rw [q2]; exact h6) q1 q3 (by rw [hsl]; exact k2_hasslot (q4 k hk)) rfl rfl hdg fun H' e1 e2 e3 => ?_
  rw [hsl] at e1 ⊢
  exact kk H' _ ls (hH.set e2 ⟨_, hc, t_OB.to (V := updV (vp_V fs) k v) ⟨_, e1, q2, q3, t_set q4 hap hk v⟩ (fun j _ => vp_updV_set hl v j)⟩ e3) (zS_put hS e2 e3 ha.1) hL
theorem z_putF (X : zX p s m args meth c D cl tys b0 G cc nL own Ts ret) {ref C : String} {T : u_T} {n ci index a : Nat} {fs : List Value} {v : Value} {ty : FieldType} (ty0 : Nat → FieldType) (hty : ∀ k, k < n → parseFieldDescriptor (T k).2.2.1 = some (ty0 k)) (hnm : ∀ a, a < n → ∀ b, b < n → a ≠ b → (T a).2.1 ≠ (T b).2.1) (hdg : decode cc pc = .ok (.putfield index, 3)) (ha : b0 ≤ a ∧ a < N) (hf : f a = .inr (ci, fs)) (hc : cl[ci]? = some (C, T, n)) (hin : ∀ w ∈ u_ws C T n, w ∈ Ts) (k : Nat) (hk : k < n) (hlink : Cond.fieldLink own index ref (T k).2.1 (T k).2.2.1 ∈ Ts) (href : (T k).1 = ref) (hfin : (T k).2.2.2 = true) (hin2 : meth.name = "<init>") (hdecl : (T k).1 = own) (htk : ty0 k = ty) (hn : narrow ty v = v) (hfit : fits ty v = true) (hl : k < fs.length) (kk : zW p l e R s m args below meth c D cl b0 nL cells slots Q N (va_up f a (.inr (ci, fs.set k v))) (pc + 3) lv st) : zW p l e R s m args below meth c D cl b0 nL cells slots Q N f pc lv (v :: .ref a :: st) := fun H locs ls hH hS hL => by
  have h1 := hH.2 a ha.1 ha.2
  rw [hf] at h1
  have hts := X.2.2.2.2.1
  have hK := X.2.2.2.2.2.2.1
  have hap := va_apart (own := own) hts hin ty0 hty hnm hK hc
  obtain ⟨r, h2, cell, q1, q2, q3, q4⟩ := h1
  have hr : r = (C, T, n) := Option.some.inj (h2.symm.trans hc)
  subst hr
  obtain ⟨hSl, hfc, kC, hkC, hkind⟩ := hK.1 ci _ hc
  obtain ⟨cf, kf, fi, fd, hi, hsl⟩ := hSl k hk
  have hd : parseFieldDescriptor (T k).2.2.1 = some ty := by rw [hty k hk, htk]
  have hlay := hts _ (hin _ (u_in_lay hk))
  unfold u_lay at hlay
  have hst := (u_facts hfc hkC (u_lays hts hin hk) hi).1
  have hi2 : s.fieldFound? ref (T k).2.1 (T k).2.2.1 = some (cf, kf, fi, fd) := by rw [← href]; exact hi
  rw [if_pos hfin] at hlay
  have hcf : m.cls = cf := by
    obtain ⟨_, _, c', _, _, _, -, -, hf', -, -, -, hown2, -⟩ := Cond.laysFinal_spec hlay
    have e1 : c' = cf := by have := hi.symm.trans hf'; simp at this; exact this.1.symm
    rw [hdecl] at hown2
    rw [← e1]; exact Option.some.inj (X.2.2.2.1.symm.trans hown2)
  have h6 := u_fits hfc hkC hkind (Or.inr hlay) hi hd hn hfit
  refine W.putFinK X.1 X.2.1 X.2.2.2.1 (hts _ hlink) hi2 hst hcf hin2 (by rw [q2]; exact h6) q1 q3 (by rw [hsl]; exact k2_hasslot (q4 k hk)) rfl rfl hdg fun H' e1 e2 e3 => ?_
  rw [hsl] at e1 ⊢
  exact kk H' _ ls (hH.set e2 ⟨_, hc, t_OB.to (V := updV (vp_V fs) k v) ⟨_, e1, q2, q3, t_set q4 hap hk v⟩ (fun j _ => vp_updV_set hl v j)⟩ e3) (zS_put hS e2 e3 ha.1) hL
theorem z_alen (X : zX p s m args meth c D cl tys b0 G cc nL own Ts ret) {a t0 : Nat} {cA : ClassId} {x : vp_A} {ty : FieldType} {v : Int32} (hdg : decode cc pc = .ok (.arraylength, 1)) (ha : b0 ≤ a ∧ a < N) (hf : f a = .inl (cA, x)) (ht : tys[t0]? = some (cA, ty)) (hv : Int32.ofNat x.1 = v) (kk : zW p l e R s m args below meth c D cl b0 nL cells slots Q N f (pc + 1) lv (.int v :: st)) : zW p l e R s m args below meth c D cl b0 nL cells slots Q N f pc lv (.ref a :: st) := fun H locs ls hH hS hL => by
  have h1 := hH.2 a ha.1 ha.2
  rw [hf] at h1
  exact va_alen (ws := [(a, .inl (cA, x))]) X.1 X.2.1 X.2.2.2.2.2.2.1 (zP1 h1) 0 t0 rfl ht hv hdg (kk H locs ls hH hS hL)
theorem z_iald (X : zX p s m args meth c D cl tys b0 G cc nL own Ts ret) {a t0 k : Nat} {cA : ClassId} {g : Nat → Int32} {i : Int32} (hdg : decode cc pc = .ok (.iaload, 1)) (ha : b0 ≤ a ∧ a < N) (hf : f a = .inl (cA, k, .inl g)) (ht : tys[t0]? = some (cA, .int)) (hi : vp_in i k) (kk : zW p l e R s m args below meth c D cl b0 nL cells slots Q N f (pc + 1) lv (.int (g i.toNatClampNeg) :: st)) : zW p l e R s m args below meth c D cl b0 nL cells slots Q N f pc lv (.int i :: .ref a :: st) := fun H locs ls hH hS hL => by
  have h1 := hH.2 a ha.1 ha.2
  rw [hf] at h1
  exact va_iald (ws := [(a, .inl (cA, k, .inl g))]) X.1 X.2.1 X.2.2.2.2.2.2.1 (zP1 h1) 0 t0 rfl ht hi hdg (kk H locs ls hH hS hL)
theorem z_lald (X : zX p s m args meth c D cl tys b0 G cc nL own Ts ret) {a t0 k : Nat} {cA : ClassId} {g : Nat → Int64} {i : Int32} (hdg : decode cc pc = .ok (.laload, 1)) (ha : b0 ≤ a ∧ a < N) (hf : f a = .inl (cA, k, .inr (.inl g))) (ht : tys[t0]? = some (cA, .long)) (hi : vp_in i k) (kk : zW p l e R s m args below meth c D cl b0 nL cells slots Q N f (pc + 1) lv (.long (g i.toNatClampNeg) :: st)) : zW p l e R s m args below meth c D cl b0 nL cells slots Q N f pc lv (.int i :: .ref a :: st) := fun H locs ls hH hS hL => by
  have h1 := hH.2 a ha.1 ha.2
  rw [hf] at h1
  exact va_lald (ws := [(a, .inl (cA, k, .inr (.inl g)))]) X.1 X.2.1 X.2.2.2.2.2.2.1 (zP1 h1) 0 t0 rfl ht hi hdg (kk H locs ls hH hS hL)
theorem z_zald (X : zX p s m args meth c D cl tys b0 G cc nL own Ts ret) {a t0 k : Nat} {cA : ClassId} {g : Nat → Int32} {i : Int32} (hdg : decode cc pc = .ok (.baload, 1)) (ha : b0 ≤ a ∧ a < N) (hf : f a = .inl (cA, k, .inl g)) (ht : tys[t0]? = some (cA, .boolean)) (hi : vp_in i k) (kk : zW p l e R s m args below meth c D cl b0 nL cells slots Q N f (pc + 1) lv (.int (g i.toNatClampNeg) :: st)) : zW p l e R s m args below meth c D cl b0 nL cells slots Q N f pc lv (.int i :: .ref a :: st) := fun H locs ls hH hS hL => by
  have h1 := hH.2 a ha.1 ha.2
  rw [hf] at h1
  exact va_zald (ws := [(a, .inl (cA, k, .inl g))]) X.1 X.2.1 X.2.2.2.2.2.2.1 (zP1 h1) 0 t0 rfl ht hi hdg (kk H locs ls hH hS hL)
theorem z_aald (X : zX p s m args meth c D cl tys b0 G cc nL own Ts ret) {a t0 k : Nat} {cA : ClassId} {E : String} {g : Nat → Option Nat} {i : Int32} (hdg : decode cc pc = .ok (.aaload, 1)) (ha : b0 ≤ a ∧ a < N) (hf : f a = .inl (cA, k, .inr (.inr (.inr (.inr g))))) (ht : tys[t0]? = some (cA, .object E)) (hi : vp_in i k) (kk : zW p l e R s m args below meth c D cl b0 nL cells slots Q N f (pc + 1) lv (va_rf (g i.toNatClampNeg) :: st)) : zW p l e R s m args below meth c D cl b0 nL cells slots Q N f pc lv (.int i :: .ref a :: st) := fun H locs ls hH hS hL => by
  have h1 := hH.2 a ha.1 ha.2
  rw [hf] at h1
  exact va_aldq (ws := [(a, .inl (cA, k, .inr (.inr (.inr (.inr g)))))]) X.1 X.2.1 X.2.2.2.2.2.2.1 (zP1 h1) 0 t0 rfl ht hi hdg (kk H locs ls hH hS hL)
theorem z_iast (X : zX p s m args meth c D cl tys b0 G cc nL own Ts ret) {a t0 k : Nat} {cA : ClassId} {g : Nat → Int32} {i : Int32} {x : Int32} (hdg : decode cc pc = .ok (.iastore, 1)) (ha : b0 ≤ a ∧ a < N) (hf : f a = .inl (cA, k, .inl g)) (ht : tys[t0]? = some (cA, .int)) (hi : vp_in i k) (kk : zW p l e R s m args below meth c D cl b0 nL cells slots Q N (va_up f a (.inl (cA, k, .inl (upd g i.toNatClampNeg x)))) (pc + 1) lv st) : zW p l e R s m args below meth c D cl b0 nL cells slots Q N f pc lv (.int x :: .int i :: .ref a :: st) := fun H locs ls hH hS hL => by
  have h1 := hH.2 a ha.1 ha.2
  rw [hf] at h1
  refine W.iast X.1 X.2.1 h1 ((X.2.2.2.2.2.2.1.2 t0 _ ht).1 k (fun j => .int (g j))) (fun q => by cases q) (by show ¬ (i < 0 ∨ (arrV _ _ _).slots.size ≤ _); rw [arrV_size]; exact hi) rfl rfl hdg fun H1 e z oq => ?_
  refine kk H1 _ ls (hH.set z ?_ oq) (zS_put hS z oq ha.1) hL
  show H1[a]? = some (vp_cell _ _)
  rw [e]
  rw [vp_cell_i, vp_cell_i, arrV_store]
  congr 2
  funext q
  by_cases hq : q = i.toNatClampNeg
  · subst hq
    simp [updV, upd, vp_updL, vp_nar]
    try rfl
  · simp [updV, upd, vp_updL, hq]
theorem z_last (X : zX p s m args meth c D cl tys b0 G cc nL own Ts ret) {a t0 k : Nat} {cA : ClassId} {g : Nat → Int64} {i : Int32} {x : Int64} (hdg : decode cc pc = .ok (.lastore, 1)) (ha : b0 ≤ a ∧ a < N) (hf : f a = .inl (cA, k, .inr (.inl (g)))) (ht : tys[t0]? = some (cA, .long)) (hi : vp_in i k) (kk : zW p l e R s m args below meth c D cl b0 nL cells slots Q N (va_up f a (.inl (cA, k, .inr (.inl ((vp_updL g i.toNatClampNeg x)))))) (pc + 1) lv st) : zW p l e R s m args below meth c D cl b0 nL cells slots Q N f pc lv (.long x :: .int i :: .ref a :: st) := fun H locs ls hH hS hL => by
  have h1 := hH.2 a ha.1 ha.2
  rw [hf] at h1
  refine W.last X.1 X.2.1 h1 ((X.2.2.2.2.2.2.1.2 t0 _ ht).1 k (fun j => .long (g j))) (fun q => by cases q) (by show ¬ (i < 0 ∨ (arrV _ _ _).slots.size ≤ _); rw [arrV_size]; exact hi) rfl rfl hdg fun H1 e z oq => ?_
  refine kk H1 _ ls (hH.set z ?_ oq) (zS_put hS z oq ha.1) hL
  show H1[a]? = some (vp_cell _ _)
  rw [e]
  rw [vp_cell_l, vp_cell_l, arrV_store]
  congr 2
  funext q
  by_cases hq : q = i.toNatClampNeg
  · subst hq
    simp [updV, upd, vp_updL, vp_nar]
    try rfl
  · simp [updV, upd, vp_updL, hq]
theorem z_zast (X : zX p s m args meth c D cl tys b0 G cc nL own Ts ret) {a t0 k : Nat} {cA : ClassId} {g : Nat → Int32} {i : Int32} {x : Int32} (hdg : decode cc pc = .ok (.bastore, 1)) (ha : b0 ≤ a ∧ a < N) (hf : f a = .inl (cA, k, .inl g)) (ht : tys[t0]? = some (cA, .boolean)) (hi : vp_in i k) (kk : zW p l e R s m args below meth c D cl b0 nL cells slots Q N (va_up f a (.inl (cA, k, .inl (upd g i.toNatClampNeg (vp_nar .boolean x))))) (pc + 1) lv st) : zW p l e R s m args below meth c D cl b0 nL cells slots Q N f pc lv (.int x :: .int i :: .ref a :: st) := fun H locs ls hH hS hL => by
  have h1 := hH.2 a ha.1 ha.2
  rw [hf] at h1
  refine W.zast X.1 X.2.1 h1 ((X.2.2.2.2.2.2.1.2 t0 _ ht).1 k (fun j => .int (g j))) (fun q => by cases q) (by show ¬ (i < 0 ∨ (arrV _ _ _).slots.size ≤ _); rw [arrV_size]; exact hi) rfl rfl hdg fun H1 e z oq => ?_
  refine kk H1 _ ls (hH.set z ?_ oq) (zS_put hS z oq ha.1) hL
  show H1[a]? = some (vp_cell _ _)
  rw [e]
  rw [vp_cell_i, vp_cell_i, arrV_store]
  congr 2
  funext q
  by_cases hq : q = i.toNatClampNeg
  · subst hq
    simp [updV, upd, vp_updL, vp_nar]
    try rfl
  · simp [updV, upd, vp_updL, hq]
theorem z_aast (X : zX p s m args meth c D cl tys b0 G cc nL own Ts ret) {a t0 k v ci : Nat} {cA : ClassId} {rc : vw_C} {vs : List Value} {g : Nat → Option Nat} {i : Int32} (hdg : decode cc pc = .ok (.aastore, 1)) (ha : b0 ≤ a ∧ a < N) (hf : f a = .inl (cA, k, .inr (.inr (.inr (.inr g))))) (ht : tys[t0]? = some (cA, .object rc.1)) (hv : b0 ≤ v ∧ v < N) (hfv : f v = .inr (ci, vs)) (hc : cl[ci]? = some rc) (hi : vp_in i k) (kk : zW p l e R s m args below meth c D cl b0 nL cells slots Q N (va_up f a (.inl (cA, k, .inr (.inr (.inr (.inr (va_up g i.toNatClampNeg (some v)))))))) (pc + 1) lv st) : zW p l e R s m args below meth c D cl b0 nL cells slots Q N f pc lv (.ref v :: .int i :: .ref a :: st) := fun H locs ls hH hS hL => by
  have h1 := hH.2 a ha.1 ha.2
  rw [hf] at h1
  have h2 := hH.2 v hv.1 hv.2
  rw [hfv] at h2
  have hlt : i.toNatClampNeg < k := Nat.not_le.mp fun q => hi (Or.inr q)
  have h0 : ¬ i < 0 := fun q => hi (Or.inl q)
  have hK := X.2.2.2.2.2.2.1
  obtain ⟨r', hr', cellV, g1, g2, g3, -⟩ := h2
  have hcls := (hK.1 ci rc hc).2
  obtain ⟨kA, comp, k1, k2, k3, -⟩ := (hK.2 t0 _ ht).2
  have hcomp : comp = D.1 ci := Option.some.inj (k3.symm.trans hcls.1)
  subst hcomp
  obtain ⟨kC, hkC, -⟩ := hcls.2
  refine W.aast X.1 X.2.1 h1 (fun q h => by cases h) (fun h => by cases h) k1 k2 rfl hkC ⟨h0, by show _ < (arrV _ _ _).slots.size; rw [arrV_size]; exact hlt⟩ g1 (fun q h => by rw [g3] at h; cases h) (by rw [g2]; exact hkC) (by rw [g2]; exact va_assign hcls) rfl rfl hdg fun H1 e z oq => ?_
  refine kk H1 _ ls (hH.set z ?_ oq) (zS_put hS z oq ha.1) hL
  show H1[a]? = some (vp_cell _ _)
  rw [e]
  rw [vp_cell_q, vp_cell_q, arrV_store]
  congr 2
  funext q
  by_cases hq : q = i.toNatClampNeg
  · subst hq
    simp [updV, va_up, va_rf]
  · simp [updV, va_up, hq]
theorem z_new (X : zX p s m args meth c D cl tys b0 G cc nL own Ts ret) {C : String} {T : u_T} {n ci index : Nat} (ty0 : Nat → FieldType) (hty : ∀ k, k < n → parseFieldDescriptor (T k).2.2.1 = some (ty0 k)) {fs : List Value} (hdg : decode cc pc = .ok (.new index, 3)) (hc : cl[ci]? = some (C, T, n)) (hin : ∀ w ∈ u_ws C T n, w ∈ Ts) (h1 : Cond.classLink own index C ∈ Ts) (h2 : Cond.instantiable C n ∈ Ts) (h3 : Cond.initialized C ∈ Ts) (hfs : ∀ j, j < n → defaultValue (ty0 j) = vp_V fs j) (hcells : cells + 1 ≤ R.cells) (hslots : slots + n ≤ R.slots) (kk : zW p l e R s m args below meth c D cl b0 nL (cells + 1) (slots + n) Q (N + 1) (va_up f N (.inr (ci, fs))) (pc + 3) lv (.ref N :: st)) : zW p l e R s m args below meth c D cl b0 nL cells slots Q N f pc lv st := fun H locs ls hH hS hL => by
  have hts := X.2.2.2.2.1
  have hKn := X.2.2.2.2.2.2.1.1 ci _ hc
  refine W.newcK X.1 X.2.1 X.2.2.2.1 (hts _ h1) (hts _ h2) (hts _ h3) rfl hdg hcells hslots hKn.2.1 hH.1 fun H1 kC hkC e1 z1 o1 => ?_
  exact kk H1 locs ls (hH.push z1 ⟨_, hc, (u_born ty0 hts hin hKn hkC e1 hty).to hfs⟩ o1) (zS_push hS hH.1 z1 o1) hL
theorem z_newai (X : zX p s m args meth c D cl tys b0 G cc nL own Ts ret) {atype : ArrayType} (hat : newarray.typeOf atype = .int) {t0 k : Nat} {cA : ClassId} {n : Int32} (hdg : decode cc pc = .ok (.newarray atype, 2)) (hw : Cond.arrayClass .int ∈ Ts) (ht : tys[t0]? = some (cA, .int)) (hn : ¬ n < 0) (hk : n.toNatClampNeg = k) (hb : k * componentBytes .int ≤ 536870912) (hcells : cells + 1 ≤ R.cells) (hslots : slots + k ≤ R.slots) (kk : zW p l e R s m args below meth c D cl b0 nL (cells + 1) (slots + k) Q (N + 1) (va_up f N (.inl (cA, k, .inl (fun _ => 0)))) (pc + 2) lv (.ref N :: st)) : zW p l e R s m args below meth c D cl b0 nL cells slots Q N f pc lv (.int n :: st) := fun H locs ls hH hS hL => by
  refine va_newaK X.1 X.2.1 (by rw [hat]; exact X.2.2.2.2.1 _ hw) rfl hdg rfl hn hk (by rw [hat]; exact hb) hcells hslots hH.1 fun H1 cA' e1 z1 o1 hAr hNm => ?_
  rw [hat] at e1 hNm
  have hcA : cA' = cA := Option.some.inj (hNm.symm.trans (X.2.2.2.2.2.2.1.2 t0 _ ht).2)
  subst hcA
  refine kk H1 locs ls (hH.push z1 ?_ o1) (zS_push hS hH.1 z1 o1) hL
  show H1[N]? = some (vp_cell _ _)
  rw [vp_cell_i]
  exact e1
theorem z_newal (X : zX p s m args meth c D cl tys b0 G cc nL own Ts ret) {atype : ArrayType} (hat : newarray.typeOf atype = .long) {t0 k : Nat} {cA : ClassId} {n : Int32} (hdg : decode cc pc = .ok (.newarray atype, 2)) (hw : Cond.arrayClass .long ∈ Ts) (ht : tys[t0]? = some (cA, .long)) (hn : ¬ n < 0) (hk : n.toNatClampNeg = k) (hb : k * componentBytes .long ≤ 536870912) (hcells : cells + 1 ≤ R.cells) (hslots : slots + k ≤ R.slots) (kk : zW p l e R s m args below meth c D cl b0 nL (cells + 1) (slots + k) Q (N + 1) (va_up f N (.inl (cA, k, .inr (.inl (fun _ => 0))))) (pc + 2) lv (.ref N :: st)) : zW p l e R s m args below meth c D cl b0 nL cells slots Q N f pc lv (.int n :: st) := fun H locs ls hH hS hL => by
  refine va_newaK X.1 X.2.1 (by rw [hat]; exact X.2.2.2.2.1 _ hw) rfl hdg rfl hn hk (by rw [hat]; exact hb) hcells hslots hH.1 fun H1 cA' e1 z1 o1 hAr hNm => ?_
  rw [hat] at e1 hNm
  have hcA : cA' = cA := Option.some.inj (hNm.symm.trans (X.2.2.2.2.2.2.1.2 t0 _ ht).2)
  subst hcA
  refine kk H1 locs ls (hH.push z1 ?_ o1) (zS_push hS hH.1 z1 o1) hL
  show H1[N]? = some (vp_cell _ _)
  rw [vp_cell_l]
  exact e1
theorem z_newaz (X : zX p s m args meth c D cl tys b0 G cc nL own Ts ret) {atype : ArrayType} (hat : newarray.typeOf atype = .boolean) {t0 k : Nat} {cA : ClassId} {n : Int32} (hdg : decode cc pc = .ok (.newarray atype, 2)) (hw : Cond.arrayClass .boolean ∈ Ts) (ht : tys[t0]? = some (cA, .boolean)) (hn : ¬ n < 0) (hk : n.toNatClampNeg = k) (hb : k * componentBytes .boolean ≤ 536870912) (hcells : cells + 1 ≤ R.cells) (hslots : slots + k ≤ R.slots) (kk : zW p l e R s m args below meth c D cl b0 nL (cells + 1) (slots + k) Q (N + 1) (va_up f N (.inl (cA, k, .inl (fun _ => 0)))) (pc + 2) lv (.ref N :: st)) : zW p l e R s m args below meth c D cl b0 nL cells slots Q N f pc lv (.int n :: st) := fun H locs ls hH hS hL => by
  refine va_newaK X.1 X.2.1 (by rw [hat]; exact X.2.2.2.2.1 _ hw) rfl hdg rfl hn hk (by rw [hat]; exact hb) hcells hslots hH.1 fun H1 cA' e1 z1 o1 hAr hNm => ?_
  rw [hat] at e1 hNm
  have hcA : cA' = cA := Option.some.inj (hNm.symm.trans (X.2.2.2.2.2.2.1.2 t0 _ ht).2)
  subst hcA
  refine kk H1 locs ls (hH.push z1 ?_ o1) (zS_push hS hH.1 z1 o1) hL
  show H1[N]? = some (vp_cell _ _)
  rw [vp_cell_i]
  exact e1
theorem z_newq (X : zX p s m args meth c D cl tys b0 G cc nL own Ts ret) {C : String} {index t0 k : Nat} {cA : ClassId} {n : Int32} (hdg : decode cc pc = .ok (.anewarray index, 3)) (h1 : Cond.classLink own index C ∈ Ts) (hover : va_AO C s) (ht : tys[t0]? = some (cA, .object C)) (hn : ¬ n < 0) (hk : n.toNatClampNeg = k) (hb : k * 4 ≤ 536870912) (hcells : cells + 1 ≤ R.cells) (hslots : slots + k ≤ R.slots) (kk : zW p l e R s m args below meth c D cl b0 nL (cells + 1) (slots + k) Q (N + 1) (va_up f N (.inl (cA, k, .inr (.inr (.inr (.inr (fun _ => none))))))) (pc + 3) lv (.ref N :: st)) : zW p l e R s m args below meth c D cl b0 nL cells slots Q N f pc lv (.int n :: st) := fun H locs ls hH hS hL => by
  subst hk
  refine W.anew X.1 X.2.1 X.2.2.2.1 (X.2.2.2.2.1 _ h1) (va_AO.use hover) rfl hdg rfl hn hb hcells hslots fun cA' kA comp f1 f2 f3 f4 => ?_
  have hcA : cA' = cA := by
    obtain ⟨_, _, _, _, _, h9⟩ := (X.2.2.2.2.2.2.1.2 t0 _ ht).2
    exact Option.some.inj (f1.symm.trans h9)
  subst hcA
  generalize hH1 : H.push ({ cls := cA', slots := Array.replicate n.toNatClampNeg .null, vm := .none } : Cell) = H1
  have z1 : H1.size = N + 1 := by rw [← hH1, Array.size_push, hH.1]
  have e1 : H1[N]? = some (arrV cA' n.toNatClampNeg (fun _ => .null)) := by rw [← hH1, ← hH.1, Array.getElem?_push_size, ← arrV_new]
  have o1 : ∀ q : Nat, q < N → H1[q]? = H[q]? := fun q hq => by rw [← hH1, Array.getElem?_push, if_neg (by rw [hH.1]; exact Nat.ne_of_lt hq)]
  refine W.eq (g2 := F0 m (pc + 3) ls (.ref N :: st)) (by rw [← hH.1]) ?_
  refine kk H1 locs ls (hH.push z1 ?_ o1) (zS_push hS hH.1 z1 o1) hL
  show H1[N]? = some (vp_cell _ _)
  rw [vp_cell_q]
  exact e1
theorem z_objInit (X : zX p s m args meth c D cl tys b0 G cc nL own Ts ret) {idx a : Nat} (hdg : decode cc pc = .ok (.invokespecial idx, 3)) (h1 : Cond.methodLink own idx Lib.objectInit ∈ Ts) (h2 : Cond.instanceMethod Lib.objectInit ∈ Ts) (h3 : Cond.code Lib.objectInit ⟨#[0xb1]⟩ 1 none ∈ Ts) (hfr : 1 ≤ R.frames) (hlo : (st.map fun v => v.category).sum + 12 ≤ R.locals) (kk : zW p l e R s m args below meth c D cl b0 nL cells slots Q N f (pc + 3) lv st) : zW p l e R s m args below meth c D cl b0 nL cells slots Q N f pc lv (.ref a :: st) := fun H locs ls hH hS hL => by
  refine W.objInit X.1 X.2.1 X.2.2.2.1 (X.2.2.2.2.1 _ h1) (X.2.2.2.2.1 _ h2) (X.2.2.2.2.1 _ h3) rfl (by rw [X.2.2.1]; exact hL.1) rfl hdg hfr (by show 2 * (F0 m pc ls _).monitorRoom + _ + 12 ≤ _; rw [show (F0 m pc ls (.ref a :: st)).monitorRoom = 0 from rfl]; omega) ?_
  exact kk H locs ls hH hS hL
theorem z_run (X : zX p s m args meth c D cl tys b0 G cc nL own Ts ret) {mc ms : Nat} {H : Heap} {locs : List Loc} {ls : Array Slot} {st0 : List Value} {A : Array Value} {P : Option Value → Nat → (Nat → va_E) → Prop} (hH : zH D cl b0 N f H) (hS : va_S (zA b0) s.heap H locs) (hL : zL ls nL lv) (hr : va_Run p l e R s m args below meth c H locs cells slots mc ms (F0 m pc ls st0) st (zQ D cl b0 P A) (zA b0)) (kk : ∀ (r : Option Value) (N' : Nat) (f' : Nat → va_E), P r N' f' → N ≤ N' → zW p l e R s m args below meth c D cl b0 nL (cells + mc) (slots + ms) Q N' f' (pc + 3) lv (r.toList ++ st)) : W p l e R s m args below meth c H locs cells slots Q (F0 m pc ls st0) := by
  intro T hT Y
  obtain ⟨v, st₀, t, T', L, h0, X', hL', e1, e2, ⟨r, N', f', hv, hz, hlow, hsz, hP⟩, stp⟩ := hr T hT Y
  cases hv
  rw [h0] at hlow hsz
  obtain ⟨t2, a1, b1⟩ := kk v N' f' hP (by rw [← hH.1]; exact hsz) T'.heap (locs ++ L) ls (by rw [e1]; exact hz)
    ⟨by rw [e1, hz.1]; exact Nat.le_trans hS.1 hsz, fun q h1 h2 => by rw [e1, hlow q (Nat.not_le.mp h2)]; exact hS.2.1 q h1 h2, fun q hq => by
      rcases List.mem_append.mp hq with h | h
      · exact hS.2.2 q h
      · exact hL' q h⟩ hL T' rfl X'
  exact ⟨t2, stp t2 a1, b1⟩
theorem z_pre (X : zX p s m args meth c D cl tys b0 G cc nL own Ts ret) {As : List Value} {H : Heap} {locs : List Loc} (hg : zGok b0 G) (hH : zH D cl b0 N f H) (hS : va_S (zA b0) s.heap H locs) : ∀ U : State, U.heap = H → s.WarmedH U.vm → zPc D cl tys b0 G As N f As.toArray U := fun U hU hW =>
  ⟨rfl, hg s U hW X.2.2.2.2.2.2.2.2.2 (fun q hq => by rw [hU]; exact zlow X.2.2.2.2.2.2.2.2.2 hS q hq) X.2.2.2.2.2.1, va_K.moved hW.alike X.2.2.2.2.2.2.1, by rw [hU]; exact hH, by rw [← hH.1]; exact Nat.le_trans X.2.2.2.2.2.2.2.2.2 hS.1⟩
theorem z_callV (X : zX p s m args meth c D cl tys b0 G cc nL own Ts ret) {y : MethodName} {bytes : ByteArray} {maxL n index mc ms : Nat} {ret' : Option FieldType} {ws : List Cond} {rm : Room} {As : List Value} {P : Option Value → Nat → (Nat → va_E) → Prop} {st0 : List Value} (hg : zGok b0 G) {C : String} {T : u_T} {k ci a : Nat} {fs : List Value} (hM : zM l D cl tys b0 G y ws rm mc ms (.ref a :: As) N f P) (hdg : decode cc pc = .ok (.invokevirtual index, 3)) (cw : CallW R s args own C index y bytes maxL ret' ws rm mc ms n) (ha : b0 ≤ a ∧ a < N) (hf : f a = .inr (ci, fs)) (hc : cl[ci]? = some (C, T, k)) (hst : st0 = As.reverse ++ .ref a :: st) (hn : As.length = n) (hroom : (st.map fun v => v.category).sum ≤ 8) (hf9 : cells + mc ≤ R.cells ∧ slots + ms ≤ R.slots) (kk : ∀ (r : Option Value) (N' : Nat) (f' : Nat → va_E), P r N' f' → N ≤ N' → zW p l e R s m args below meth c D cl b0 nL (cells + mc) (slots + ms) Q N' f' (pc + 3) lv (r.toList ++ st)) : zW p l e R s m args below meth c D cl b0 nL cells slots Q N f pc lv st0 := fun H locs ls hH hS hL => by
  subst hst
  have h1 := hH.2 a ha.1 ha.2
  rw [hf] at h1
  exact z_run X hH hS hL (va_runV (As := As) (rest := st) ⟨X.1, X.2.1, X.2.2.1, X.2.2.2.1, X.2.2.2.2.1⟩ hM cw ⟨zblind hg, va_recv X.2.2.2.2.2.2.1 (zP1 h1) hc (q0 := 0) rfl, fun U hU hW => z_pre X (As := .ref a :: As) hg hH hS U hU hW⟩ rfl hn hL.1 rfl (lv_room hroom) hdg hf9) kk
theorem z_callVN (X : zX p s m args meth c D cl tys b0 G cc nL own Ts ret) {y : MethodName} {bytes : ByteArray} {maxL n index mc ms : Nat} {ret' : Option FieldType} {ws : List Cond} {rm : Room} {As : List Value} {P : Option Value → Nat → (Nat → va_E) → Prop} {st0 : List Value} (hg : zGok b0 G) {host : String} {C : String} {T : u_T} {k ci a : Nat} {fs : List Value} (hM : zM l D cl tys b0 G y ws rm mc ms (.ref a :: As) N f P) (hdg : decode cc pc = .ok (.invokevirtual index, 3)) (cw : va_CN R s args own index y host bytes maxL ret' ws rm mc ms n ∧ (Cond.instanceMethod y).before args s = true ∧ (Cond.selects C y y).before args s = true) (ha : b0 ≤ a ∧ a < N) (hf : f a = .inr (ci, fs)) (hc : cl[ci]? = some (C, T, k)) (hst : st0 = As.reverse ++ .ref a :: st) (hn : As.length = n) (hroom : (st.map fun v => v.category).sum ≤ 8) (hf9 : cells + mc ≤ R.cells ∧ slots + ms ≤ R.slots) (kk : ∀ (r : Option Value) (N' : Nat) (f' : Nat → va_E), P r N' f' → N ≤ N' → zW p l e R s m args below meth c D cl b0 nL (cells + mc) (slots + ms) Q N' f' (pc + 3) lv (r.toList ++ st)) : zW p l e R s m args below meth c D cl b0 nL cells slots Q N f pc lv st0 := fun H locs ls hH hS hL => by
  subst hst
  have h1 := hH.2 a ha.1 ha.2
  rw [hf] at h1
  exact z_run X hH hS hL (va_runVN (As := As) (rest := st) ⟨X.1, X.2.1, X.2.2.1, X.2.2.2.1, X.2.2.2.2.1⟩ hM cw ⟨zblind hg, va_recv X.2.2.2.2.2.2.1 (zP1 h1) hc (q0 := 0) rfl, fun U hU hW => z_pre X (As := .ref a :: As) hg hH hS U hU hW⟩ rfl hn hL.1 rfl (lv_room hroom) hdg hf9) kk
theorem z_callS (X : zX p s m args meth c D cl tys b0 G cc nL own Ts ret) {y : MethodName} {bytes : ByteArray} {maxL n index mc ms : Nat} {ret' : Option FieldType} {ws : List Cond} {rm : Room} {As : List Value} {P : Option Value → Nat → (Nat → va_E) → Prop} {st0 : List Value} (hg : zGok b0 G) (hM : zM l D cl tys b0 G y ws rm mc ms As N f P) (hdg : decode cc pc = .ok (.invokestatic index, 3)) (cw : CallB R s args own index y bytes maxL ret' ws rm mc ms n ∧ (Cond.static y).before args s = true) (hst : st0 = As.reverse ++ st) (hn : As.length = n) (hroom : (st.map fun v => v.category).sum ≤ 8) (hf9 : cells + mc ≤ R.cells ∧ slots + ms ≤ R.slots) (kk : ∀ (r : Option Value) (N' : Nat) (f' : Nat → va_E), P r N' f' → N ≤ N' → zW p l e R s m args below meth c D cl b0 nL (cells + mc) (slots + ms) Q N' f' (pc + 3) lv (r.toList ++ st)) : zW p l e R s m args below meth c D cl b0 nL cells slots Q N f pc lv st0 := fun H locs ls hH hS hL => by
  subst hst
  exact z_run X hH hS hL (va_runS (As := As) (rest := st) ⟨X.1, X.2.1, X.2.2.1, X.2.2.2.1, X.2.2.2.2.1⟩ hM cw ⟨zblind hg, fun U hU hW => z_pre X (As := As) hg hH hS U hU hW⟩ rfl hn hL.1 rfl (lv_room hroom) hdg hf9) kk
theorem z_callSN (X : zX p s m args meth c D cl tys b0 G cc nL own Ts ret) {y : MethodName} {bytes : ByteArray} {maxL n index mc ms : Nat} {ret' : Option FieldType} {ws : List Cond} {rm : Room} {As : List Value} {P : Option Value → Nat → (Nat → va_E) → Prop} {st0 : List Value} (hg : zGok b0 G) {host : String} (hM : zM l D cl tys b0 G y ws rm mc ms As N f P) (hdg : decode cc pc = .ok (.invokestatic index, 3)) (cw : va_CN R s args own index y host bytes maxL ret' ws rm mc ms n ∧ (Cond.static y).before args s = true ∧ True) (hst : st0 = As.reverse ++ st) (hn : As.length = n) (hroom : (st.map fun v => v.category).sum ≤ 8) (hf9 : cells + mc ≤ R.cells ∧ slots + ms ≤ R.slots) (kk : ∀ (r : Option Value) (N' : Nat) (f' : Nat → va_E), P r N' f' → N ≤ N' → zW p l e R s m args below meth c D cl b0 nL (cells + mc) (slots + ms) Q N' f' (pc + 3) lv (r.toList ++ st)) : zW p l e R s m args below meth c D cl b0 nL cells slots Q N f pc lv st0 := fun H locs ls hH hS hL => by
  subst hst
  exact z_run X hH hS hL (va_runSN (As := As) (rest := st) ⟨X.1, X.2.1, X.2.2.1, X.2.2.2.1, X.2.2.2.2.1⟩ hM cw ⟨zblind hg, fun U hU hW => z_pre X (As := As) hg hH hS U hU hW⟩ rfl hn hL.1 rfl (lv_room hroom) hdg hf9) kk
theorem z_callI (X : zX p s m args meth c D cl tys b0 G cc nL own Ts ret) {y : MethodName} {bytes : ByteArray} {maxL n index mc ms : Nat} {ret' : Option FieldType} {ws : List Cond} {rm : Room} {As : List Value} {P : Option Value → Nat → (Nat → va_E) → Prop} {st0 : List Value} (hg : zGok b0 G) {a : Nat} (hM : zM l D cl tys b0 G y ws rm mc ms (.ref a :: As) N f P) (hdg : decode cc pc = .ok (.invokespecial index, 3)) (cw : CallB R s args own index y bytes maxL none ws rm mc ms n ∧ y.name = "<init>" ∧ (Cond.instanceMethod y).before args s = true) (hst : st0 = As.reverse ++ .ref a :: st) (hn : As.length = n) (hroom : (st.map fun v => v.category).sum ≤ 8) (hf9 : cells + mc ≤ R.cells ∧ slots + ms ≤ R.slots) (kk : ∀ (r : Option Value) (N' : Nat) (f' : Nat → va_E), P r N' f' → N ≤ N' → zW p l e R s m args below meth c D cl b0 nL (cells + mc) (slots + ms) Q N' f' (pc + 3) lv (r.toList ++ st)) : zW p l e R s m args below meth c D cl b0 nL cells slots Q N f pc lv st0 := fun H locs ls hH hS hL => by
  subst hst
  exact z_run X hH hS hL (va_runI (As := As) (rest := st) ⟨X.1, X.2.1, X.2.2.1, X.2.2.2.1, X.2.2.2.2.1⟩ hM cw ⟨zblind hg, fun U hU hW => z_pre X (As := .ref a :: As) hg hH hS U hU hW⟩ rfl hn hL.1 rfl (lv_room hroom) hdg hf9) kk
theorem z_callIN (X : zX p s m args meth c D cl tys b0 G cc nL own Ts ret) {y : MethodName} {bytes : ByteArray} {maxL n index mc ms : Nat} {ret' : Option FieldType} {ws : List Cond} {rm : Room} {As : List Value} {P : Option Value → Nat → (Nat → va_E) → Prop} {st0 : List Value} (hg : zGok b0 G) {host : String} {a : Nat} (hM : zM l D cl tys b0 G y ws rm mc ms (.ref a :: As) N f P) (hdg : decode cc pc = .ok (.invokespecial index, 3)) (cw : va_CN R s args own index y host bytes maxL none ws rm mc ms n ∧ y.name = "<init>" ∧ (Cond.instanceMethod y).before args s = true) (hst : st0 = As.reverse ++ .ref a :: st) (hn : As.length = n) (hroom : (st.map fun v => v.category).sum ≤ 8) (hf9 : cells + mc ≤ R.cells ∧ slots + ms ≤ R.slots) (kk : ∀ (r : Option Value) (N' : Nat) (f' : Nat → va_E), P r N' f' → N ≤ N' → zW p l e R s m args below meth c D cl b0 nL (cells + mc) (slots + ms) Q N' f' (pc + 3) lv (r.toList ++ st)) : zW p l e R s m args below meth c D cl b0 nL cells slots Q N f pc lv st0 := fun H locs ls hH hS hL => by
  subst hst
  exact z_run X hH hS hL (va_runIN (As := As) (rest := st) ⟨X.1, X.2.1, X.2.2.1, X.2.2.2.1, X.2.2.2.2.1⟩ hM cw ⟨zblind hg, fun U hU hW => z_pre X (As := .ref a :: As) hg hH hS U hU hW⟩ rfl hn hL.1 rfl (lv_room hroom) hdg hf9) kk
theorem z_iret (X : zX p s m args meth c D cl tys b0 G cc nL own Ts (some .int)) {P : Option Value → Nat → (Nat → va_E) → Prop} {v : Int32} (hdg : decode cc pc = .ok (.ireturn, 1)) (hP : P (some (.int v)) N f) : zW p l e R s m args below meth c D cl b0 nL cells slots (MQ below (zQ D cl b0 P) args s cells slots (zA b0)) N f pc lv [.int v] := fun H locs ls hH hS hL => W.iret X.1 X.2.1 X.2.2.2.2.2.2.2.1 (fun t ht hW => ⟨_, N, f, rfl, by rw [ht]; exact hH, fun q hq => by rw [ht]; exact zlow X.2.2.2.2.2.2.2.2.2 hS q hq, by rw [← hH.1]; exact hS.1, hP⟩) hS.2.2 hdg X.2.2.2.2.2.2.2.2.1
theorem z_zret (X : zX p s m args meth c D cl tys b0 G cc nL own Ts (some .boolean)) {P : Option Value → Nat → (Nat → va_E) → Prop} {v : Int32} (hdg : decode cc pc = .ok (.ireturn, 1)) (hn : narrow .boolean (.int v) = .int v) (hP : P (some (.int v)) N f) : zW p l e R s m args below meth c D cl b0 nL cells slots (MQ below (zQ D cl b0 P) args s cells slots (zA b0)) N f pc lv [.int v] := fun H locs ls hH hS hL => W.zret X.1 X.2.1 X.2.2.2.2.2.2.2.1 hn (fun t ht hW => ⟨_, N, f, rfl, by rw [ht]; exact hH, fun q hq => by rw [ht]; exact zlow X.2.2.2.2.2.2.2.2.2 hS q hq, by rw [← hH.1]; exact hS.1, hP⟩) hS.2.2 hdg X.2.2.2.2.2.2.2.2.1
theorem z_vret (X : zX p s m args meth c D cl tys b0 G cc nL own Ts none) {P : Option Value → Nat → (Nat → va_E) → Prop} (hdg : decode cc pc = .ok (.return_, 1)) (hP : P none N f) : zW p l e R s m args below meth c D cl b0 nL cells slots (MQ below (zQ D cl b0 P) args s cells slots (zA b0)) N f pc lv [] := fun H locs ls hH hS hL => W.vret X.1 X.2.1 X.2.2.2.2.2.2.2.1 (fun t ht hW => ⟨_, N, f, rfl, by rw [ht]; exact hH, fun q hq => by rw [ht]; exact zlow X.2.2.2.2.2.2.2.2.2 hS q hq, by rw [← hH.1]; exact hS.1, hP⟩) hS.2.2 hdg X.2.2.2.2.2.2.2.2.1
theorem z_aret {E : String} (X : zX p s m args meth c D cl tys b0 G cc nL own Ts (some (.object E))) {P : Option Value → Nat → (Nat → va_E) → Prop} {v : Value} (hdg : decode cc pc = .ok (.areturn, 1)) (hv : v = .null ∨ ∃ a, v = .ref a) (hP : P (some v) N f) : zW p l e R s m args below meth c D cl b0 nL cells slots (MQ below (zQ D cl b0 P) args s cells slots (zA b0)) N f pc lv [v] := fun H locs ls hH hS hL => W.aret X.1 X.2.1 X.2.2.2.2.2.2.2.1 (Or.inl ⟨_, rfl⟩) hv (fun t ht hW => ⟨_, N, f, rfl, by rw [ht]; exact hH, fun q hq => by rw [ht]; exact zlow X.2.2.2.2.2.2.2.2.2 hS q hq, by rw [← hH.1]; exact hS.1, hP⟩) hS.2.2 hdg X.2.2.2.2.2.2.2.2.1
theorem z_aretA {t9 : FieldType} (X : zX p s m args meth c D cl tys b0 G cc nL own Ts (some (.array t9))) {P : Option Value → Nat → (Nat → va_E) → Prop} {v : Value} (hdg : decode cc pc = .ok (.areturn, 1)) (hv : v = .null ∨ ∃ a, v = .ref a) (hP : P (some v) N f) : zW p l e R s m args below meth c D cl b0 nL cells slots (MQ below (zQ D cl b0 P) args s cells slots (zA b0)) N f pc lv [v] := fun H locs ls hH hS hL => W.aret X.1 X.2.1 X.2.2.2.2.2.2.2.1 (Or.inr ⟨_, rfl⟩) hv (fun t ht hW => ⟨_, N, f, rfl, by rw [ht]; exact hH, fun q hq => by rw [ht]; exact zlow X.2.2.2.2.2.2.2.2.2 hS q hq, by rw [← hH.1]; exact hS.1, hP⟩) hS.2.2 hdg X.2.2.2.2.2.2.2.2.1
end ZZ
/-- G holds the tables' words -/
def zGw (G : State → Prop) (Ts : List Cond) : Prop := ∀ (s : State) (args : Array Value), G s → ∀ w ∈ Ts, w.before args s = true
/-- a contract out of a walk from the entry -/
theorem zM.of {l : Launch} {D : va_G} {cl : List vw_C} {tys : List (ClassId × FieldType)} {b0 : Nat} {G : State → Prop} {Ts : List Cond} {y : MethodName} {rm : Room} {mc ms nL : Nat} {cc : ByteArray} {ret : Option FieldType} {As : List Value} {N : Nat} {f : Nat → va_E} {P : Option Value → Nat → (Nat → va_E) → Prop}
    (hgw : zGw G Ts) (hy : plainName y.cls = true) (hl : (lg_sl As).length ≤ nL)
    (body : ∀ (p : Program) (e : Env) (s : State) (m : MethodId) (args : Array Value) (below : List Frame) (meth : Method) (c : Code), zX p s m args meth c D cl tys b0 G cc nL y.cls Ts ret → meth.name = y.name → b0 ≤ N →
      zW p l e rm s m args below meth c D cl b0 nL 0 0 (MQ below (zQ D cl b0 P) args s mc ms (zA b0)) N f 0 (lv_args 0 As) []) : zM l D cl tys b0 G y [Cond.code y cc nL ret] rm mc ms As N f P := by
  refine Met.ofW (cc := cc) (maxL := nL) (ret := ret) hy rfl ?_
  intro p e s m args below meth c s₁ B hml hv
  obtain ⟨rfl, hG, hK, hH, hb⟩ := hv
  have hown : s.vm.findClass y.cls = some m.cls := findClass_of_methodNamed B.named
  have X : zX p s m As.toArray meth c D cl tys b0 G cc nL y.cls Ts ret := ⟨B.exec, B.bytes, hml, hown, hgw s _ hG, hG, hK, B.returns, B.notSynchronized, by rw [hH.1]; exact hb⟩
  have hL := lv_entry As (n := nL) hl
  rw [lg_entry_eq]
  exact body p e s m As.toArray below meth c X (name_of_methodNamed B.named B.method).1 hb s.heap [] _ hH va_S.rf hL
/-- a call's words, out of the tables -/
theorem z_cb {R : Room} {s : State} {args : Array Value} {Ts : List Cond} {own : String} {index maxL n mc ms : Nat} {y : MethodName} {bytes : ByteArray} {ret : Option FieldType} {rm : Room} (ht : ∀ w ∈ Ts, w.before args s = true) (h1 : Cond.methodLink own index y ∈ Ts) (h2 : Cond.code y bytes maxL ret ∈ Ts) (h3 : Cond.initialized y.cls ∈ Ts)
    (hd : y.cls ≠ "java/lang/invoke/MethodHandle" ∧ y.cls ≠ "java/lang/invoke/VarHandle" ∧ (parseMethodDescriptor y.desc).map (fun d => d.parameters.length) = some n) (hrc : rm.cells = mc) (hrs : rm.slots = ms) (hR : rm.frames + 1 ≤ R.frames ∧ 8 + (maxL + 11) + rm.locals ≤ R.locals) : CallB R s args own index y bytes maxL ret [Cond.code y bytes maxL ret] rm mc ms n := by
  refine callB_of n ht (fun w hw => ?_) rfl hrc hrs (ht _ h3) (ht _ h1) hd hR
  rcases List.mem_singleton.mp hw with rfl
  exact ⟨h2, Or.inl rfl⟩
theorem z_cbN {R : Room} {s : State} {args : Array Value} {Ts : List Cond} {own host : String} {index maxL n mc ms : Nat} {y : MethodName} {bytes : ByteArray} {ret : Option FieldType} {rm : Room} (ht : ∀ w ∈ Ts, w.before args s = true) (h1 : va_Nw (.methodLinkNest own index y host) s) (h2 : Cond.code y bytes maxL ret ∈ Ts) (h3 : Cond.initialized y.cls ∈ Ts)
    (hd : y.cls ≠ "java/lang/invoke/MethodHandle" ∧ y.cls ≠ "java/lang/invoke/VarHandle" ∧ (parseMethodDescriptor y.desc).map (fun d => d.parameters.length) = some n) (hrc : rm.cells = mc) (hrs : rm.slots = ms) (hR : rm.frames + 1 ≤ R.frames ∧ 8 + (maxL + 11) + rm.locals ≤ R.locals) : va_CN R s args own index y host bytes maxL ret [Cond.code y bytes maxL ret] rm mc ms n := by
  refine va_cnB n ht (fun w hw => ?_) rfl hrc hrs h1 (ht _ h3) hd hR
  rcases List.mem_singleton.mp hw with rfl
  exact ⟨h2, Or.inl rfl⟩
end
section
theorem zT_in {w : Cond} (i : Nat) (h : lw_tbl[i]? = some w) (hg : goodWord w = true) : w ∈ lw_tbl.filter goodWord := List.mem_filter.mpr ⟨List.mem_of_getElem? h, hg⟩
/-- the good words of the tables -/
def zTs : List Cond := lw_tbl.filter goodWord
def R_Decl : String := "CheckRules$Declaration"
def F_Decl : u_T := fun k => match k with
  | _ => ("CheckRules$Declaration", "values", "[I", true)
def t_Decl : Nat → FieldType := fun k => match k with
  | _ => .array .int
theorem n_Decl : ∀ a, a < 1 → ∀ b, b < 1 → a ≠ b → (F_Decl a).2.1 ≠ (F_Decl b).2.1 := by decide +kernel
theorem ty_Decl : ∀ k, k < 1 → parseFieldDescriptor (F_Decl k).2.2.1 = some (t_Decl k) := by decide +kernel
theorem in_Decl : ∀ w ∈ u_ws R_Decl F_Decl 1, w ∈ zTs := by
  have h : (u_ws R_Decl F_Decl 1) = [Cond.laysFinal "CheckRules$Declaration" "CheckRules$Declaration" "values" "[I"] := by decide +kernel
  rw [h]
  exact List.forall_mem_cons.mpr ⟨zT_in 193 (by decide +kernel) rfl, fun _ h => absurd h List.not_mem_nil⟩
def R_Prt : String := "CheckRules$Printer"
def F_Prt : u_T := fun k => match k with
  | _ => ("CheckRules$Printer", "printed", "LCheckRules$Signs;", true)
def t_Prt : Nat → FieldType := fun k => match k with
  | _ => .object "CheckRules$Signs"
theorem n_Prt : ∀ a, a < 1 → ∀ b, b < 1 → a ≠ b → (F_Prt a).2.1 ≠ (F_Prt b).2.1 := by decide +kernel
theorem ty_Prt : ∀ k, k < 1 → parseFieldDescriptor (F_Prt k).2.2.1 = some (t_Prt k) := by decide +kernel
theorem in_Prt : ∀ w ∈ u_ws R_Prt F_Prt 1, w ∈ zTs := by
  have h : (u_ws R_Prt F_Prt 1) = [Cond.laysFinal "CheckRules$Printer" "CheckRules$Printer" "printed" "LCheckRules$Signs;"] := by decide +kernel
  rw [h]
  exact List.forall_mem_cons.mpr ⟨zT_in 217 (by decide +kernel) rfl, fun _ h => absurd h List.not_mem_nil⟩
def R_Rdr : String := "CheckRules$Reader"
def F_Rdr : u_T := fun k => match k with
  | 0 => ("CheckRules$Reader", "text", "LCheckRules$Signs;", true)
  | 1 => ("CheckRules$Reader", "tree", "LCheckRules$Tree;", true)
  | 2 => ("CheckRules$Reader", "ruleStarts", "[I", true)
  | 3 => ("CheckRules$Reader", "andStarts", "[I", true)
  | 4 => ("CheckRules$Reader", "depths", "[I", true)
  | 5 => ("CheckRules$Reader", "level", "I", false)
  | 6 => ("CheckRules$Reader", "depth", "I", false)
  | 7 => ("CheckRules$Reader", "sumStart", "I", false)
  | 8 => ("CheckRules$Reader", "compared", "Z", false)
  | 9 => ("CheckRules$Reader", "state", "I", false)
  | 10 => ("CheckRules$Reader", "place", "I", false)
  | 11 => ("CheckRules$Reader", "token", "I", false)
  | 12 => ("CheckRules$Reader", "tokenStart", "I", false)
  | _ => ("CheckRules$Reader", "tokenValue", "I", false)
def t_Rdr : Nat → FieldType := fun k => match k with
  | 0 => .object "CheckRules$Signs"
  | 1 => .object "CheckRules$Tree"
  | 2 => .array .int
  | 3 => .array .int
  | 4 => .array .int
  | 5 => .int
  | 6 => .int
  | 7 => .int
  | 8 => .boolean
  | 9 => .int
  | 10 => .int
  | 11 => .int
  | 12 => .int
  | _ => .int
theorem n_Rdr : ∀ a, a < 14 → ∀ b, b < 14 → a ≠ b → (F_Rdr a).2.1 ≠ (F_Rdr b).2.1 := by decide +kernel
theorem ty_Rdr : ∀ k, k < 14 → parseFieldDescriptor (F_Rdr k).2.2.1 = some (t_Rdr k) := by decide +kernel
theorem in_Rdr : ∀ w ∈ u_ws R_Rdr F_Rdr 14, w ∈ zTs := by
  have h : (u_ws R_Rdr F_Rdr 14) = [Cond.laysFinal "CheckRules$Reader" "CheckRules$Reader" "text" "LCheckRules$Signs;", Cond.laysFinal "CheckRules$Reader" "CheckRules$Reader" "tree" "LCheckRules$Tree;", Cond.laysFinal "CheckRules$Reader" "CheckRules$Reader" "ruleStarts" "[I", Cond.laysFinal "CheckRules$Reader" "CheckRules$Reader" "andStarts" "[I", Cond.laysFinal "CheckRules$Reader" "CheckRules$Reader" "depths" "[I", Cond.lays "CheckRules$Reader" "CheckRules$Reader" "level" "I", Cond.lays "CheckRules$Reader" "CheckRules$Reader" "depth" "I", Cond.lays "CheckRules$Reader" "CheckRules$Reader" "sumStart" "I", Cond.lays "CheckRules$Reader" "CheckRules$Reader" "compared" "Z", Cond.lays "CheckRules$Reader" "CheckRules$Reader" "state" "I", Cond.lays "CheckRules$Reader" "CheckRules$Reader" "place" "I", Cond.lays "CheckRules$Reader" "CheckRules$Reader" "token" "I", Cond.lays "CheckRules$Reader" "CheckRules$Reader" "tokenStart" "I", Cond.lays "CheckRules$Reader" "CheckRules$Reader" "tokenValue" "I"] := by decide +kernel
  rw [h]
  exact List.forall_mem_cons.mpr ⟨zT_in 147 (by decide +kernel) rfl, List.forall_mem_cons.mpr ⟨zT_in 149 (by decide +kernel) rfl, List.forall_mem_cons.mpr ⟨zT_in 151 (by decide +kernel) rfl, List.forall_mem_cons.mpr ⟨zT_in 153 (by decide +kernel) rfl, List.forall_mem_cons.mpr ⟨zT_in 155 (by decide +kernel) rfl, List.forall_mem_cons.mpr ⟨zT_in 157 (by decide +kernel) rfl, List.forall_mem_cons.mpr ⟨zT_in 159 (by decide +kernel) rfl, List.forall_mem_cons.mpr ⟨zT_in 161 (by decide +kernel) rfl, List.forall_mem_cons.mpr ⟨zT_in 163 (by decide +kernel) rfl, List.forall_mem_cons.mpr ⟨zT_in 165 (by decide +kernel) rfl, List.forall_mem_cons.mpr ⟨zT_in 167 (by decide +kernel) rfl, List.forall_mem_cons.mpr ⟨zT_in 169 (by decide +kernel) rfl, List.forall_mem_cons.mpr ⟨zT_in 171 (by decide +kernel) rfl, List.forall_mem_cons.mpr ⟨zT_in 173 (by decide +kernel) rfl, fun _ h => absurd h List.not_mem_nil⟩⟩⟩⟩⟩⟩⟩⟩⟩⟩⟩⟩⟩⟩
def R_Rul : String := "CheckRules$Rule"
def F_Rul : u_T := fun k => match k with
  | 0 => ("CheckRules$Rule", "tree", "LCheckRules$Tree;", true)
  | 1 => ("CheckRules$Rule", "group", "I", false)
  | 2 => ("CheckRules$Rule", "hard", "Z", false)
  | 3 => ("CheckRules$Rule", "firstDay", "I", false)
  | 4 => ("CheckRules$Rule", "latest", "I", false)
  | 5 => ("CheckRules$Rule", "met", "Z", false)
  | 6 => ("CheckRules$Rule", "answered", "Z", false)
  | _ => ("CheckRules$Rule", "faulty", "Z", false)
def t_Rul : Nat → FieldType := fun k => match k with
  | 0 => .object "CheckRules$Tree"
  | 1 => .int
  | 2 => .boolean
  | 3 => .int
  | 4 => .int
  | 5 => .boolean
  | 6 => .boolean
  | _ => .boolean
theorem n_Rul : ∀ a, a < 8 → ∀ b, b < 8 → a ≠ b → (F_Rul a).2.1 ≠ (F_Rul b).2.1 := by decide +kernel
theorem ty_Rul : ∀ k, k < 8 → parseFieldDescriptor (F_Rul k).2.2.1 = some (t_Rul k) := by decide +kernel
theorem in_Rul : ∀ w ∈ u_ws R_Rul F_Rul 8, w ∈ zTs := by
  have h : (u_ws R_Rul F_Rul 8) = [Cond.laysFinal "CheckRules$Rule" "CheckRules$Rule" "tree" "LCheckRules$Tree;", Cond.lays "CheckRules$Rule" "CheckRules$Rule" "group" "I", Cond.lays "CheckRules$Rule" "CheckRules$Rule" "hard" "Z", Cond.lays "CheckRules$Rule" "CheckRules$Rule" "firstDay" "I", Cond.lays "CheckRules$Rule" "CheckRules$Rule" "latest" "I", Cond.lays "CheckRules$Rule" "CheckRules$Rule" "met" "Z", Cond.lays "CheckRules$Rule" "CheckRules$Rule" "answered" "Z", Cond.lays "CheckRules$Rule" "CheckRules$Rule" "faulty" "Z"] := by decide +kernel
  rw [h]
  exact List.forall_mem_cons.mpr ⟨zT_in 758 (by decide +kernel) rfl, List.forall_mem_cons.mpr ⟨zT_in 760 (by decide +kernel) rfl, List.forall_mem_cons.mpr ⟨zT_in 762 (by decide +kernel) rfl, List.forall_mem_cons.mpr ⟨zT_in 764 (by decide +kernel) rfl, List.forall_mem_cons.mpr ⟨zT_in 766 (by decide +kernel) rfl, List.forall_mem_cons.mpr ⟨zT_in 768 (by decide +kernel) rfl, List.forall_mem_cons.mpr ⟨zT_in 770 (by decide +kernel) rfl, List.forall_mem_cons.mpr ⟨zT_in 772 (by decide +kernel) rfl, fun _ h => absurd h List.not_mem_nil⟩⟩⟩⟩⟩⟩⟩⟩
def R_Sgn : String := "CheckRules$Signs"
def F_Sgn : u_T := fun k => match k with
  | 0 => ("CheckRules$Signs", "row", "[I", true)
  | _ => ("CheckRules$Signs", "used", "I", false)
def t_Sgn : Nat → FieldType := fun k => match k with
  | 0 => .array .int
  | _ => .int
theorem n_Sgn : ∀ a, a < 2 → ∀ b, b < 2 → a ≠ b → (F_Sgn a).2.1 ≠ (F_Sgn b).2.1 := by decide +kernel
theorem ty_Sgn : ∀ k, k < 2 → parseFieldDescriptor (F_Sgn k).2.2.1 = some (t_Sgn k) := by decide +kernel
theorem in_Sgn : ∀ w ∈ u_ws R_Sgn F_Sgn 2, w ∈ zTs := by
  have h : (u_ws R_Sgn F_Sgn 2) = [Cond.laysFinal "CheckRules$Signs" "CheckRules$Signs" "row" "[I", Cond.lays "CheckRules$Signs" "CheckRules$Signs" "used" "I"] := by decide +kernel
  rw [h]
  exact List.forall_mem_cons.mpr ⟨zT_in 107 (by decide +kernel) rfl, List.forall_mem_cons.mpr ⟨zT_in 109 (by decide +kernel) rfl, fun _ h => absurd h List.not_mem_nil⟩⟩
def R_Tre : String := "CheckRules$Tree"
def F_Tre : u_T := fun k => match k with
  | 0 => ("CheckRules$Tree", "kinds", "[I", true)
  | 1 => ("CheckRules$Tree", "values", "[I", true)
  | 2 => ("CheckRules$Tree", "rights", "[I", true)
  | _ => ("CheckRules$Tree", "used", "I", false)
def t_Tre : Nat → FieldType := fun k => match k with
  | 0 => .array .int
  | 1 => .array .int
  | 2 => .array .int
  | _ => .int
theorem n_Tre : ∀ a, a < 4 → ∀ b, b < 4 → a ≠ b → (F_Tre a).2.1 ≠ (F_Tre b).2.1 := by decide +kernel
theorem ty_Tre : ∀ k, k < 4 → parseFieldDescriptor (F_Tre k).2.2.1 = some (t_Tre k) := by decide +kernel
theorem in_Tre : ∀ w ∈ u_ws R_Tre F_Tre 4, w ∈ zTs := by
  have h : (u_ws R_Tre F_Tre 4) = [Cond.laysFinal "CheckRules$Tree" "CheckRules$Tree" "kinds" "[I", Cond.laysFinal "CheckRules$Tree" "CheckRules$Tree" "values" "[I", Cond.laysFinal "CheckRules$Tree" "CheckRules$Tree" "rights" "[I", Cond.lays "CheckRules$Tree" "CheckRules$Tree" "used" "I"] := by decide +kernel
  rw [h]
  exact List.forall_mem_cons.mpr ⟨zT_in 123 (by decide +kernel) rfl, List.forall_mem_cons.mpr ⟨zT_in 125 (by decide +kernel) rfl, List.forall_mem_cons.mpr ⟨zT_in 127 (by decide +kernel) rfl, List.forall_mem_cons.mpr ⟨zT_in 129 (by decide +kernel) rfl, fun _ h => absurd h List.not_mem_nil⟩⟩⟩⟩
def R_Wrk : String := "CheckRules$Worker"
def F_Wrk : u_T := fun k => match k with
  | 0 => ("CheckRules$Worker", "declaration", "LCheckRules$Declaration;", true)
  | 1 => ("CheckRules$Worker", "results", "[I", true)
  | _ => ("CheckRules$Worker", "lineBits", "I", false)
def t_Wrk : Nat → FieldType := fun k => match k with
  | 0 => .object "CheckRules$Declaration"
  | 1 => .array .int
  | _ => .int
theorem n_Wrk : ∀ a, a < 3 → ∀ b, b < 3 → a ≠ b → (F_Wrk a).2.1 ≠ (F_Wrk b).2.1 := by decide +kernel
theorem ty_Wrk : ∀ k, k < 3 → parseFieldDescriptor (F_Wrk k).2.2.1 = some (t_Wrk k) := by decide +kernel
theorem in_Wrk : ∀ w ∈ u_ws R_Wrk F_Wrk 3, w ∈ zTs := by
  have h : (u_ws R_Wrk F_Wrk 3) = [Cond.laysFinal "CheckRules$Worker" "CheckRules$Worker" "declaration" "LCheckRules$Declaration;", Cond.laysFinal "CheckRules$Worker" "CheckRules$Worker" "results" "[I", Cond.lays "CheckRules$Worker" "CheckRules$Worker" "lineBits" "I"] := by decide +kernel
  rw [h]
  exact List.forall_mem_cons.mpr ⟨zT_in 200 (by decide +kernel) rfl, List.forall_mem_cons.mpr ⟨zT_in 202 (by decide +kernel) rfl, List.forall_mem_cons.mpr ⟨zT_in 204 (by decide +kernel) rfl, fun _ h => absurd h List.not_mem_nil⟩⟩⟩
def R_Cls : String := "CheckRules"
def F_Cls : u_T := fun k => match k with
  | 0 => ("CheckRules", "reader", "LCheckRules$Reader;", true)
  | 1 => ("CheckRules", "worker", "LCheckRules$Worker;", true)
  | 2 => ("CheckRules", "printer", "LCheckRules$Printer;", true)
  | 3 => ("CheckRules", "rules", "[LCheckRules$Rule;", true)
  | 4 => ("CheckRules", "ruleCount", "I", false)
  | 5 => ("CheckRules", "checkCount", "I", false)
  | _ => ("CheckRules", "today", "I", false)
def t_Cls : Nat → FieldType := fun k => match k with
  | 0 => .object "CheckRules$Reader"
  | 1 => .object "CheckRules$Worker"
  | 2 => .object "CheckRules$Printer"
  | 3 => .array (.object "CheckRules$Rule")
  | 4 => .int
  | 5 => .int
  | _ => .int
theorem n_Cls : ∀ a, a < 7 → ∀ b, b < 7 → a ≠ b → (F_Cls a).2.1 ≠ (F_Cls b).2.1 := by decide +kernel
theorem ty_Cls : ∀ k, k < 7 → parseFieldDescriptor (F_Cls k).2.2.1 = some (t_Cls k) := by decide +kernel
theorem in_Cls : ∀ w ∈ u_ws R_Cls F_Cls 7, w ∈ zTs := by
  have h : (u_ws R_Cls F_Cls 7) = [Cond.laysFinal "CheckRules" "CheckRules" "reader" "LCheckRules$Reader;", Cond.laysFinal "CheckRules" "CheckRules" "worker" "LCheckRules$Worker;", Cond.laysFinal "CheckRules" "CheckRules" "printer" "LCheckRules$Printer;", Cond.laysFinal "CheckRules" "CheckRules" "rules" "[LCheckRules$Rule;", Cond.lays "CheckRules" "CheckRules" "ruleCount" "I", Cond.lays "CheckRules" "CheckRules" "checkCount" "I", Cond.lays "CheckRules" "CheckRules" "today" "I"] := by decide +kernel
  rw [h]
  exact List.forall_mem_cons.mpr ⟨zT_in 229 (by decide +kernel) rfl, List.forall_mem_cons.mpr ⟨zT_in 231 (by decide +kernel) rfl, List.forall_mem_cons.mpr ⟨zT_in 233 (by decide +kernel) rfl, List.forall_mem_cons.mpr ⟨zT_in 235 (by decide +kernel) rfl, List.forall_mem_cons.mpr ⟨zT_in 237 (by decide +kernel) rfl, List.forall_mem_cons.mpr ⟨zT_in 239 (by decide +kernel) rfl, List.forall_mem_cons.mpr ⟨zT_in 241 (by decide +kernel) rfl, fun _ h => absurd h List.not_mem_nil⟩⟩⟩⟩⟩⟩⟩
def R_Mod : String := "CheckRulesModel"
def F_Mod : u_T := fun k => match k with
  | 0 => ("CheckRulesModel", "thrown", "I", false)
  | 1 => ("CheckRulesModel", "text", "[I", true)
  | 2 => ("CheckRulesModel", "length", "I", false)
  | 3 => ("CheckRulesModel", "rules", "I", false)
  | 4 => ("CheckRulesModel", "checks", "I", false)
  | 5 => ("CheckRulesModel", "today", "I", false)
  | 6 => ("CheckRulesModel", "kind", "[I", true)
  | 7 => ("CheckRulesModel", "told", "[I", true)
  | 8 => ("CheckRulesModel", "left", "[I", true)
  | 9 => ("CheckRulesModel", "right", "[I", true)
  | 10 => ("CheckRulesModel", "size", "[I", true)
  | 11 => ("CheckRulesModel", "group", "[I", true)
  | 12 => ("CheckRulesModel", "isHard", "[Z", true)
  | 13 => ("CheckRulesModel", "edition", "[I", true)
  | 14 => ("CheckRulesModel", "before", "[I", true)
  | 15 => ("CheckRulesModel", "isMet", "[Z", true)
  | 16 => ("CheckRulesModel", "isAnswered", "[Z", true)
  | 17 => ("CheckRulesModel", "isBad", "[Z", true)
  | 18 => ("CheckRulesModel", "values", "[I", true)
  | 19 => ("CheckRulesModel", "has", "[Z", true)
  | 20 => ("CheckRulesModel", "madeKind", "[I", true)
  | 21 => ("CheckRulesModel", "madeTold", "[I", true)
  | 22 => ("CheckRulesModel", "madeLeft", "[I", true)
  | 23 => ("CheckRulesModel", "madeRight", "[I", true)
  | 24 => ("CheckRulesModel", "made", "I", false)
  | 25 => ("CheckRulesModel", "at", "I", false)
  | 26 => ("CheckRulesModel", "depth", "I", false)
  | 27 => ("CheckRulesModel", "wrong", "I", false)
  | 28 => ("CheckRulesModel", "openKind", "[I", true)
  | 29 => ("CheckRulesModel", "openNode", "[I", true)
  | 30 => ("CheckRulesModel", "open", "I", false)
  | 31 => ("CheckRulesModel", "amount", "[J", true)
  | 32 => ("CheckRulesModel", "isKnown", "[Z", true)
  | 33 => ("CheckRulesModel", "answer", "[I", true)
  | 34 => ("CheckRulesModel", "numbered", "[I", true)
  | 35 => ("CheckRulesModel", "printed", "[I", true)
  | 36 => ("CheckRulesModel", "signs", "I", false)
  | _ => ("CheckRulesModel", "toPrint", "[I", true)
def t_Mod : Nat → FieldType := fun k => match k with
  | 0 => .int
  | 1 => .array .int
  | 2 => .int
  | 3 => .int
  | 4 => .int
  | 5 => .int
  | 6 => .array .int
  | 7 => .array .int
  | 8 => .array .int
  | 9 => .array .int
  | 10 => .array .int
  | 11 => .array .int
  | 12 => .array .boolean
  | 13 => .array .int
  | 14 => .array .int
  | 15 => .array .boolean
  | 16 => .array .boolean
  | 17 => .array .boolean
  | 18 => .array .int
  | 19 => .array .boolean
  | 20 => .array .int
  | 21 => .array .int
  | 22 => .array .int
  | 23 => .array .int
  | 24 => .int
  | 25 => .int
  | 26 => .int
  | 27 => .int
  | 28 => .array .int
  | 29 => .array .int
  | 30 => .int
  | 31 => .array .long
  | 32 => .array .boolean
  | 33 => .array .int
  | 34 => .array .int
  | 35 => .array .int
  | 36 => .int
  | _ => .array .int
theorem n_Mod : ∀ a, a < 38 → ∀ b, b < 38 → a ≠ b → (F_Mod a).2.1 ≠ (F_Mod b).2.1 := by decide +kernel
theorem ty_Mod : ∀ k, k < 38 → parseFieldDescriptor (F_Mod k).2.2.1 = some (t_Mod k) := by decide +kernel
theorem in_Mod : ∀ w ∈ u_ws R_Mod F_Mod 38, w ∈ zTs := by
  have h : (u_ws R_Mod F_Mod 38) = [Cond.lays "CheckRulesModel" "CheckRulesModel" "thrown" "I", Cond.laysFinal "CheckRulesModel" "CheckRulesModel" "text" "[I", Cond.lays "CheckRulesModel" "CheckRulesModel" "length" "I", Cond.lays "CheckRulesModel" "CheckRulesModel" "rules" "I", Cond.lays "CheckRulesModel" "CheckRulesModel" "checks" "I", Cond.lays "CheckRulesModel" "CheckRulesModel" "today" "I", Cond.laysFinal "CheckRulesModel" "CheckRulesModel" "kind" "[I", Cond.laysFinal "CheckRulesModel" "CheckRulesModel" "told" "[I", Cond.laysFinal "CheckRulesModel" "CheckRulesModel" "left" "[I", Cond.laysFinal "CheckRulesModel" "CheckRulesModel" "right" "[I", Cond.laysFinal "CheckRulesModel" "CheckRulesModel" "size" "[I", Cond.laysFinal "CheckRulesModel" "CheckRulesModel" "group" "[I", Cond.laysFinal "CheckRulesModel" "CheckRulesModel" "isHard" "[Z", Cond.laysFinal "CheckRulesModel" "CheckRulesModel" "edition" "[I", Cond.laysFinal "CheckRulesModel" "CheckRulesModel" "before" "[I", Cond.laysFinal "CheckRulesModel" "CheckRulesModel" "isMet" "[Z", Cond.laysFinal "CheckRulesModel" "CheckRulesModel" "isAnswered" "[Z", Cond.laysFinal "CheckRulesModel" "CheckRulesModel" "isBad" "[Z", Cond.laysFinal "CheckRulesModel" "CheckRulesModel" "values" "[I", Cond.laysFinal "CheckRulesModel" "CheckRulesModel" "has" "[Z", Cond.laysFinal "CheckRulesModel" "CheckRulesModel" "madeKind" "[I", Cond.laysFinal "CheckRulesModel" "CheckRulesModel" "madeTold" "[I", Cond.laysFinal "CheckRulesModel" "CheckRulesModel" "madeLeft" "[I", Cond.laysFinal "CheckRulesModel" "CheckRulesModel" "madeRight" "[I", Cond.lays "CheckRulesModel" "CheckRulesModel" "made" "I", Cond.lays "CheckRulesModel" "CheckRulesModel" "at" "I", Cond.lays "CheckRulesModel" "CheckRulesModel" "depth" "I", Cond.lays "CheckRulesModel" "CheckRulesModel" "wrong" "I", Cond.laysFinal "CheckRulesModel" "CheckRulesModel" "openKind" "[I", Cond.laysFinal "CheckRulesModel" "CheckRulesModel" "openNode" "[I", Cond.lays "CheckRulesModel" "CheckRulesModel" "open" "I", Cond.laysFinal "CheckRulesModel" "CheckRulesModel" "amount" "[J", Cond.laysFinal "CheckRulesModel" "CheckRulesModel" "isKnown" "[Z", Cond.laysFinal "CheckRulesModel" "CheckRulesModel" "answer" "[I", Cond.laysFinal "CheckRulesModel" "CheckRulesModel" "numbered" "[I", Cond.laysFinal "CheckRulesModel" "CheckRulesModel" "printed" "[I", Cond.lays "CheckRulesModel" "CheckRulesModel" "signs" "I", Cond.laysFinal "CheckRulesModel" "CheckRulesModel" "toPrint" "[I"] := by decide +kernel
  rw [h]
  exact List.forall_mem_cons.mpr ⟨zT_in 953 (by decide +kernel) rfl, List.forall_mem_cons.mpr ⟨zT_in 955 (by decide +kernel) rfl, List.forall_mem_cons.mpr ⟨zT_in 957 (by decide +kernel) rfl, List.forall_mem_cons.mpr ⟨zT_in 959 (by decide +kernel) rfl, List.forall_mem_cons.mpr ⟨zT_in 961 (by decide +kernel) rfl, List.forall_mem_cons.mpr ⟨zT_in 963 (by decide +kernel) rfl, List.forall_mem_cons.mpr ⟨zT_in 965 (by decide +kernel) rfl, List.forall_mem_cons.mpr ⟨zT_in 967 (by decide +kernel) rfl, List.forall_mem_cons.mpr ⟨zT_in 969 (by decide +kernel) rfl, List.forall_mem_cons.mpr ⟨zT_in 971 (by decide +kernel) rfl, List.forall_mem_cons.mpr ⟨zT_in 973 (by decide +kernel) rfl, List.forall_mem_cons.mpr ⟨zT_in 975 (by decide +kernel) rfl, List.forall_mem_cons.mpr ⟨zT_in 977 (by decide +kernel) rfl, List.forall_mem_cons.mpr ⟨zT_in 979 (by decide +kernel) rfl, List.forall_mem_cons.mpr ⟨zT_in 981 (by decide +kernel) rfl, List.forall_mem_cons.mpr ⟨zT_in 983 (by decide +kernel) rfl, List.forall_mem_cons.mpr ⟨zT_in 985 (by decide +kernel) rfl, List.forall_mem_cons.mpr ⟨zT_in 987 (by decide +kernel) rfl, List.forall_mem_cons.mpr ⟨zT_in 989 (by decide +kernel) rfl, List.forall_mem_cons.mpr ⟨zT_in 991 (by decide +kernel) rfl, List.forall_mem_cons.mpr ⟨zT_in 993 (by decide +kernel) rfl, List.forall_mem_cons.mpr ⟨zT_in 995 (by decide +kernel) rfl, List.forall_mem_cons.mpr ⟨zT_in 997 (by decide +kernel) rfl, List.forall_mem_cons.mpr ⟨zT_in 999 (by decide +kernel) rfl, List.forall_mem_cons.mpr ⟨zT_in 1001 (by decide +kernel) rfl, List.forall_mem_cons.mpr ⟨zT_in 1003 (by decide +kernel) rfl, List.forall_mem_cons.mpr ⟨zT_in 1005 (by decide +kernel) rfl, List.forall_mem_cons.mpr ⟨zT_in 1007 (by decide +kernel) rfl, List.forall_mem_cons.mpr ⟨zT_in 1009 (by decide +kernel) rfl, List.forall_mem_cons.mpr ⟨zT_in 1011 (by decide +kernel) rfl, List.forall_mem_cons.mpr ⟨zT_in 1013 (by decide +kernel) rfl, List.forall_mem_cons.mpr ⟨zT_in 1015 (by decide +kernel) rfl, List.forall_mem_cons.mpr ⟨zT_in 1017 (by decide +kernel) rfl, List.forall_mem_cons.mpr ⟨zT_in 1019 (by decide +kernel) rfl, List.forall_mem_cons.mpr ⟨zT_in 1021 (by decide +kernel) rfl, List.forall_mem_cons.mpr ⟨zT_in 1023 (by decide +kernel) rfl, List.forall_mem_cons.mpr ⟨zT_in 1025 (by decide +kernel) rfl, List.forall_mem_cons.mpr ⟨zT_in 1027 (by decide +kernel) rfl, fun _ h => absurd h List.not_mem_nil⟩⟩⟩⟩⟩⟩⟩⟩⟩⟩⟩⟩⟩⟩⟩⟩⟩⟩⟩⟩⟩⟩⟩⟩⟩⟩⟩⟩⟩⟩⟩⟩⟩⟩⟩⟩⟩⟩
def R_ISE : String := "java/lang/IllegalStateException"
def F_ISE : u_T := fun k => match k with
  | _ => ("", "", "", false)
def t_ISE : Nat → FieldType := fun k => match k with
  | _ => .int
theorem n_ISE : ∀ a, a < 0 → ∀ b, b < 0 → a ≠ b → (F_ISE a).2.1 ≠ (F_ISE b).2.1 := by decide +kernel
theorem ty_ISE : ∀ k, k < 0 → parseFieldDescriptor (F_ISE k).2.2.1 = some (t_ISE k) := by decide +kernel
theorem in_ISE : ∀ w ∈ u_ws R_ISE F_ISE 0, w ∈ zTs := fun _ h => absurd h List.not_mem_nil
def R_IAE : String := "java/lang/IllegalArgumentException"
def F_IAE : u_T := fun k => match k with
  | _ => ("", "", "", false)
def t_IAE : Nat → FieldType := fun k => match k with
  | _ => .int
theorem n_IAE : ∀ a, a < 0 → ∀ b, b < 0 → a ≠ b → (F_IAE a).2.1 ≠ (F_IAE b).2.1 := by decide +kernel
theorem ty_IAE : ∀ k, k < 0 → parseFieldDescriptor (F_IAE k).2.2.1 = some (t_IAE k) := by decide +kernel
theorem in_IAE : ∀ w ∈ u_ws R_IAE F_IAE 0, w ∈ zTs := fun _ h => absurd h List.not_mem_nil
def R_IOE : String := "java/lang/IndexOutOfBoundsException"
def F_IOE : u_T := fun k => match k with
  | _ => ("", "", "", false)
def t_IOE : Nat → FieldType := fun k => match k with
  | _ => .int
theorem n_IOE : ∀ a, a < 0 → ∀ b, b < 0 → a ≠ b → (F_IOE a).2.1 ≠ (F_IOE b).2.1 := by decide +kernel
theorem ty_IOE : ∀ k, k < 0 → parseFieldDescriptor (F_IOE k).2.2.1 = some (t_IOE k) := by decide +kernel
theorem in_IOE : ∀ w ∈ u_ws R_IOE F_IOE 0, w ∈ zTs := fun _ h => absurd h List.not_mem_nil
/-- the classes whose objects the heap holds -/
def zcl : List vw_C := [(R_Decl, F_Decl, 1), (R_Prt, F_Prt, 1), (R_Rdr, F_Rdr, 14), (R_Rul, F_Rul, 8), (R_Sgn, F_Sgn, 2), (R_Tre, F_Tre, 4), (R_Wrk, F_Wrk, 3), (R_Cls, F_Cls, 7), (R_Mod, F_Mod, 38), (R_ISE, F_ISE, 0), (R_IAE, F_IAE, 0), (R_IOE, F_IOE, 0)]
theorem cl_Decl : zcl[0]? = some (R_Decl, F_Decl, 1) := rfl
theorem cl_Prt : zcl[1]? = some (R_Prt, F_Prt, 1) := rfl
theorem cl_Rdr : zcl[2]? = some (R_Rdr, F_Rdr, 14) := rfl
theorem cl_Rul : zcl[3]? = some (R_Rul, F_Rul, 8) := rfl
theorem cl_Sgn : zcl[4]? = some (R_Sgn, F_Sgn, 2) := rfl
theorem cl_Tre : zcl[5]? = some (R_Tre, F_Tre, 4) := rfl
theorem cl_Wrk : zcl[6]? = some (R_Wrk, F_Wrk, 3) := rfl
theorem cl_Cls : zcl[7]? = some (R_Cls, F_Cls, 7) := rfl
theorem cl_Mod : zcl[8]? = some (R_Mod, F_Mod, 38) := rfl
theorem cl_ISE : zcl[9]? = some (R_ISE, F_ISE, 0) := rfl
theorem cl_IAE : zcl[10]? = some (R_IAE, F_IAE, 0) := rfl
theorem cl_IOE : zcl[11]? = some (R_IOE, F_IOE, 0) := rfl
def y_Cls_init : MethodName := ⟨"CheckRules", "<init>", "()V"⟩
set_option maxRecDepth 100000 in
theorem mc_Cls_init : Cond.code y_Cls_init prog_1_method_1_code 1 (none) ∈ zTs := zT_in 89 rfl rfl
def y_Rdr_init : MethodName := ⟨"CheckRules$Reader", "<init>", "()V"⟩
set_option maxRecDepth 100000 in
theorem mc_Rdr_init : Cond.code y_Rdr_init prog_4_method_1_code 1 (none) ∈ zTs := zT_in 97 rfl rfl
def y_Sgn_init : MethodName := ⟨"CheckRules$Signs", "<init>", "()V"⟩
set_option maxRecDepth 100000 in
theorem mc_Sgn_init : Cond.code y_Sgn_init prog_6_method_1_code 1 (none) ∈ zTs := zT_in 103 rfl rfl
def y_Tre_init : MethodName := ⟨"CheckRules$Tree", "<init>", "()V"⟩
set_option maxRecDepth 100000 in
theorem mc_Tre_init : Cond.code y_Tre_init prog_7_method_1_code 1 (none) ∈ zTs := zT_in 117 rfl rfl
def y_Wrk_init : MethodName := ⟨"CheckRules$Worker", "<init>", "()V"⟩
set_option maxRecDepth 100000 in
theorem mc_Wrk_init : Cond.code y_Wrk_init prog_8_method_1_code 1 (none) ∈ zTs := zT_in 180 rfl rfl
def y_Decl_init : MethodName := ⟨"CheckRules$Declaration", "<init>", "()V"⟩
set_option maxRecDepth 100000 in
theorem mc_Decl_init : Cond.code y_Decl_init prog_2_method_1_code 1 (none) ∈ zTs := zT_in 186 rfl rfl
def y_Arrays_fill : MethodName := ⟨"java/util/Arrays", "fill", "([II)V"⟩
set_option maxRecDepth 100000 in
theorem mc_Arrays_fill : Cond.code y_Arrays_fill prog_24_method_103_code 4 (none) ∈ zTs := zT_in 191 rfl rfl
def y_Prt_init : MethodName := ⟨"CheckRules$Printer", "<init>", "()V"⟩
set_option maxRecDepth 100000 in
theorem mc_Prt_init : Cond.code y_Prt_init prog_3_method_1_code 1 (none) ∈ zTs := zT_in 211 rfl rfl
def y_Cls_sign : MethodName := ⟨"CheckRules", "sign", "(I)Z"⟩
set_option maxRecDepth 100000 in
theorem mc_Cls_sign : Cond.code y_Cls_sign prog_1_method_2_code 2 ((some FieldType.boolean)) ∈ zTs := zT_in 247 rfl rfl
def y_Sgn_add : MethodName := ⟨"CheckRules$Signs", "add", "(I)Z"⟩
set_option maxRecDepth 100000 in
theorem mc_Sgn_add : Cond.code y_Sgn_add prog_6_method_4_code 2 ((some FieldType.boolean)) ∈ zTs := zT_in 251 rfl rfl
def y_Cls_order : MethodName := ⟨"CheckRules", "order", "(IIZ)Z"⟩
set_option maxRecDepth 100000 in
theorem mc_Cls_order : Cond.code y_Cls_order prog_1_method_4_code 5 ((some FieldType.boolean)) ∈ zTs := zT_in 255 rfl rfl
def y_Cls_find : MethodName := ⟨"CheckRules", "find", "(I)LCheckRules$Rule;"⟩
set_option maxRecDepth 100000 in
theorem mc_Cls_find : Cond.code y_Cls_find prog_1_method_21_code 2 ((some (FieldType.object "CheckRules$Rule"))) ∈ zTs := zT_in 259 rfl rfl
def y_Cls_edition : MethodName := ⟨"CheckRules", "edition", "(II)Z"⟩
set_option maxRecDepth 100000 in
theorem mc_Cls_edition : Cond.code y_Cls_edition prog_1_method_5_code 4 ((some FieldType.boolean)) ∈ zTs := zT_in 263 rfl rfl
def y_Cls_isDay : MethodName := ⟨"CheckRules", "isDay", "(I)Z"⟩
set_option maxRecDepth 100000 in
theorem mc_Cls_isDay : Cond.code y_Cls_isDay prog_1_method_25_code 1 ((some FieldType.boolean)) ∈ zTs := zT_in 266 rfl rfl
def y_Cls_day : MethodName := ⟨"CheckRules", "day", "(I)Z"⟩
set_option maxRecDepth 100000 in
theorem mc_Cls_day : Cond.code y_Cls_day prog_1_method_6_code 2 ((some FieldType.boolean)) ∈ zTs := zT_in 271 rfl rfl
def y_Cls_field : MethodName := ⟨"CheckRules", "field", "(III)Z"⟩
set_option maxRecDepth 100000 in
theorem mc_Cls_field : Cond.code y_Cls_field prog_1_method_7_code 4 ((some FieldType.boolean)) ∈ zTs := zT_in 275 rfl rfl
def y_Decl_put : MethodName := ⟨"CheckRules$Declaration", "put", "(III)Z"⟩
set_option maxRecDepth 100000 in
theorem mc_Decl_put : Cond.code y_Decl_put prog_2_method_3_code 5 ((some FieldType.boolean)) ∈ zTs := zT_in 281 rfl rfl
def y_Decl_slotOf : MethodName := ⟨"CheckRules$Declaration", "slotOf", "(II)I"⟩
set_option maxRecDepth 100000 in
theorem mc_Decl_slotOf : Cond.code y_Decl_slotOf prog_2_method_2_code 2 ((some FieldType.int)) ∈ zTs := zT_in 284 rfl rfl
def y_Cls_without : MethodName := ⟨"CheckRules", "without", "(II)Z"⟩
set_option maxRecDepth 100000 in
theorem mc_Cls_without : Cond.code y_Cls_without prog_1_method_8_code 3 ((some FieldType.boolean)) ∈ zTs := zT_in 288 rfl rfl
def y_Decl_valueOn : MethodName := ⟨"CheckRules$Declaration", "valueOn", "(II)I"⟩
set_option maxRecDepth 100000 in
theorem mc_Decl_valueOn : Cond.code y_Decl_valueOn prog_2_method_4_code 4 ((some FieldType.int)) ∈ zTs := zT_in 292 rfl rfl
def y_Cls_check : MethodName := ⟨"CheckRules", "check", "()I"⟩
set_option maxRecDepth 100000 in
theorem mc_Cls_check : Cond.code y_Cls_check prog_1_method_9_code 2 ((some FieldType.int)) ∈ zTs := zT_in 297 rfl rfl
def y_Cls_checkOne : MethodName := ⟨"CheckRules", "checkOne", "(LCheckRules$Rule;)V"⟩
set_option maxRecDepth 100000 in
theorem mc_Cls_checkOne : Cond.code y_Cls_checkOne prog_1_method_22_code 2 (none) ∈ zTs := zT_in 301 rfl rfl
def y_Wrk_workOut : MethodName := ⟨"CheckRules$Worker", "workOut", "(LCheckRules$Tree;)I"⟩
set_option maxRecDepth 100000 in
theorem mc_Wrk_workOut : Cond.code y_Wrk_workOut prog_8_method_2_code 3 ((some FieldType.int)) ∈ zTs := zT_in 305 rfl rfl
def y_Decl_lineBits : MethodName := ⟨"CheckRules$Declaration", "lineBits", "()I"⟩
set_option maxRecDepth 100000 in
theorem mc_Decl_lineBits : Cond.code y_Decl_lineBits prog_2_method_7_code 4 ((some FieldType.int)) ∈ zTs := zT_in 309 rfl rfl
def y_Tre_size : MethodName := ⟨"CheckRules$Tree", "size", "()I"⟩
set_option maxRecDepth 100000 in
theorem mc_Tre_size : Cond.code y_Tre_size prog_7_method_5_code 1 ((some FieldType.int)) ∈ zTs := zT_in 314 rfl rfl
def y_Wrk_workOutNode : MethodName := ⟨"CheckRules$Worker", "workOutNode", "(LCheckRules$Tree;I)V"⟩
set_option maxRecDepth 100000 in
theorem mc_Wrk_workOutNode : Cond.code y_Wrk_workOutNode prog_8_method_3_code 8 (none) ∈ zTs := zT_in 321 rfl rfl
def y_Tre_kindOf : MethodName := ⟨"CheckRules$Tree", "kindOf", "(I)I"⟩
set_option maxRecDepth 100000 in
theorem mc_Tre_kindOf : Cond.code y_Tre_kindOf prog_7_method_10_code 2 ((some FieldType.int)) ∈ zTs := zT_in 325 rfl rfl
def y_Tre_has : MethodName := ⟨"CheckRules$Tree", "has", "(I)Z"⟩
set_option maxRecDepth 100000 in
theorem mc_Tre_has : Cond.code y_Tre_has prog_7_method_9_code 2 ((some FieldType.boolean)) ∈ zTs := zT_in 329 rfl rfl
def y_Tre_valueOf : MethodName := ⟨"CheckRules$Tree", "valueOf", "(I)I"⟩
set_option maxRecDepth 100000 in
theorem mc_Tre_valueOf : Cond.code y_Tre_valueOf prog_7_method_11_code 2 ((some FieldType.int)) ∈ zTs := zT_in 333 rfl rfl
def y_Wrk_setOnAllLines : MethodName := ⟨"CheckRules$Worker", "setOnAllLines", "(II)V"⟩
set_option maxRecDepth 100000 in
theorem mc_Wrk_setOnAllLines : Cond.code y_Wrk_setOnAllLines prog_8_method_11_code 4 (none) ∈ zTs := zT_in 337 rfl rfl
def y_Wrk_setResult : MethodName := ⟨"CheckRules$Worker", "setResult", "(III)V"⟩
set_option maxRecDepth 100000 in
theorem mc_Wrk_setResult : Cond.code y_Wrk_setResult prog_8_method_12_code 5 (none) ∈ zTs := zT_in 341 rfl rfl
def y_Decl_sumOf : MethodName := ⟨"CheckRules$Declaration", "sumOf", "(I)I"⟩
set_option maxRecDepth 100000 in
theorem mc_Decl_sumOf : Cond.code y_Decl_sumOf prog_2_method_5_code 5 ((some FieldType.int)) ∈ zTs := zT_in 345 rfl rfl
def y_Decl_countOf : MethodName := ⟨"CheckRules$Declaration", "countOf", "(I)I"⟩
set_option maxRecDepth 100000 in
theorem mc_Decl_countOf : Cond.code y_Decl_countOf prog_2_method_6_code 4 ((some FieldType.int)) ∈ zTs := zT_in 349 rfl rfl
def y_Tre_leftOf : MethodName := ⟨"CheckRules$Tree", "leftOf", "(I)I"⟩
set_option maxRecDepth 100000 in
theorem mc_Tre_leftOf : Cond.code y_Tre_leftOf prog_7_method_12_code 2 ((some FieldType.int)) ∈ zTs := zT_in 353 rfl rfl
def y_Wrk_overLines : MethodName := ⟨"CheckRules$Worker", "overLines", "(II)I"⟩
set_option maxRecDepth 100000 in
theorem mc_Wrk_overLines : Cond.code y_Wrk_overLines prog_8_method_4_code 6 ((some FieldType.int)) ∈ zTs := zT_in 357 rfl rfl
def y_Wrk_resultOf : MethodName := ⟨"CheckRules$Worker", "resultOf", "(II)I"⟩
set_option maxRecDepth 100000 in
theorem mc_Wrk_resultOf : Cond.code y_Wrk_resultOf prog_8_method_13_code 4 ((some FieldType.int)) ∈ zTs := zT_in 361 rfl rfl
def y_Wrk_both : MethodName := ⟨"CheckRules$Worker", "both", "(II)I"⟩
set_option maxRecDepth 100000 in
theorem mc_Wrk_both : Cond.code y_Wrk_both prog_8_method_8_code 2 ((some FieldType.int)) ∈ zTs := zT_in 365 rfl rfl
def y_Wrk_either : MethodName := ⟨"CheckRules$Worker", "either", "(II)I"⟩
set_option maxRecDepth 100000 in
theorem mc_Wrk_either : Cond.code y_Wrk_either prog_8_method_9_code 2 ((some FieldType.int)) ∈ zTs := zT_in 368 rfl rfl
def y_Wrk_turned : MethodName := ⟨"CheckRules$Worker", "turned", "(I)I"⟩
set_option maxRecDepth 100000 in
theorem mc_Wrk_turned : Cond.code y_Wrk_turned prog_8_method_10_code 1 ((some FieldType.int)) ∈ zTs := zT_in 371 rfl rfl
def y_Tre_rightOf : MethodName := ⟨"CheckRules$Tree", "rightOf", "(I)I"⟩
set_option maxRecDepth 100000 in
theorem mc_Tre_rightOf : Cond.code y_Tre_rightOf prog_7_method_13_code 2 ((some FieldType.int)) ∈ zTs := zT_in 376 rfl rfl
def y_Wrk_joined : MethodName := ⟨"CheckRules$Worker", "joined", "(III)I"⟩
set_option maxRecDepth 100000 in
theorem mc_Wrk_joined : Cond.code y_Wrk_joined prog_8_method_5_code 3 ((some FieldType.int)) ∈ zTs := zT_in 379 rfl rfl
def y_Wrk_calculated : MethodName := ⟨"CheckRules$Worker", "calculated", "(III)I"⟩
set_option maxRecDepth 100000 in
theorem mc_Wrk_calculated : Cond.code y_Wrk_calculated prog_8_method_6_code 4 ((some FieldType.int)) ∈ zTs := zT_in 382 rfl rfl
def y_Wrk_holds : MethodName := ⟨"CheckRules$Worker", "holds", "(III)Z"⟩
set_option maxRecDepth 100000 in
theorem mc_Wrk_holds : Cond.code y_Wrk_holds prog_8_method_7_code 3 ((some FieldType.boolean)) ∈ zTs := zT_in 385 rfl rfl
def y_Rul_takeResult : MethodName := ⟨"CheckRules$Rule", "takeResult", "(I)V"⟩
set_option maxRecDepth 100000 in
theorem mc_Rul_takeResult : Cond.code y_Rul_takeResult prog_5_method_2_code 2 (none) ∈ zTs := zT_in 389 rfl rfl
def y_Cls_findBad : MethodName := ⟨"CheckRules", "findBad", "(IZ)I"⟩
set_option maxRecDepth 100000 in
theorem mc_Cls_findBad : Cond.code y_Cls_findBad prog_1_method_23_code 7 ((some FieldType.int)) ∈ zTs := zT_in 393 rfl rfl
def y_Rul_isBad : MethodName := ⟨"CheckRules$Rule", "isBad", "(Z)Z"⟩
set_option maxRecDepth 100000 in
theorem mc_Rul_isBad : Cond.code y_Rul_isBad prog_5_method_3_code 2 ((some FieldType.boolean)) ∈ zTs := zT_in 397 rfl rfl
def y_Cls_bad : MethodName := ⟨"CheckRules", "bad", "(IZ)I"⟩
set_option maxRecDepth 100000 in
theorem mc_Cls_bad : Cond.code y_Cls_bad prog_1_method_10_code 3 ((some FieldType.int)) ∈ zTs := zT_in 401 rfl rfl
def y_Cls_answer : MethodName := ⟨"CheckRules", "answer", "(I)Z"⟩
set_option maxRecDepth 100000 in
theorem mc_Cls_answer : Cond.code y_Cls_answer prog_1_method_13_code 3 ((some FieldType.boolean)) ∈ zTs := zT_in 405 rfl rfl
def y_Cls_never : MethodName := ⟨"CheckRules", "never", "(I)I"⟩
set_option maxRecDepth 100000 in
theorem mc_Cls_never : Cond.code y_Cls_never prog_1_method_15_code 5 ((some FieldType.int)) ∈ zTs := zT_in 409 rfl rfl
def y_Cls_count : MethodName := ⟨"CheckRules", "count", "(I)I"⟩
set_option maxRecDepth 100000 in
theorem mc_Cls_count : Cond.code y_Cls_count prog_1_method_19_code 2 ((some FieldType.int)) ∈ zTs := zT_in 413 rfl rfl
def y_Sgn_size : MethodName := ⟨"CheckRules$Signs", "size", "()I"⟩
set_option maxRecDepth 100000 in
theorem mc_Sgn_size : Cond.code y_Sgn_size prog_6_method_2_code 1 ((some FieldType.int)) ∈ zTs := zT_in 417 rfl rfl
def y_Cls_countBad : MethodName := ⟨"CheckRules", "countBad", "(Z)I"⟩
set_option maxRecDepth 100000 in
theorem mc_Cls_countBad : Cond.code y_Cls_countBad prog_1_method_24_code 5 ((some FieldType.int)) ∈ zTs := zT_in 421 rfl rfl
def y_Cls_countNodes : MethodName := ⟨"CheckRules", "countNodes", "(I)I"⟩
set_option maxRecDepth 100000 in
theorem mc_Cls_countNodes : Cond.code y_Cls_countNodes prog_1_method_20_code 3 ((some FieldType.int)) ∈ zTs := zT_in 426 rfl rfl
def y_Cls_rule : MethodName := ⟨"CheckRules", "rule", "()I"⟩
set_option maxRecDepth 100000 in
theorem mc_Cls_rule : Cond.code y_Cls_rule prog_1_method_3_code 2 ((some FieldType.int)) ∈ zTs := zT_in 435 rfl rfl
def y_Rdr_readText : MethodName := ⟨"CheckRules$Reader", "readText", "()I"⟩
set_option maxRecDepth 100000 in
theorem mc_Rdr_readText : Cond.code y_Rdr_readText prog_4_method_3_code 2 ((some FieldType.int)) ∈ zTs := zT_in 507 rfl rfl
def y_Tre_clear : MethodName := ⟨"CheckRules$Tree", "clear", "()V"⟩
set_option maxRecDepth 100000 in
theorem mc_Tre_clear : Cond.code y_Tre_clear prog_7_method_4_code 1 (none) ∈ zTs := zT_in 511 rfl rfl
def y_Rdr_beginLevel : MethodName := ⟨"CheckRules$Reader", "beginLevel", "(I)Z"⟩
set_option maxRecDepth 100000 in
theorem mc_Rdr_beginLevel : Cond.code y_Rdr_beginLevel prog_4_method_13_code 2 ((some FieldType.boolean)) ∈ zTs := zT_in 515 rfl rfl
def y_Rdr_readToken : MethodName := ⟨"CheckRules$Reader", "readToken", "()V"⟩
set_option maxRecDepth 100000 in
theorem mc_Rdr_readToken : Cond.code y_Rdr_readToken prog_4_method_15_code 2 (none) ∈ zTs := zT_in 520 rfl rfl
def y_Sgn_get : MethodName := ⟨"CheckRules$Signs", "get", "(I)I"⟩
set_option maxRecDepth 100000 in
theorem mc_Sgn_get : Cond.code y_Sgn_get prog_6_method_5_code 2 ((some FieldType.int)) ∈ zTs := zT_in 524 rfl rfl
def y_Rdr_isDigit : MethodName := ⟨"CheckRules$Reader", "isDigit", "(I)Z"⟩
set_option maxRecDepth 100000 in
theorem mc_Rdr_isDigit : Cond.code y_Rdr_isDigit prog_4_method_19_code 1 ((some FieldType.boolean)) ∈ zTs := zT_in 527 rfl rfl
def y_Rdr_readNumber : MethodName := ⟨"CheckRules$Reader", "readNumber", "(I)Z"⟩
set_option maxRecDepth 100000 in
theorem mc_Rdr_readNumber : Cond.code y_Rdr_readNumber prog_4_method_16_code 4 ((some FieldType.boolean)) ∈ zTs := zT_in 531 rfl rfl
def y_Rdr_isLetter : MethodName := ⟨"CheckRules$Reader", "isLetter", "(I)Z"⟩
set_option maxRecDepth 100000 in
theorem mc_Rdr_isLetter : Cond.code y_Rdr_isLetter prog_4_method_20_code 1 ((some FieldType.boolean)) ∈ zTs := zT_in 534 rfl rfl
def y_Rdr_readWord : MethodName := ⟨"CheckRules$Reader", "readWord", "()I"⟩
set_option maxRecDepth 100000 in
theorem mc_Rdr_readWord : Cond.code y_Rdr_readWord prog_4_method_17_code 2 ((some FieldType.int)) ∈ zTs := zT_in 538 rfl rfl
def y_Rdr_isWord : MethodName := ⟨"CheckRules$Reader", "isWord", "(Ljava/lang/String;)Z"⟩
set_option maxRecDepth 100000 in
theorem mc_Rdr_isWord : Cond.code y_Rdr_isWord prog_4_method_18_code 3 ((some FieldType.boolean)) ∈ zTs := zT_in 543 rfl rfl
def y_Rdr_takeToken : MethodName := ⟨"CheckRules$Reader", "takeToken", "()Z"⟩
set_option maxRecDepth 100000 in
theorem mc_Rdr_takeToken : Cond.code y_Rdr_takeToken prog_4_method_4_code 1 ((some FieldType.boolean)) ∈ zTs := zT_in 599 rfl rfl
def y_Rdr_takePart : MethodName := ⟨"CheckRules$Reader", "takePart", "()Z"⟩
set_option maxRecDepth 100000 in
theorem mc_Rdr_takePart : Cond.code y_Rdr_takePart prog_4_method_5_code 1 ((some FieldType.boolean)) ∈ zTs := zT_in 603 rfl rfl
def y_Rdr_goDeeper : MethodName := ⟨"CheckRules$Reader", "goDeeper", "()Z"⟩
set_option maxRecDepth 100000 in
theorem mc_Rdr_goDeeper : Cond.code y_Rdr_goDeeper prog_4_method_12_code 1 ((some FieldType.boolean)) ∈ zTs := zT_in 607 rfl rfl
def y_Tre_append : MethodName := ⟨"CheckRules$Tree", "append", "(II)Z"⟩
set_option maxRecDepth 100000 in
theorem mc_Tre_append : Cond.code y_Tre_append prog_7_method_6_code 3 ((some FieldType.boolean)) ∈ zTs := zT_in 611 rfl rfl
def y_Rdr_takeTerm : MethodName := ⟨"CheckRules$Reader", "takeTerm", "()Z"⟩
set_option maxRecDepth 100000 in
theorem mc_Rdr_takeTerm : Cond.code y_Rdr_takeTerm prog_4_method_6_code 1 ((some FieldType.boolean)) ∈ zTs := zT_in 615 rfl rfl
def y_Rdr_takeFieldOfSum : MethodName := ⟨"CheckRules$Reader", "takeFieldOfSum", "()Z"⟩
set_option maxRecDepth 100000 in
theorem mc_Rdr_takeFieldOfSum : Cond.code y_Rdr_takeFieldOfSum prog_4_method_7_code 1 ((some FieldType.boolean)) ∈ zTs := zT_in 619 rfl rfl
def y_Tre_setLastValue : MethodName := ⟨"CheckRules$Tree", "setLastValue", "(I)V"⟩
set_option maxRecDepth 100000 in
theorem mc_Tre_setLastValue : Cond.code y_Tre_setLastValue prog_7_method_8_code 2 (none) ∈ zTs := zT_in 623 rfl rfl
def y_Rdr_takeBehindTerm : MethodName := ⟨"CheckRules$Reader", "takeBehindTerm", "()Z"⟩
set_option maxRecDepth 100000 in
theorem mc_Rdr_takeBehindTerm : Cond.code y_Rdr_takeBehindTerm prog_4_method_8_code 1 ((some FieldType.boolean)) ∈ zTs := zT_in 627 rfl rfl
def y_Rdr_kindOfToken : MethodName := ⟨"CheckRules$Reader", "kindOfToken", "()I"⟩
set_option maxRecDepth 100000 in
theorem mc_Rdr_kindOfToken : Cond.code y_Rdr_kindOfToken prog_4_method_10_code 1 ((some FieldType.int)) ∈ zTs := zT_in 631 rfl rfl
def y_Tre_insert : MethodName := ⟨"CheckRules$Tree", "insert", "(II)Z"⟩
set_option maxRecDepth 100000 in
theorem mc_Tre_insert : Cond.code y_Tre_insert prog_7_method_7_code 4 ((some FieldType.boolean)) ∈ zTs := zT_in 693 rfl rfl
def y_Rdr_compare : MethodName := ⟨"CheckRules$Reader", "compare", "()Z"⟩
set_option maxRecDepth 100000 in
theorem mc_Rdr_compare : Cond.code y_Rdr_compare prog_4_method_9_code 1 ((some FieldType.boolean)) ∈ zTs := zT_in 698 rfl rfl
def y_Rdr_takeBehindPart : MethodName := ⟨"CheckRules$Reader", "takeBehindPart", "()Z"⟩
set_option maxRecDepth 100000 in
theorem mc_Rdr_takeBehindPart : Cond.code y_Rdr_takeBehindPart prog_4_method_11_code 2 ((some FieldType.boolean)) ∈ zTs := zT_in 702 rfl rfl
def y_Rdr_endLevel : MethodName := ⟨"CheckRules$Reader", "endLevel", "()Z"⟩
set_option maxRecDepth 100000 in
theorem mc_Rdr_endLevel : Cond.code y_Rdr_endLevel prog_4_method_14_code 1 ((some FieldType.boolean)) ∈ zTs := zT_in 706 rfl rfl
def y_Sgn_clear : MethodName := ⟨"CheckRules$Signs", "clear", "()V"⟩
set_option maxRecDepth 100000 in
theorem mc_Sgn_clear : Cond.code y_Sgn_clear prog_6_method_3_code 1 (none) ∈ zTs := zT_in 710 rfl rfl
def y_Rdr_copyOfTree : MethodName := ⟨"CheckRules$Reader", "copyOfTree", "()LCheckRules$Tree;"⟩
set_option maxRecDepth 100000 in
theorem mc_Rdr_copyOfTree : Cond.code y_Rdr_copyOfTree prog_4_method_2_code 1 ((some (FieldType.object "CheckRules$Tree"))) ∈ zTs := zT_in 715 rfl rfl
def y_Tre_copy : MethodName := ⟨"CheckRules$Tree", "copy", "()LCheckRules$Tree;"⟩
set_option maxRecDepth 100000 in
theorem mc_Tre_copy : Cond.code y_Tre_copy prog_7_method_3_code 1 ((some (FieldType.object "CheckRules$Tree"))) ∈ zTs := zT_in 719 rfl rfl
def y_Tre_init2 : MethodName := ⟨"CheckRules$Tree", "<init>", "(LCheckRules$Tree;)V"⟩
set_option maxRecDepth 100000 in
theorem mc_Tre_init2 : Cond.code y_Tre_init2 prog_7_method_2_code 2 (none) ∈ zTs := zT_in 723 rfl rfl
def y_Arrays_copyOf : MethodName := ⟨"java/util/Arrays", "copyOf", "([II)[I"⟩
set_option maxRecDepth 100000 in
theorem mc_Arrays_copyOf : Cond.code y_Arrays_copyOf prog_24_method_123_code 3 ((some (FieldType.array FieldType.int))) ∈ zTs := zT_in 726 rfl rfl
def y_Rul_init : MethodName := ⟨"CheckRules$Rule", "<init>", "(LCheckRules$Tree;)V"⟩
set_option maxRecDepth 100000 in
theorem mc_Rul_init : Cond.code y_Rul_init prog_5_method_1_code 2 (none) ∈ zTs := zT_in 740 rfl rfl
def y_Cls_was : MethodName := ⟨"CheckRules", "was", "(I)I"⟩
set_option maxRecDepth 100000 in
theorem mc_Cls_was : Cond.code y_Cls_was prog_1_method_11_code 3 ((some FieldType.int)) ∈ zTs := zT_in 782 rfl rfl
def y_Cls_is : MethodName := ⟨"CheckRules", "is", "(I)I"⟩
set_option maxRecDepth 100000 in
theorem mc_Cls_is : Cond.code y_Cls_is prog_1_method_12_code 3 ((some FieldType.int)) ∈ zTs := zT_in 805 rfl rfl
def y_Cls_touch : MethodName := ⟨"CheckRules", "touch", "(I)I"⟩
set_option maxRecDepth 100000 in
theorem mc_Cls_touch : Cond.code y_Cls_touch prog_1_method_14_code 5 ((some FieldType.int)) ∈ zTs := zT_in 812 rfl rfl
def y_Tre_names : MethodName := ⟨"CheckRules$Tree", "names", "(I)Z"⟩
set_option maxRecDepth 100000 in
theorem mc_Tre_names : Cond.code y_Tre_names prog_7_method_14_code 3 ((some FieldType.boolean)) ∈ zTs := zT_in 817 rfl rfl
def y_Cls_node : MethodName := ⟨"CheckRules", "node", "(III)I"⟩
set_option maxRecDepth 100000 in
theorem mc_Cls_node : Cond.code y_Cls_node prog_1_method_16_code 5 ((some FieldType.int)) ∈ zTs := zT_in 827 rfl rfl
def y_Cls_print : MethodName := ⟨"CheckRules", "print", "(I)I"⟩
set_option maxRecDepth 100000 in
theorem mc_Cls_print : Cond.code y_Cls_print prog_1_method_17_code 3 ((some FieldType.int)) ∈ zTs := zT_in 854 rfl rfl
def y_Prt_printTree : MethodName := ⟨"CheckRules$Printer", "printTree", "(LCheckRules$Tree;)V"⟩
set_option maxRecDepth 100000 in
theorem mc_Prt_printTree : Cond.code y_Prt_printTree prog_3_method_2_code 2 (none) ∈ zTs := zT_in 858 rfl rfl
def y_Prt_printNode : MethodName := ⟨"CheckRules$Printer", "printNode", "(LCheckRules$Tree;II)V"⟩
set_option maxRecDepth 100000 in
theorem mc_Prt_printNode : Cond.code y_Prt_printNode prog_3_method_3_code 5 (none) ∈ zTs := zT_in 863 rfl rfl
def y_Prt_printBelow : MethodName := ⟨"CheckRules$Printer", "printBelow", "(LCheckRules$Tree;III)V"⟩
set_option maxRecDepth 100000 in
theorem mc_Prt_printBelow : Cond.code y_Prt_printBelow prog_3_method_4_code 7 (none) ∈ zTs := zT_in 870 rfl rfl
def y_Prt_needsBrackets : MethodName := ⟨"CheckRules$Printer", "needsBrackets", "(IIZ)Z"⟩
set_option maxRecDepth 100000 in
theorem mc_Prt_needsBrackets : Cond.code y_Prt_needsBrackets prog_3_method_5_code 3 ((some FieldType.boolean)) ∈ zTs := zT_in 874 rfl rfl
def y_Prt_addWord : MethodName := ⟨"CheckRules$Printer", "addWord", "(Ljava/lang/String;)V"⟩
set_option maxRecDepth 100000 in
theorem mc_Prt_addWord : Cond.code y_Prt_addWord prog_3_method_8_code 3 (none) ∈ zTs := zT_in 880 rfl rfl
def y_Prt_printTerm : MethodName := ⟨"CheckRules$Printer", "printTerm", "(II)V"⟩
set_option maxRecDepth 100000 in
theorem mc_Prt_printTerm : Cond.code y_Prt_printTerm prog_3_method_6_code 3 (none) ∈ zTs := zT_in 887 rfl rfl
def y_Prt_addNumber : MethodName := ⟨"CheckRules$Printer", "addNumber", "(I)V"⟩
set_option maxRecDepth 100000 in
theorem mc_Prt_addNumber : Cond.code y_Prt_addNumber prog_3_method_7_code 3 (none) ∈ zTs := zT_in 893 rfl rfl
def y_Prt_addSignOf : MethodName := ⟨"CheckRules$Printer", "addSignOf", "(I)V"⟩
set_option maxRecDepth 100000 in
theorem mc_Prt_addSignOf : Cond.code y_Prt_addSignOf prog_3_method_9_code 2 (none) ∈ zTs := zT_in 898 rfl rfl
def y_Cls_at : MethodName := ⟨"CheckRules", "at", "(I)I"⟩
set_option maxRecDepth 100000 in
theorem mc_Cls_at : Cond.code y_Cls_at prog_1_method_18_code 3 ((some FieldType.int)) ∈ zTs := zT_in 906 rfl rfl
def y_Mod_init : MethodName := ⟨"CheckRulesModel", "<init>", "()V"⟩
set_option maxRecDepth 100000 in
theorem mc_Mod_init : Cond.code y_Mod_init prog_10_method_1_code 1 (none) ∈ zTs := zT_in 913 rfl rfl
def y_Mod_thrown : MethodName := ⟨"CheckRulesModel", "thrown", "()I"⟩
set_option maxRecDepth 100000 in
theorem mc_Mod_thrown : Cond.code y_Mod_thrown prog_10_method_2_code 1 ((some FieldType.int)) ∈ zTs := zT_in 1035 rfl rfl
def y_Mod_sign : MethodName := ⟨"CheckRulesModel", "sign", "(I)Z"⟩
set_option maxRecDepth 100000 in
theorem mc_Mod_sign : Cond.code y_Mod_sign prog_10_method_5_code 2 ((some FieldType.boolean)) ∈ zTs := zT_in 1039 rfl rfl
def y_Mod_in : MethodName := ⟨"CheckRulesModel", "in", "(III)Z"⟩
set_option maxRecDepth 100000 in
theorem mc_Mod_in : Cond.code y_Mod_in prog_10_method_3_code 3 ((some FieldType.boolean)) ∈ zTs := zT_in 1042 rfl rfl
def y_Mod_rule : MethodName := ⟨"CheckRulesModel", "rule", "()I"⟩
set_option maxRecDepth 100000 in
theorem mc_Mod_rule : Cond.code y_Mod_rule prog_10_method_24_code 2 ((some FieldType.int)) ∈ zTs := zT_in 1046 rfl rfl
def y_Mod_read : MethodName := ⟨"CheckRulesModel", "read", "()I"⟩
set_option maxRecDepth 100000 in
theorem mc_Mod_read : Cond.code y_Mod_read prog_10_method_22_code 6 ((some FieldType.int)) ∈ zTs := zT_in 1050 rfl rfl
def y_Mod_begins : MethodName := ⟨"CheckRulesModel", "begins", "()Z"⟩
set_option maxRecDepth 100000 in
theorem mc_Mod_begins : Cond.code y_Mod_begins prog_10_method_19_code 4 ((some FieldType.boolean)) ∈ zTs := zT_in 1054 rfl rfl
def y_Mod_look : MethodName := ⟨"CheckRulesModel", "look", "()I"⟩
set_option maxRecDepth 100000 in
theorem mc_Mod_look : Cond.code y_Mod_look prog_10_method_6_code 1 ((some FieldType.int)) ∈ zTs := zT_in 1058 rfl rfl
def y_Mod_word : MethodName := ⟨"CheckRulesModel", "word", "()I"⟩
set_option maxRecDepth 100000 in
theorem mc_Mod_word : Cond.code y_Mod_word prog_10_method_9_code 4 ((some FieldType.int)) ∈ zTs := zT_in 1062 rfl rfl
def y_Mod_isSmall : MethodName := ⟨"CheckRulesModel", "isSmall", "(I)Z"⟩
set_option maxRecDepth 100000 in
theorem mc_Mod_isSmall : Cond.code y_Mod_isSmall prog_10_method_8_code 1 ((some FieldType.boolean)) ∈ zTs := zT_in 1065 rfl rfl
def y_Mod_node : MethodName := ⟨"CheckRulesModel", "node", "(II)I"⟩
set_option maxRecDepth 100000 in
theorem mc_Mod_node : Cond.code y_Mod_node prog_10_method_11_code 3 ((some FieldType.int)) ∈ zTs := zT_in 1076 rfl rfl
def y_Mod_fail : MethodName := ⟨"CheckRulesModel", "fail", "(I)V"⟩
set_option maxRecDepth 100000 in
theorem mc_Mod_fail : Cond.code y_Mod_fail prog_10_method_10_code 2 (none) ∈ zTs := zT_in 1080 rfl rfl
def y_Mod_enter : MethodName := ⟨"CheckRulesModel", "enter", "(I)V"⟩
set_option maxRecDepth 100000 in
theorem mc_Mod_enter : Cond.code y_Mod_enter prog_10_method_13_code 2 (none) ∈ zTs := zT_in 1084 rfl rfl
def y_Mod_push : MethodName := ⟨"CheckRulesModel", "push", "(II)V"⟩
set_option maxRecDepth 100000 in
theorem mc_Mod_push : Cond.code y_Mod_push prog_10_method_12_code 3 (none) ∈ zTs := zT_in 1088 rfl rfl
def y_Mod_comparison : MethodName := ⟨"CheckRulesModel", "comparison", "()I"⟩
set_option maxRecDepth 100000 in
theorem mc_Mod_comparison : Cond.code y_Mod_comparison prog_10_method_18_code 6 ((some FieldType.int)) ∈ zTs := zT_in 1092 rfl rfl
def y_Mod_sum : MethodName := ⟨"CheckRulesModel", "sum", "()I"⟩
set_option maxRecDepth 100000 in
theorem mc_Mod_sum : Cond.code y_Mod_sum prog_10_method_17_code 4 ((some FieldType.int)) ∈ zTs := zT_in 1096 rfl rfl
def y_Mod_term : MethodName := ⟨"CheckRulesModel", "term", "()I"⟩
set_option maxRecDepth 100000 in
theorem mc_Mod_term : Cond.code y_Mod_term prog_10_method_16_code 6 ((some FieldType.int)) ∈ zTs := zT_in 1100 rfl rfl
def y_Mod_isDigit : MethodName := ⟨"CheckRulesModel", "isDigit", "(I)Z"⟩
set_option maxRecDepth 100000 in
theorem mc_Mod_isDigit : Cond.code y_Mod_isDigit prog_10_method_7_code 1 ((some FieldType.boolean)) ∈ zTs := zT_in 1103 rfl rfl
def y_Mod_digits : MethodName := ⟨"CheckRulesModel", "digits", "(II)I"⟩
set_option maxRecDepth 100000 in
theorem mc_Mod_digits : Cond.code y_Mod_digits prog_10_method_14_code 5 ((some FieldType.int)) ∈ zTs := zT_in 1107 rfl rfl
def y_Mod_field : MethodName := ⟨"CheckRulesModel", "field", "()I"⟩
set_option maxRecDepth 100000 in
theorem mc_Mod_field : Cond.code y_Mod_field prog_10_method_15_code 4 ((some FieldType.int)) ∈ zTs := zT_in 1111 rfl rfl
def y_Mod_taken : MethodName := ⟨"CheckRulesModel", "taken", "(I)I"⟩
set_option maxRecDepth 100000 in
theorem mc_Mod_taken : Cond.code y_Mod_taken prog_10_method_20_code 4 ((some FieldType.int)) ∈ zTs := zT_in 1115 rfl rfl
def y_Mod_or : MethodName := ⟨"CheckRulesModel", "or", "(I)I"⟩
set_option maxRecDepth 100000 in
theorem mc_Mod_or : Cond.code y_Mod_or prog_10_method_21_code 2 ((some FieldType.int)) ∈ zTs := zT_in 1119 rfl rfl
def y_Mod_number : MethodName := ⟨"CheckRulesModel", "number", "(II)V"⟩
set_option maxRecDepth 100000 in
theorem mc_Mod_number : Cond.code y_Mod_number prog_10_method_23_code 8 (none) ∈ zTs := zT_in 1123 rfl rfl
def y_Mod_order : MethodName := ⟨"CheckRulesModel", "order", "(IIZ)Z"⟩
set_option maxRecDepth 100000 in
theorem mc_Mod_order : Cond.code y_Mod_order prog_10_method_25_code 4 ((some FieldType.boolean)) ∈ zTs := zT_in 1127 rfl rfl
def y_Mod_isRule : MethodName := ⟨"CheckRulesModel", "isRule", "(I)Z"⟩
set_option maxRecDepth 100000 in
theorem mc_Mod_isRule : Cond.code y_Mod_isRule prog_10_method_4_code 2 ((some FieldType.boolean)) ∈ zTs := zT_in 1131 rfl rfl
def y_Mod_edition : MethodName := ⟨"CheckRulesModel", "edition", "(II)Z"⟩
set_option maxRecDepth 100000 in
theorem mc_Mod_edition : Cond.code y_Mod_edition prog_10_method_26_code 3 ((some FieldType.boolean)) ∈ zTs := zT_in 1135 rfl rfl
def y_Mod_day : MethodName := ⟨"CheckRulesModel", "day", "(I)Z"⟩
set_option maxRecDepth 100000 in
theorem mc_Mod_day : Cond.code y_Mod_day prog_10_method_27_code 2 ((some FieldType.boolean)) ∈ zTs := zT_in 1140 rfl rfl
def y_Mod_field2 : MethodName := ⟨"CheckRulesModel", "field", "(III)Z"⟩
set_option maxRecDepth 100000 in
theorem mc_Mod_field2 : Cond.code y_Mod_field2 prog_10_method_28_code 4 ((some FieldType.boolean)) ∈ zTs := zT_in 1144 rfl rfl
def y_Mod_without : MethodName := ⟨"CheckRulesModel", "without", "(II)Z"⟩
set_option maxRecDepth 100000 in
theorem mc_Mod_without : Cond.code y_Mod_without prog_10_method_29_code 3 ((some FieldType.boolean)) ∈ zTs := zT_in 1150 rfl rfl
def y_Mod_check : MethodName := ⟨"CheckRulesModel", "check", "()I"⟩
set_option maxRecDepth 100000 in
theorem mc_Mod_check : Cond.code y_Mod_check prog_10_method_39_code 4 ((some FieldType.int)) ∈ zTs := zT_in 1154 rfl rfl
def y_Mod_work : MethodName := ⟨"CheckRulesModel", "work", "(I)I"⟩
set_option maxRecDepth 100000 in
theorem mc_Mod_work : Cond.code y_Mod_work prog_10_method_38_code 4 ((some FieldType.int)) ∈ zTs := zT_in 1158 rfl rfl
def y_Mod_workNode : MethodName := ⟨"CheckRulesModel", "workNode", "(III)V"⟩
set_option maxRecDepth 100000 in
theorem mc_Mod_workNode : Cond.code y_Mod_workNode prog_10_method_37_code 8 (none) ∈ zTs := zT_in 1162 rfl rfl
def y_Mod_workTerm : MethodName := ⟨"CheckRulesModel", "workTerm", "(III)V"⟩
set_option maxRecDepth 100000 in
theorem mc_Mod_workTerm : Cond.code y_Mod_workTerm prog_10_method_31_code 6 (none) ∈ zTs := zT_in 1166 rfl rfl
def y_Mod_compared : MethodName := ⟨"CheckRulesModel", "compared", "(III)I"⟩
set_option maxRecDepth 100000 in
theorem mc_Mod_compared : Cond.code y_Mod_compared prog_10_method_35_code 7 ((some FieldType.int)) ∈ zTs := zT_in 1170 rfl rfl
def y_Mod_over : MethodName := ⟨"CheckRulesModel", "over", "(II)I"⟩
set_option maxRecDepth 100000 in
theorem mc_Mod_over : Cond.code y_Mod_over prog_10_method_36_code 5 ((some FieldType.int)) ∈ zTs := zT_in 1174 rfl rfl
def y_Mod_isThere : MethodName := ⟨"CheckRulesModel", "isThere", "(I)Z"⟩
set_option maxRecDepth 100000 in
theorem mc_Mod_isThere : Cond.code y_Mod_isThere prog_10_method_30_code 4 ((some FieldType.boolean)) ∈ zTs := zT_in 1178 rfl rfl
def y_Mod_and : MethodName := ⟨"CheckRulesModel", "and", "(II)I"⟩
set_option maxRecDepth 100000 in
theorem mc_Mod_and : Cond.code y_Mod_and prog_10_method_32_code 2 ((some FieldType.int)) ∈ zTs := zT_in 1181 rfl rfl
def y_Mod_or2 : MethodName := ⟨"CheckRulesModel", "or", "(II)I"⟩
set_option maxRecDepth 100000 in
theorem mc_Mod_or2 : Cond.code y_Mod_or2 prog_10_method_34_code 2 ((some FieldType.int)) ∈ zTs := zT_in 1184 rfl rfl
def y_Mod_not : MethodName := ⟨"CheckRulesModel", "not", "(I)I"⟩
set_option maxRecDepth 100000 in
theorem mc_Mod_not : Cond.code y_Mod_not prog_10_method_33_code 1 ((some FieldType.int)) ∈ zTs := zT_in 1187 rfl rfl
def y_Mod_badAt : MethodName := ⟨"CheckRulesModel", "badAt", "(IZ)I"⟩
set_option maxRecDepth 100000 in
theorem mc_Mod_badAt : Cond.code y_Mod_badAt prog_10_method_40_code 7 ((some FieldType.int)) ∈ zTs := zT_in 1191 rfl rfl
def y_Mod_bad : MethodName := ⟨"CheckRulesModel", "bad", "(IZ)I"⟩
set_option maxRecDepth 100000 in
theorem mc_Mod_bad : Cond.code y_Mod_bad prog_10_method_41_code 3 ((some FieldType.int)) ∈ zTs := zT_in 1195 rfl rfl
def y_Mod_was : MethodName := ⟨"CheckRulesModel", "was", "(I)I"⟩
set_option maxRecDepth 100000 in
theorem mc_Mod_was : Cond.code y_Mod_was prog_10_method_42_code 2 ((some FieldType.int)) ∈ zTs := zT_in 1199 rfl rfl
def y_Mod_is : MethodName := ⟨"CheckRulesModel", "is", "(I)I"⟩
set_option maxRecDepth 100000 in
theorem mc_Mod_is : Cond.code y_Mod_is prog_10_method_43_code 2 ((some FieldType.int)) ∈ zTs := zT_in 1203 rfl rfl
def y_Mod_answer : MethodName := ⟨"CheckRulesModel", "answer", "(I)Z"⟩
set_option maxRecDepth 100000 in
theorem mc_Mod_answer : Cond.code y_Mod_answer prog_10_method_44_code 2 ((some FieldType.boolean)) ∈ zTs := zT_in 1207 rfl rfl
def y_Mod_touch : MethodName := ⟨"CheckRulesModel", "touch", "(I)I"⟩
set_option maxRecDepth 100000 in
theorem mc_Mod_touch : Cond.code y_Mod_touch prog_10_method_45_code 6 ((some FieldType.int)) ∈ zTs := zT_in 1211 rfl rfl
def y_Mod_never : MethodName := ⟨"CheckRulesModel", "never", "(I)I"⟩
set_option maxRecDepth 100000 in
theorem mc_Mod_never : Cond.code y_Mod_never prog_10_method_46_code 5 ((some FieldType.int)) ∈ zTs := zT_in 1215 rfl rfl
def y_Mod_node2 : MethodName := ⟨"CheckRulesModel", "node", "(III)I"⟩
set_option maxRecDepth 100000 in
theorem mc_Mod_node2 : Cond.code y_Mod_node2 prog_10_method_47_code 5 ((some FieldType.int)) ∈ zTs := zT_in 1219 rfl rfl
def y_Mod_print : MethodName := ⟨"CheckRulesModel", "print", "(I)I"⟩
set_option maxRecDepth 100000 in
theorem mc_Mod_print : Cond.code y_Mod_print prog_10_method_52_code 5 ((some FieldType.int)) ∈ zTs := zT_in 1223 rfl rfl
def y_Mod_put : MethodName := ⟨"CheckRulesModel", "put", "(I)V"⟩
set_option maxRecDepth 100000 in
theorem mc_Mod_put : Cond.code y_Mod_put prog_10_method_48_code 2 (none) ∈ zTs := zT_in 1227 rfl rfl
def y_Mod_putTerm : MethodName := ⟨"CheckRulesModel", "putTerm", "(I)V"⟩
set_option maxRecDepth 100000 in
theorem mc_Mod_putTerm : Cond.code y_Mod_putTerm prog_10_method_50_code 2 (none) ∈ zTs := zT_in 1231 rfl rfl
def y_Mod_putNumber : MethodName := ⟨"CheckRulesModel", "putNumber", "(I)V"⟩
set_option maxRecDepth 100000 in
theorem mc_Mod_putNumber : Cond.code y_Mod_putNumber prog_10_method_49_code 4 (none) ∈ zTs := zT_in 1235 rfl rfl
def y_Mod_unfold : MethodName := ⟨"CheckRulesModel", "unfold", "(III)I"⟩
set_option maxRecDepth 100000 in
theorem mc_Mod_unfold : Cond.code y_Mod_unfold prog_10_method_51_code 10 ((some FieldType.int)) ∈ zTs := zT_in 1239 rfl rfl
def y_Mod_at : MethodName := ⟨"CheckRulesModel", "at", "(I)I"⟩
set_option maxRecDepth 100000 in
theorem mc_Mod_at : Cond.code y_Mod_at prog_10_method_53_code 2 ((some FieldType.int)) ∈ zTs := zT_in 1243 rfl rfl
def y_Mod_count : MethodName := ⟨"CheckRulesModel", "count", "(I)I"⟩
set_option maxRecDepth 100000 in
theorem mc_Mod_count : Cond.code y_Mod_count prog_10_method_54_code 6 ((some FieldType.int)) ∈ zTs := zT_in 1247 rfl rfl
end
section
/-- links between nest mates -/
def zNs : List Cond := [Cond.methodLinkNest "CheckRules" 11 ⟨"CheckRules$Reader", "<init>", "()V"⟩ "CheckRules", Cond.methodLinkNest "CheckRules$Reader" 11 ⟨"CheckRules$Signs", "<init>", "()V"⟩ "CheckRules", Cond.fieldLinkNest "CheckRules" 48 "CheckRules$Reader" "text" "LCheckRules$Signs;" "CheckRules", Cond.methodLinkNest "CheckRules" 20 ⟨"CheckRules$Worker", "<init>", "()V"⟩ "CheckRules", Cond.fieldLinkNest "CheckRules" 98 "CheckRules$Worker" "declaration" "LCheckRules$Declaration;" "CheckRules", Cond.methodLinkNest "CheckRules" 27 ⟨"CheckRules$Printer", "<init>", "()V"⟩ "CheckRules", Cond.methodLinkNest "CheckRules$Printer" 11 ⟨"CheckRules$Signs", "<init>", "()V"⟩ "CheckRules", Cond.fieldLinkNest "CheckRules" 174 "CheckRules$Printer" "printed" "LCheckRules$Signs;" "CheckRules", Cond.fieldLinkNest "CheckRules" 129 "CheckRules$Rule" "tree" "LCheckRules$Tree;" "CheckRules", Cond.fieldLinkNest "CheckRules" 83 "CheckRules$Rule" "group" "I" "CheckRules", Cond.fieldLinkNest "CheckRules" 86 "CheckRules$Rule" "hard" "Z" "CheckRules", Cond.fieldLinkNest "CheckRules" 93 "CheckRules$Rule" "firstDay" "I" "CheckRules", Cond.fieldLinkNest "CheckRules" 126 "CheckRules$Rule" "latest" "I" "CheckRules", Cond.fieldLinkNest "CheckRules" 147 "CheckRules$Rule" "met" "Z" "CheckRules", Cond.fieldLinkNest "CheckRules" 137 "CheckRules$Rule" "answered" "Z" "CheckRules", Cond.fieldLinkNest "CheckRules" 193 "CheckRules$Rule" "faulty" "Z" "CheckRules", Cond.castable "java/lang/IllegalStateException" "java/lang/IllegalStateException", Cond.castable "[I" "java/lang/Cloneable", Cond.castable "java/lang/IllegalArgumentException" "java/lang/IllegalArgumentException", Cond.castable "java/lang/IndexOutOfBoundsException" "java/lang/IndexOutOfBoundsException", Cond.declares ⟨"java/lang/RuntimeException", "<init>", "()V"⟩, Cond.declares ⟨"java/lang/RuntimeException", "<init>", "(Ljava/lang/String;)V"⟩, Cond.declares ⟨"java/lang/Exception", "<init>", "()V"⟩, Cond.declares ⟨"java/lang/Exception", "<init>", "(Ljava/lang/String;)V"⟩, Cond.declares ⟨"java/lang/Throwable", "<init>", "()V"⟩, Cond.declares ⟨"java/lang/Throwable", "<init>", "(Ljava/lang/String;)V"⟩]
theorem ns_0 : Cond.methodLinkNest "CheckRules" 11 ⟨"CheckRules$Reader", "<init>", "()V"⟩ "CheckRules" ∈ zNs := List.mem_of_getElem? (i := 0) rfl
theorem ns_1 : Cond.methodLinkNest "CheckRules$Reader" 11 ⟨"CheckRules$Signs", "<init>", "()V"⟩ "CheckRules" ∈ zNs := List.mem_of_getElem? (i := 1) rfl
theorem ns_2 : Cond.fieldLinkNest "CheckRules" 48 "CheckRules$Reader" "text" "LCheckRules$Signs;" "CheckRules" ∈ zNs := List.mem_of_getElem? (i := 2) rfl
theorem ns_3 : Cond.methodLinkNest "CheckRules" 20 ⟨"CheckRules$Worker", "<init>", "()V"⟩ "CheckRules" ∈ zNs := List.mem_of_getElem? (i := 3) rfl
theorem ns_4 : Cond.fieldLinkNest "CheckRules" 98 "CheckRules$Worker" "declaration" "LCheckRules$Declaration;" "CheckRules" ∈ zNs := List.mem_of_getElem? (i := 4) rfl
theorem ns_5 : Cond.methodLinkNest "CheckRules" 27 ⟨"CheckRules$Printer", "<init>", "()V"⟩ "CheckRules" ∈ zNs := List.mem_of_getElem? (i := 5) rfl
theorem ns_6 : Cond.methodLinkNest "CheckRules$Printer" 11 ⟨"CheckRules$Signs", "<init>", "()V"⟩ "CheckRules" ∈ zNs := List.mem_of_getElem? (i := 6) rfl
theorem ns_7 : Cond.fieldLinkNest "CheckRules" 174 "CheckRules$Printer" "printed" "LCheckRules$Signs;" "CheckRules" ∈ zNs := List.mem_of_getElem? (i := 7) rfl
theorem ns_8 : Cond.fieldLinkNest "CheckRules" 129 "CheckRules$Rule" "tree" "LCheckRules$Tree;" "CheckRules" ∈ zNs := List.mem_of_getElem? (i := 8) rfl
theorem ns_9 : Cond.fieldLinkNest "CheckRules" 83 "CheckRules$Rule" "group" "I" "CheckRules" ∈ zNs := List.mem_of_getElem? (i := 9) rfl
theorem ns_10 : Cond.fieldLinkNest "CheckRules" 86 "CheckRules$Rule" "hard" "Z" "CheckRules" ∈ zNs := List.mem_of_getElem? (i := 10) rfl
theorem ns_11 : Cond.fieldLinkNest "CheckRules" 93 "CheckRules$Rule" "firstDay" "I" "CheckRules" ∈ zNs := List.mem_of_getElem? (i := 11) rfl
theorem ns_12 : Cond.fieldLinkNest "CheckRules" 126 "CheckRules$Rule" "latest" "I" "CheckRules" ∈ zNs := List.mem_of_getElem? (i := 12) rfl
theorem ns_13 : Cond.fieldLinkNest "CheckRules" 147 "CheckRules$Rule" "met" "Z" "CheckRules" ∈ zNs := List.mem_of_getElem? (i := 13) rfl
theorem ns_14 : Cond.fieldLinkNest "CheckRules" 137 "CheckRules$Rule" "answered" "Z" "CheckRules" ∈ zNs := List.mem_of_getElem? (i := 14) rfl
theorem ns_15 : Cond.fieldLinkNest "CheckRules" 193 "CheckRules$Rule" "faulty" "Z" "CheckRules" ∈ zNs := List.mem_of_getElem? (i := 15) rfl
theorem ns_16 : Cond.castable "java/lang/IllegalStateException" "java/lang/IllegalStateException" ∈ zNs := List.mem_of_getElem? (i := 16) rfl
theorem ns_17 : Cond.castable "[I" "java/lang/Cloneable" ∈ zNs := List.mem_of_getElem? (i := 17) rfl
theorem ns_18 : Cond.castable "java/lang/IllegalArgumentException" "java/lang/IllegalArgumentException" ∈ zNs := List.mem_of_getElem? (i := 18) rfl
theorem ns_19 : Cond.castable "java/lang/IndexOutOfBoundsException" "java/lang/IndexOutOfBoundsException" ∈ zNs := List.mem_of_getElem? (i := 19) rfl
theorem ns_20 : Cond.declares ⟨"java/lang/RuntimeException", "<init>", "()V"⟩ ∈ zNs := List.mem_of_getElem? (i := 20) rfl
theorem ns_21 : Cond.declares ⟨"java/lang/RuntimeException", "<init>", "(Ljava/lang/String;)V"⟩ ∈ zNs := List.mem_of_getElem? (i := 21) rfl
theorem ns_22 : Cond.declares ⟨"java/lang/Exception", "<init>", "()V"⟩ ∈ zNs := List.mem_of_getElem? (i := 22) rfl
theorem ns_23 : Cond.declares ⟨"java/lang/Exception", "<init>", "(Ljava/lang/String;)V"⟩ ∈ zNs := List.mem_of_getElem? (i := 23) rfl
theorem ns_24 : Cond.declares ⟨"java/lang/Throwable", "<init>", "()V"⟩ ∈ zNs := List.mem_of_getElem? (i := 24) rfl
theorem ns_25 : Cond.declares ⟨"java/lang/Throwable", "<init>", "(Ljava/lang/String;)V"⟩ ∈ zNs := List.mem_of_getElem? (i := 25) rfl
/-- the String constants: whose, which entry, text, bytes -/
def zSo : Nat → String := fun j => match j with
  | 0 => "CheckRules"
  | 1 => "CheckRules$Reader"
  | 2 => "CheckRules$Reader"
  | 3 => "CheckRules$Reader"
  | 4 => "CheckRules$Reader"
  | 5 => "CheckRules$Reader"
  | 6 => "CheckRules$Reader"
  | 7 => "CheckRules"
  | 8 => "CheckRules"
  | 9 => "CheckRules"
  | 10 => "CheckRules$Printer"
  | 11 => "CheckRules$Printer"
  | 12 => "CheckRules$Printer"
  | 13 => "CheckRules$Printer"
  | 14 => "CheckRules$Printer"
  | _ => "CheckRules"
def zSi : Nat → Nat := fun j => match j with
  | 0 => 60
  | 1 => 147
  | 2 => 153
  | 3 => 155
  | 4 => 157
  | 5 => 159
  | 6 => 121
  | 7 => 123
  | 8 => 140
  | 9 => 155
  | 10 => 42
  | 11 => 44
  | 12 => 68
  | 13 => 70
  | 14 => 86
  | _ => 181
def zSt : Nat → String := fun j => match j with
  | 0 => "there are 20 rules"
  | 1 => "f"
  | 2 => "all"
  | 3 => "any"
  | 4 => "sum"
  | 5 => "count"
  | 6 => "|&!  <>=#+-"
  | 7 => "no such rule"
  | 8 => "no such field"
  | 9 => "no such rule, node or what"
  | 10 => "all("
  | 11 => "any("
  | 12 => "sum "
  | 13 => "count "
  | 14 => "|&!  <>=#+-"
  | _ => "no such sign"
def zSb : Nat → List Int32 := fun j => match j with
  | 0 => [116, 104, 101, 114, 101, 32, 97, 114, 101, 32, 50, 48, 32, 114, 117, 108, 101, 115]
  | 1 => [102]
  | 2 => [97, 108, 108]
  | 3 => [97, 110, 121]
  | 4 => [115, 117, 109]
  | 5 => [99, 111, 117, 110, 116]
  | 6 => [124, 38, 33, 32, 32, 60, 62, 61, 35, 43, 45]
  | 7 => [110, 111, 32, 115, 117, 99, 104, 32, 114, 117, 108, 101]
  | 8 => [110, 111, 32, 115, 117, 99, 104, 32, 102, 105, 101, 108, 100]
  | 9 => [110, 111, 32, 115, 117, 99, 104, 32, 114, 117, 108, 101, 44, 32, 110, 111, 100, 101, 32, 111, 114, 32, 119, 104, 97, 116]
  | 10 => [97, 108, 108, 40]
  | 11 => [97, 110, 121, 40]
  | 12 => [115, 117, 109, 32]
  | 13 => [99, 111, 117, 110, 116, 32]
  | 14 => [124, 38, 33, 32, 32, 60, 62, 61, 35, 43, 45]
  | _ => [110, 111, 32, 115, 117, 99, 104, 32, 115, 105, 103, 110]
def zStr (ad : (Nat → Nat) × (Nat → Nat)) (b0 : Nat) (U : State) : Prop := ∀ j : Nat, j < 16 → vk_R (zSo j) (zSi j) (zSt j) (ad.1 j) U ∧ va_O "java/lang/String" (ad.1 j) (zA b0) U U.heap ∧ va_OF "java/lang/String" "coder" "B" (.int 0) (ad.1 j) (zA b0) U U.heap ∧ va_OF "java/lang/String" "value" "[B" (.ref (ad.2 j)) (ad.1 j) (zA b0) U U.heap ∧ va_T .byte (ad.2 j) (zSb j).length (fun k => .int ((zSb j).getD k 0)) (zA b0) U U.heap
/-- what holds throughout of tables, constants and statics -/
def zG (ad : (Nat → Nat) × (Nat → Nat)) (b0 : Nat) (U : State) : Prop :=
  (∀ w ∈ zTs, w.before #[] U = true) ∧ (∀ w ∈ zNs, va_Nw w U) ∧ va_AO "CheckRules$Rule" U ∧ zStr ad b0 U ∧ va_Z "java/lang/String" "COMPACT_STRINGS" "Z" (.int 1) (zA b0) U U.heap ∧ va_Zq "java/lang/Throwable" "UNASSIGNED_STACK" "[Ljava/lang/StackTraceElement;" (zA b0) U U.heap ∧ va_Zq "java/lang/Throwable" "SUPPRESSED_SENTINEL" "Ljava/util/List;" (zA b0) U U.heap ∧ va_Zq "jdk/internal/util/Preconditions" "SIOOBE_FORMATTER" "Ljava/util/function/BiFunction;" (zA b0) U U.heap
theorem zTs_good : ∀ w ∈ zTs, (w.onTables && w.keeps) = true ∨ ∃ ty, w = .arrayClass ty := fun w h => good_of_word (List.mem_filter.mp h).2
theorem zG_w {ad : (Nat → Nat) × (Nat → Nat)} {b0 : Nat} : zGw (zG ad b0) zTs := fun s args h w hw => word_at (State.WarmedH.refl s) (zTs_good w hw) (h.1 w hw)
theorem zG_n {ad : (Nat → Nat) × (Nat → Nat)} {b0 : Nat} {s : State} (h : zG ad b0 s) {w : Cond} (hw : w ∈ zNs) : va_Nw w s := h.2.1 w hw
theorem zG_ao {ad : (Nat → Nat) × (Nat → Nat)} {b0 : Nat} {s : State} (h : zG ad b0 s) : va_AO "CheckRules$Rule" s := h.2.2.1
theorem zG_ok {ad : (Nat → Nat) × (Nat → Nat)} {b0 : Nat} : zGok b0 (zG ad b0) := by
  intro s U hW hb hlow h
  obtain ⟨h1, h2, h3, h4, h5, h6, h7, h8⟩ := h
  have hq : ∀ a : Nat, a < s.heap.size → ¬ zA b0 a → U.heap[a]? = s.heap[a]? := fun a _ h => hlow a (Nat.not_le.mp h)
  have hal := hW.alike
  refine ⟨fun w hw => word_at hW (zTs_good w hw) (h1 w hw), fun w hw => ?_, va_AO.moved hal h3, fun j hj => ?_, (va_Z.moved hal h5).kept hq, (va_Zq.moved hal h6).kept hq, (va_Zq.moved hal h7).kept hq, (va_Zq.moved hal h8).kept hq⟩
  · have h := h2 w hw
    simp only [zNs, List.mem_cons, List.not_mem_nil, or_false] at hw
    rcases hw with rfl | rfl | rfl | rfl | rfl | rfl | rfl | rfl | rfl | rfl | rfl | rfl | rfl | rfl | rfl | rfl | rfl | rfl | rfl | rfl | rfl | rfl | rfl | rfl | rfl | rfl <;> first | exact va_Nw.warmF hW h | exact va_Nw.warmM hW h | exact va_Nw.warmC hW h | exact va_Nw.warmD hW h
  · obtain ⟨a1, a2, a3, a4, a5⟩ := h4 j hj
    exact ⟨a1.warm hW, (va_O.moved hal a2).kept hq, (va_OF.moved hal a3).kept hq, (va_OF.moved hal a4).kept hq, (va_T.moved hal a5).kept hq⟩
/-- the room of a call that goes d frames deep -/
abbrev zR (d mc ms : Nat) : Room := { frames := d, cells := mc, slots := ms, locals := 48 * d }
end
section
/-! pictures of a part of the heap: cells at addresses that are apart; frames -/
def zP (b0 N : Nat) (f : Nat → va_E) (ws : va_W) : Prop := (ws.map (fun q => q.1)).Nodup ∧ ∀ (k : Nat) (q : Nat × va_E), ws[k]? = some q → b0 ≤ q.1 ∧ q.1 < N ∧ f q.1 = q.2
/-- what lies below N0 and is none of as is as it was -/
def zF (N0 : Nat) (f f' : Nat → va_E) (as : List Nat) : Prop := ∀ q : Nat, q < N0 → q ∉ as → f' q = f q
theorem zP.lo {b0 N : Nat} {f : Nat → va_E} {ws : va_W} (h : zP b0 N f ws) (k : Nat) {a : Nat} {x : va_E} (hk : ws[k]? = some (a, x)) : b0 ≤ a ∧ a < N := ⟨(h.2 k _ hk).1, (h.2 k _ hk).2.1⟩
theorem zP.at {b0 N : Nat} {f : Nat → va_E} {ws : va_W} (h : zP b0 N f ws) (k : Nat) {a : Nat} {x : va_E} (hk : ws[k]? = some (a, x)) : f a = x := (h.2 k _ hk).2.2
theorem zP.inj {b0 N : Nat} {f : Nat → va_E} {ws : va_W} (h : zP b0 N f ws) {i j : Nat} {p q : Nat × va_E} (hi : ws[i]? = some p) (hj : ws[j]? = some q) (e : p.1 = q.1) : i = j := by
  have li : i < (ws.map (fun q => q.1)).length := by rw [List.length_map]; exact (List.getElem?_eq_some_iff.mp hi).1
  have e1 : (ws.map (fun q => q.1))[i]? = some p.1 := by rw [List.getElem?_map, hi]; rfl
  have e2 : (ws.map (fun q => q.1))[j]? = some q.1 := by rw [List.getElem?_map, hj]; rfl
  exact (List.getElem?_inj li h.1).mp (by rw [e1, e2, e])
theorem zP.put {b0 N : Nat} {f : Nat → va_E} {ws : va_W} (h : zP b0 N f ws) (k : Nat) {a : Nat} {x : va_E} (hk : ws[k]? = some (a, x)) (y : va_E) : zP b0 N (va_up f a y) (ws.set k (a, y)) := by
  have hl := (List.getElem?_eq_some_iff.mp hk).1
  have hg := (List.getElem?_eq_some_iff.mp hk).2
  refine ⟨?_, fun j q hj => ?_⟩
  · have e : (ws.set k (a, y)).map (fun q => q.1) = ws.map (fun q => q.1) := by
      rw [List.map_set]
      apply List.ext_getElem?
      intro i
      by_cases hi : i = k
      · subst hi
        rw [List.getElem?_set_self (by rw [List.length_map]; exact hl), List.getElem?_map, hk]
        rfl
      · rw [List.getElem?_set_ne (Ne.symm hi)]
    rw [e]
    exact h.1
  · by_cases hjk : j = k
    · subst hjk
      rw [List.getElem?_set_self hl] at hj
      cases hj
      obtain ⟨h1, h2, -⟩ := h.2 j _ hk
      exact ⟨h1, h2, va_up_self _ _ _⟩
    · rw [List.getElem?_set_ne (Ne.symm hjk)] at hj
      obtain ⟨h1, h2, h3⟩ := h.2 j q hj
      refine ⟨h1, h2, ?_⟩
      rw [va_up_ne _ _ (fun e => hjk (h.inj hj hk e))]
      exact h3
theorem zP.pick {ws wc : va_W} {is : List Nat} (hs : is.map (fun i => ws[i]?) = wc.map some) (k : Nat) (q : Nat × va_E) (hk : wc[k]? = some q) : ∃ i, is[k]? = some i ∧ ws[i]? = some q := by
  have h1 : (is.map (fun i => ws[i]?))[k]? = some (some q) := by rw [hs, List.getElem?_map, hk]; rfl
  rw [List.getElem?_map] at h1
  cases hi : is[k]? with
  | none => rw [hi] at h1; cases h1
  | some i => rw [hi] at h1; exact ⟨i, rfl, Option.some.inj h1⟩
theorem zP.sub {b0 N : Nat} {f : Nat → va_E} {ws wc : va_W} (h : zP b0 N f ws) (is : List Nat) (hn : va_nd is = true) (hs : is.map (fun i => ws[i]?) = wc.map some) : zP b0 N f wc := by
  refine ⟨?_, fun k q hk => ?_⟩
  · rw [List.Nodup, List.pairwise_iff_getElem]
    intro i j hi0 hj0 hij e
    have hi : i < wc.length := by rw [List.length_map] at hi0; exact hi0
    have hj : j < wc.length := by rw [List.length_map] at hj0; exact hj0
    have e1 : (wc[i]).1 = (wc[j]).1 := by rw [List.getElem_map, List.getElem_map] at e; exact e
    obtain ⟨i', a1, a2⟩ := zP.pick hs i _ (List.getElem?_eq_getElem hi)
    obtain ⟨j', b1, b2⟩ := zP.pick hs j _ (List.getElem?_eq_getElem hj)
    have := h.inj a2 b2 e1
    subst this
    have := va_nd_inj is hn i j i' a1 b1
    omega
  · obtain ⟨i, -, hi⟩ := zP.pick hs k q hk
    exact h.2 i q hi
theorem zP.push {b0 N : Nat} {f : Nat → va_E} {ws : va_W} (h : zP b0 N f ws) (hb : b0 ≤ N) (y : va_E) : zP b0 (N + 1) (va_up f N y) (ws ++ [(N, y)]) := by
  refine ⟨?_, fun k q hk => ?_⟩
  · rw [List.map_append, List.nodup_append]
    refine ⟨h.1, by simp, fun a ha b hb2 => ?_⟩
    obtain ⟨q, hq, rfl⟩ := List.mem_map.mp ha
    obtain ⟨i, hi⟩ := List.getElem?_of_mem hq
    have := (h.2 i q hi).2.1
    simp at hb2
    omega
  · by_cases hl : k < ws.length
    · rw [List.getElem?_append_left hl] at hk
      obtain ⟨h1, h2, h3⟩ := h.2 k q hk
      exact ⟨h1, by omega, by rw [va_up_ne _ _ (by omega)]; exact h3⟩
    · rw [List.getElem?_append_right (by omega)] at hk
      have hz : k - ws.length < 1 := (List.getElem?_eq_some_iff.mp hk).1
      rw [show k - ws.length = 0 by omega] at hk
      cases hk
      exact ⟨hb, by omega, va_up_self _ _ _⟩
theorem zF.rf {N0 : Nat} {f : Nat → va_E} {as : List Nat} : zF N0 f f as := fun _ _ _ => rfl
theorem zF.put {N0 a : Nat} {f0 f : Nat → va_E} {as : List Nat} (h : zF N0 f0 f as) (ha : a ∈ as) (y : va_E) : zF N0 f0 (va_up f a y) as := fun q h1 h2 => by
  rw [va_up_ne _ _ (fun e => h2 (by rw [e]; exact ha))]
  exact h q h1 h2
theorem zF.push {N0 N : Nat} {f0 f : Nat → va_E} {as : List Nat} (h : zF N0 f0 f as) (hN : N0 ≤ N) (y : va_E) : zF N0 f0 (va_up f N y) as := fun q h1 h2 => by
  rw [va_up_ne _ _ (by omega)]
  exact h q h1 h2
theorem zF.join {N0 N : Nat} {f0 f f' : Nat → va_E} {as bs : List Nat} (h : zF N0 f0 f as) (h1 : zF N f f' bs) (hN : N0 ≤ N) (hs : ∀ b ∈ bs, b ∈ as ∨ N0 ≤ b) : zF N0 f0 f' as := fun q h2 h3 => by
  rw [h1 q (by omega) (fun hb => by rcases hs q hb with h | h; exact h3 h; omega)]
  exact h q h2 h3
theorem zF.mono {N0 N : Nat} {f0 f : Nat → va_E} {as bs : List Nat} (h : zF N f0 f as) (hN : N0 ≤ N) (hs : ∀ b ∈ as, b ∈ bs ∨ N0 ≤ b) : zF N0 f0 f bs := fun q h2 h3 => h q (by omega) (fun hb => by rcases hs q hb with h | h; exact h3 h; omega)
theorem zP.frame {b0 N N' : Nat} {f f' : Nat → va_E} {ws : va_W} {as : List Nat} (h : zP b0 N f ws) (hF : zF N f f' as) (hN : N ≤ N') (hd : ∀ a ∈ as, a ∉ ws.map (fun q => q.1)) : zP b0 N' f' ws := by
  refine ⟨h.1, fun k q hk => ?_⟩
  obtain ⟨h1, h2, h3⟩ := h.2 k q hk
  refine ⟨h1, by omega, ?_⟩
  rw [hF q.1 h2 (fun ha => hd q.1 ha (List.mem_map.mpr ⟨q, List.mem_of_getElem? hk, rfl⟩))]
  exact h3
/-- behind a call: the rest beside what the callee leaves -/
theorem zP.join {b0 N N' : Nat} {f f' : Nat → va_E} {ws wc wr w1 : va_W} (h : zP b0 N f ws) (isC isR : List Nat) (hC : isC.map (fun i => ws[i]?) = wc.map some) (hR : isR.map (fun i => ws[i]?) = wr.map some) (hn : va_nd isR = true) (hdis : ∀ i ∈ isR, i ∉ isC)
    (hF : zF N f f' (wc.map (fun q => q.1))) (hN : N ≤ N') (h1 : zP b0 N' f' w1) (hsub : ∀ a ∈ w1.map (fun q => q.1), a ∈ wc.map (fun q => q.1) ∨ N ≤ a) : zP b0 N' f' (wr ++ w1) := by
  have hr : zP b0 N f wr := h.sub isR hn hR
  have apart : ∀ a ∈ wr.map (fun q => q.1), a ∉ wc.map (fun q => q.1) := by
    intro a ha hc
    obtain ⟨p, hp, rfl⟩ := List.mem_map.mp ha
    obtain ⟨q, hq, e⟩ := List.mem_map.mp hc
    obtain ⟨i, hi⟩ := List.getElem?_of_mem hp
    obtain ⟨j, hj⟩ := List.getElem?_of_mem hq
    obtain ⟨i', a1, a2⟩ := zP.pick hR i p hi
    obtain ⟨j', b1, b2⟩ := zP.pick hC j q hj
    have := h.inj a2 b2 e.symm
    subst this
    exact hdis i' (List.mem_of_getElem? a1) (List.mem_of_getElem? b1)
  have hr' : zP b0 N' f' wr := hr.frame hF hN (fun a h1 h2 => apart a h2 h1)
  refine ⟨?_, fun k q hk => ?_⟩
  · rw [List.map_append, List.nodup_append]
    refine ⟨hr.1, h1.1, fun a ha b hb e => ?_⟩
    subst e
    rcases hsub a hb with h | h
    · exact apart a ha h
    · obtain ⟨p, hp, rfl⟩ := List.mem_map.mp ha
      obtain ⟨i, hi⟩ := List.getElem?_of_mem hp
      have := (hr.2 i p hi).2.1
      omega
  · by_cases hl : k < wr.length
    · rw [List.getElem?_append_left hl] at hk
      exact hr'.2 k q hk
    · rw [List.getElem?_append_right (by omega)] at hk
      exact h1.2 _ q hk
end
section
theorem ini_Law : Cond.initialized "CheckRulesLaw" ∈ zTs := zT_in 61 (by decide +kernel) rfl
theorem ini_Cls : Cond.initialized "CheckRules" ∈ zTs := zT_in 62 (by decide +kernel) rfl
theorem ini_Rdr : Cond.initialized "CheckRules$Reader" ∈ zTs := zT_in 63 (by decide +kernel) rfl
theorem ini_Sgn : Cond.initialized "CheckRules$Signs" ∈ zTs := zT_in 64 (by decide +kernel) rfl
theorem ini_Tre : Cond.initialized "CheckRules$Tree" ∈ zTs := zT_in 65 (by decide +kernel) rfl
theorem ini_Wrk : Cond.initialized "CheckRules$Worker" ∈ zTs := zT_in 66 (by decide +kernel) rfl
theorem ini_Decl : Cond.initialized "CheckRules$Declaration" ∈ zTs := zT_in 67 (by decide +kernel) rfl
theorem ini_Arrays : Cond.initialized "java/util/Arrays" ∈ zTs := zT_in 68 (by decide +kernel) rfl
theorem ini_Prt : Cond.initialized "CheckRules$Printer" ∈ zTs := zT_in 69 (by decide +kernel) rfl
theorem ini_Mod : Cond.initialized "CheckRulesModel" ∈ zTs := zT_in 70 (by decide +kernel) rfl
theorem ini_Throwable : Cond.initialized "java/lang/Throwable" ∈ zTs := zT_in 71 (by decide +kernel) rfl
theorem ini_Exception : Cond.initialized "java/lang/Exception" ∈ zTs := zT_in 72 (by decide +kernel) rfl
theorem ini_RuntimeException : Cond.initialized "java/lang/RuntimeException" ∈ zTs := zT_in 73 (by decide +kernel) rfl
theorem ini_ISE : Cond.initialized "java/lang/IllegalStateException" ∈ zTs := zT_in 74 (by decide +kernel) rfl
theorem ini_String : Cond.initialized "java/lang/String" ∈ zTs := zT_in 75 (by decide +kernel) rfl
theorem ini_StringLatin1 : Cond.initialized "java/lang/StringLatin1" ∈ zTs := zT_in 76 (by decide +kernel) rfl
theorem ini_Preconditions : Cond.initialized "jdk/internal/util/Preconditions" ∈ zTs := zT_in 77 (by decide +kernel) rfl
theorem ini_StringUTF16 : Cond.initialized "java/lang/StringUTF16" ∈ zTs := zT_in 78 (by decide +kernel) rfl
theorem ini_Math : Cond.initialized "java/lang/Math" ∈ zTs := zT_in 79 (by decide +kernel) rfl
theorem ini_Character : Cond.initialized "java/lang/Character" ∈ zTs := zT_in 80 (by decide +kernel) rfl
theorem ini_Rul : Cond.initialized "CheckRules$Rule" ∈ zTs := zT_in 81 (by decide +kernel) rfl
theorem ini_System : Cond.initialized "java/lang/System" ∈ zTs := zT_in 82 (by decide +kernel) rfl
theorem ini_IAE : Cond.initialized "java/lang/IllegalArgumentException" ∈ zTs := zT_in 83 (by decide +kernel) rfl
theorem ini_IOE : Cond.initialized "java/lang/IndexOutOfBoundsException" ∈ zTs := zT_in 84 (by decide +kernel) rfl
theorem kl_Law_8 : Cond.classLink "CheckRulesLaw" 8 "CheckRules" ∈ zTs := zT_in 85 (by decide +kernel) rfl
theorem ins_Cls : Cond.instantiable "CheckRules" 7 ∈ zTs := zT_in 86 (by decide +kernel) rfl
theorem ml_Law_39 : Cond.methodLink "CheckRulesLaw" 39 ⟨"CheckRules", "<init>", "()V"⟩ ∈ zTs := zT_in 87 (by decide +kernel) rfl
theorem im_Cls_init : Cond.instanceMethod ⟨"CheckRules", "<init>", "()V"⟩ ∈ zTs := zT_in 88 (by decide +kernel) rfl
theorem ml_Cls_3 : Cond.methodLink "CheckRules" 3 ⟨"java/lang/Object", "<init>", "()V"⟩ ∈ zTs := zT_in 90 (by decide +kernel) rfl
theorem im_Object_init : Cond.instanceMethod ⟨"java/lang/Object", "<init>", "()V"⟩ ∈ zTs := zT_in 91 (by decide +kernel) rfl
theorem kl_Cls_9 : Cond.classLink "CheckRules" 9 "CheckRules$Reader" ∈ zTs := zT_in 93 (by decide +kernel) rfl
theorem ins_Rdr : Cond.instantiable "CheckRules$Reader" 14 ∈ zTs := zT_in 94 (by decide +kernel) rfl
theorem im_Rdr_init : Cond.instanceMethod ⟨"CheckRules$Reader", "<init>", "()V"⟩ ∈ zTs := zT_in 96 (by decide +kernel) rfl
theorem ml_Rdr_3 : Cond.methodLink "CheckRules$Reader" 3 ⟨"java/lang/Object", "<init>", "()V"⟩ ∈ zTs := zT_in 98 (by decide +kernel) rfl
theorem kl_Rdr_9 : Cond.classLink "CheckRules$Reader" 9 "CheckRules$Signs" ∈ zTs := zT_in 99 (by decide +kernel) rfl
theorem ins_Sgn : Cond.instantiable "CheckRules$Signs" 2 ∈ zTs := zT_in 100 (by decide +kernel) rfl
theorem im_Sgn_init : Cond.instanceMethod ⟨"CheckRules$Signs", "<init>", "()V"⟩ ∈ zTs := zT_in 102 (by decide +kernel) rfl
theorem ml_Sgn_3 : Cond.methodLink "CheckRules$Signs" 3 ⟨"java/lang/Object", "<init>", "()V"⟩ ∈ zTs := zT_in 104 (by decide +kernel) rfl
theorem fl_Sgn_9 : Cond.fieldLink "CheckRules$Signs" 9 "CheckRules$Signs" "row" "[I" ∈ zTs := zT_in 105 (by decide +kernel) rfl
theorem fl_Sgn_15 : Cond.fieldLink "CheckRules$Signs" 15 "CheckRules$Signs" "used" "I" ∈ zTs := zT_in 106 (by decide +kernel) rfl
theorem ac_int : Cond.arrayClass FieldType.int ∈ zTs := zT_in 112 (by decide +kernel) rfl
theorem kl_Rdr_18 : Cond.classLink "CheckRules$Reader" 18 "CheckRules$Tree" ∈ zTs := zT_in 113 (by decide +kernel) rfl
theorem ins_Tre : Cond.instantiable "CheckRules$Tree" 4 ∈ zTs := zT_in 114 (by decide +kernel) rfl
theorem ml_Rdr_20 : Cond.methodLink "CheckRules$Reader" 20 ⟨"CheckRules$Tree", "<init>", "()V"⟩ ∈ zTs := zT_in 115 (by decide +kernel) rfl
theorem im_Tre_init : Cond.instanceMethod ⟨"CheckRules$Tree", "<init>", "()V"⟩ ∈ zTs := zT_in 116 (by decide +kernel) rfl
theorem ml_Tre_3 : Cond.methodLink "CheckRules$Tree" 3 ⟨"java/lang/Object", "<init>", "()V"⟩ ∈ zTs := zT_in 118 (by decide +kernel) rfl
theorem fl_Tre_9 : Cond.fieldLink "CheckRules$Tree" 9 "CheckRules$Tree" "kinds" "[I" ∈ zTs := zT_in 119 (by decide +kernel) rfl
theorem fl_Tre_15 : Cond.fieldLink "CheckRules$Tree" 15 "CheckRules$Tree" "values" "[I" ∈ zTs := zT_in 120 (by decide +kernel) rfl
theorem fl_Tre_18 : Cond.fieldLink "CheckRules$Tree" 18 "CheckRules$Tree" "rights" "[I" ∈ zTs := zT_in 121 (by decide +kernel) rfl
theorem fl_Tre_21 : Cond.fieldLink "CheckRules$Tree" 21 "CheckRules$Tree" "used" "I" ∈ zTs := zT_in 122 (by decide +kernel) rfl
theorem fl_Rdr_12 : Cond.fieldLink "CheckRules$Reader" 12 "CheckRules$Reader" "text" "LCheckRules$Signs;" ∈ zTs := zT_in 132 (by decide +kernel) rfl
theorem fl_Rdr_21 : Cond.fieldLink "CheckRules$Reader" 21 "CheckRules$Reader" "tree" "LCheckRules$Tree;" ∈ zTs := zT_in 134 (by decide +kernel) rfl
theorem fl_Rdr_25 : Cond.fieldLink "CheckRules$Reader" 25 "CheckRules$Reader" "ruleStarts" "[I" ∈ zTs := zT_in 135 (by decide +kernel) rfl
theorem fl_Rdr_29 : Cond.fieldLink "CheckRules$Reader" 29 "CheckRules$Reader" "andStarts" "[I" ∈ zTs := zT_in 136 (by decide +kernel) rfl
theorem fl_Rdr_32 : Cond.fieldLink "CheckRules$Reader" 32 "CheckRules$Reader" "depths" "[I" ∈ zTs := zT_in 137 (by decide +kernel) rfl
theorem fl_Rdr_72 : Cond.fieldLink "CheckRules$Reader" 72 "CheckRules$Reader" "level" "I" ∈ zTs := zT_in 138 (by decide +kernel) rfl
theorem fl_Rdr_46 : Cond.fieldLink "CheckRules$Reader" 46 "CheckRules$Reader" "depth" "I" ∈ zTs := zT_in 139 (by decide +kernel) rfl
theorem fl_Rdr_102 : Cond.fieldLink "CheckRules$Reader" 102 "CheckRules$Reader" "sumStart" "I" ∈ zTs := zT_in 140 (by decide +kernel) rfl
theorem fl_Rdr_94 : Cond.fieldLink "CheckRules$Reader" 94 "CheckRules$Reader" "compared" "Z" ∈ zTs := zT_in 141 (by decide +kernel) rfl
theorem fl_Rdr_66 : Cond.fieldLink "CheckRules$Reader" 66 "CheckRules$Reader" "state" "I" ∈ zTs := zT_in 142 (by decide +kernel) rfl
theorem fl_Rdr_42 : Cond.fieldLink "CheckRules$Reader" 42 "CheckRules$Reader" "place" "I" ∈ zTs := zT_in 143 (by decide +kernel) rfl
theorem fl_Rdr_63 : Cond.fieldLink "CheckRules$Reader" 63 "CheckRules$Reader" "token" "I" ∈ zTs := zT_in 144 (by decide +kernel) rfl
theorem fl_Rdr_60 : Cond.fieldLink "CheckRules$Reader" 60 "CheckRules$Reader" "tokenStart" "I" ∈ zTs := zT_in 145 (by decide +kernel) rfl
theorem fl_Rdr_105 : Cond.fieldLink "CheckRules$Reader" 105 "CheckRules$Reader" "tokenValue" "I" ∈ zTs := zT_in 146 (by decide +kernel) rfl
theorem kl_Cls_18 : Cond.classLink "CheckRules" 18 "CheckRules$Worker" ∈ zTs := zT_in 176 (by decide +kernel) rfl
theorem ins_Wrk : Cond.instantiable "CheckRules$Worker" 3 ∈ zTs := zT_in 177 (by decide +kernel) rfl
theorem im_Wrk_init : Cond.instanceMethod ⟨"CheckRules$Worker", "<init>", "()V"⟩ ∈ zTs := zT_in 179 (by decide +kernel) rfl
theorem ml_Wrk_3 : Cond.methodLink "CheckRules$Worker" 3 ⟨"java/lang/Object", "<init>", "()V"⟩ ∈ zTs := zT_in 181 (by decide +kernel) rfl
theorem kl_Wrk_9 : Cond.classLink "CheckRules$Worker" 9 "CheckRules$Declaration" ∈ zTs := zT_in 182 (by decide +kernel) rfl
theorem ins_Decl : Cond.instantiable "CheckRules$Declaration" 1 ∈ zTs := zT_in 183 (by decide +kernel) rfl
theorem ml_Wrk_11 : Cond.methodLink "CheckRules$Worker" 11 ⟨"CheckRules$Declaration", "<init>", "()V"⟩ ∈ zTs := zT_in 184 (by decide +kernel) rfl
theorem im_Decl_init : Cond.instanceMethod ⟨"CheckRules$Declaration", "<init>", "()V"⟩ ∈ zTs := zT_in 185 (by decide +kernel) rfl
theorem ml_Decl_3 : Cond.methodLink "CheckRules$Declaration" 3 ⟨"java/lang/Object", "<init>", "()V"⟩ ∈ zTs := zT_in 187 (by decide +kernel) rfl
theorem k_Decl_15 : Cond.constant "CheckRules$Declaration" 15 (-2147483648) ∈ zTs := zT_in 188 (by decide +kernel) rfl
theorem ml_Decl_16 : Cond.methodLink "CheckRules$Declaration" 16 ⟨"java/util/Arrays", "fill", "([II)V"⟩ ∈ zTs := zT_in 189 (by decide +kernel) rfl
theorem st_Arrays_fill : Cond.static ⟨"java/util/Arrays", "fill", "([II)V"⟩ ∈ zTs := zT_in 190 (by decide +kernel) rfl
theorem fl_Decl_9 : Cond.fieldLink "CheckRules$Declaration" 9 "CheckRules$Declaration" "values" "[I" ∈ zTs := zT_in 192 (by decide +kernel) rfl
theorem fl_Wrk_12 : Cond.fieldLink "CheckRules$Worker" 12 "CheckRules$Worker" "declaration" "LCheckRules$Declaration;" ∈ zTs := zT_in 196 (by decide +kernel) rfl
theorem fl_Wrk_18 : Cond.fieldLink "CheckRules$Worker" 18 "CheckRules$Worker" "results" "[I" ∈ zTs := zT_in 198 (by decide +kernel) rfl
theorem fl_Wrk_26 : Cond.fieldLink "CheckRules$Worker" 26 "CheckRules$Worker" "lineBits" "I" ∈ zTs := zT_in 199 (by decide +kernel) rfl
theorem kl_Cls_25 : Cond.classLink "CheckRules" 25 "CheckRules$Printer" ∈ zTs := zT_in 207 (by decide +kernel) rfl
theorem ins_Prt : Cond.instantiable "CheckRules$Printer" 1 ∈ zTs := zT_in 208 (by decide +kernel) rfl
theorem im_Prt_init : Cond.instanceMethod ⟨"CheckRules$Printer", "<init>", "()V"⟩ ∈ zTs := zT_in 210 (by decide +kernel) rfl
theorem ml_Prt_3 : Cond.methodLink "CheckRules$Printer" 3 ⟨"java/lang/Object", "<init>", "()V"⟩ ∈ zTs := zT_in 212 (by decide +kernel) rfl
theorem kl_Prt_9 : Cond.classLink "CheckRules$Printer" 9 "CheckRules$Signs" ∈ zTs := zT_in 213 (by decide +kernel) rfl
theorem fl_Prt_12 : Cond.fieldLink "CheckRules$Printer" 12 "CheckRules$Printer" "printed" "LCheckRules$Signs;" ∈ zTs := zT_in 215 (by decide +kernel) rfl
theorem kl_Cls_32 : Cond.classLink "CheckRules" 32 "CheckRules$Rule" ∈ zTs := zT_in 220 (by decide +kernel) rfl
theorem fl_Cls_12 : Cond.fieldLink "CheckRules" 12 "CheckRules" "reader" "LCheckRules$Reader;" ∈ zTs := zT_in 222 (by decide +kernel) rfl
theorem fl_Cls_21 : Cond.fieldLink "CheckRules" 21 "CheckRules" "worker" "LCheckRules$Worker;" ∈ zTs := zT_in 223 (by decide +kernel) rfl
theorem fl_Cls_28 : Cond.fieldLink "CheckRules" 28 "CheckRules" "printer" "LCheckRules$Printer;" ∈ zTs := zT_in 224 (by decide +kernel) rfl
theorem fl_Cls_34 : Cond.fieldLink "CheckRules" 34 "CheckRules" "rules" "[LCheckRules$Rule;" ∈ zTs := zT_in 225 (by decide +kernel) rfl
theorem fl_Cls_38 : Cond.fieldLink "CheckRules" 38 "CheckRules" "ruleCount" "I" ∈ zTs := zT_in 226 (by decide +kernel) rfl
theorem fl_Cls_42 : Cond.fieldLink "CheckRules" 42 "CheckRules" "checkCount" "I" ∈ zTs := zT_in 227 (by decide +kernel) rfl
theorem fl_Cls_45 : Cond.fieldLink "CheckRules" 45 "CheckRules" "today" "I" ∈ zTs := zT_in 228 (by decide +kernel) rfl
theorem ml_Law_43 : Cond.methodLink "CheckRulesLaw" 43 ⟨"CheckRules", "sign", "(I)Z"⟩ ∈ zTs := zT_in 244 (by decide +kernel) rfl
theorem im_Cls_sign : Cond.instanceMethod ⟨"CheckRules", "sign", "(I)Z"⟩ ∈ zTs := zT_in 245 (by decide +kernel) rfl
theorem sel_Cls_sign : Cond.selects "CheckRules" ⟨"CheckRules", "sign", "(I)Z"⟩ ⟨"CheckRules", "sign", "(I)Z"⟩ ∈ zTs := zT_in 246 (by decide +kernel) rfl
theorem ml_Cls_52 : Cond.methodLink "CheckRules" 52 ⟨"CheckRules$Signs", "add", "(I)Z"⟩ ∈ zTs := zT_in 248 (by decide +kernel) rfl
theorem im_Sgn_add : Cond.instanceMethod ⟨"CheckRules$Signs", "add", "(I)Z"⟩ ∈ zTs := zT_in 249 (by decide +kernel) rfl
theorem sel_Sgn_add : Cond.selects "CheckRules$Signs" ⟨"CheckRules$Signs", "add", "(I)Z"⟩ ⟨"CheckRules$Signs", "add", "(I)Z"⟩ ∈ zTs := zT_in 250 (by decide +kernel) rfl
theorem ml_Law_57 : Cond.methodLink "CheckRulesLaw" 57 ⟨"CheckRules", "order", "(IIZ)Z"⟩ ∈ zTs := zT_in 252 (by decide +kernel) rfl
theorem im_Cls_order : Cond.instanceMethod ⟨"CheckRules", "order", "(IIZ)Z"⟩ ∈ zTs := zT_in 253 (by decide +kernel) rfl
theorem sel_Cls_order : Cond.selects "CheckRules" ⟨"CheckRules", "order", "(IIZ)Z"⟩ ⟨"CheckRules", "order", "(IIZ)Z"⟩ ∈ zTs := zT_in 254 (by decide +kernel) rfl
theorem ml_Cls_79 : Cond.methodLink "CheckRules" 79 ⟨"CheckRules", "find", "(I)LCheckRules$Rule;"⟩ ∈ zTs := zT_in 256 (by decide +kernel) rfl
theorem im_Cls_find : Cond.instanceMethod ⟨"CheckRules", "find", "(I)LCheckRules$Rule;"⟩ ∈ zTs := zT_in 258 (by decide +kernel) rfl
theorem ml_Law_62 : Cond.methodLink "CheckRulesLaw" 62 ⟨"CheckRules", "edition", "(II)Z"⟩ ∈ zTs := zT_in 260 (by decide +kernel) rfl
theorem im_Cls_edition : Cond.instanceMethod ⟨"CheckRules", "edition", "(II)Z"⟩ ∈ zTs := zT_in 261 (by decide +kernel) rfl
theorem sel_Cls_edition : Cond.selects "CheckRules" ⟨"CheckRules", "edition", "(II)Z"⟩ ⟨"CheckRules", "edition", "(II)Z"⟩ ∈ zTs := zT_in 262 (by decide +kernel) rfl
theorem ml_Cls_90 : Cond.methodLink "CheckRules" 90 ⟨"CheckRules", "isDay", "(I)Z"⟩ ∈ zTs := zT_in 264 (by decide +kernel) rfl
theorem st_Cls_isDay : Cond.static ⟨"CheckRules", "isDay", "(I)Z"⟩ ∈ zTs := zT_in 265 (by decide +kernel) rfl
theorem k_Cls_204 : Cond.constant "CheckRules" 204 (100000) ∈ zTs := zT_in 267 (by decide +kernel) rfl
theorem ml_Law_67 : Cond.methodLink "CheckRulesLaw" 67 ⟨"CheckRules", "day", "(I)Z"⟩ ∈ zTs := zT_in 268 (by decide +kernel) rfl
theorem im_Cls_day : Cond.instanceMethod ⟨"CheckRules", "day", "(I)Z"⟩ ∈ zTs := zT_in 269 (by decide +kernel) rfl
theorem sel_Cls_day : Cond.selects "CheckRules" ⟨"CheckRules", "day", "(I)Z"⟩ ⟨"CheckRules", "day", "(I)Z"⟩ ∈ zTs := zT_in 270 (by decide +kernel) rfl
theorem ml_Law_71 : Cond.methodLink "CheckRulesLaw" 71 ⟨"CheckRules", "field", "(III)Z"⟩ ∈ zTs := zT_in 272 (by decide +kernel) rfl
theorem im_Cls_field : Cond.instanceMethod ⟨"CheckRules", "field", "(III)Z"⟩ ∈ zTs := zT_in 273 (by decide +kernel) rfl
theorem sel_Cls_field : Cond.selects "CheckRules" ⟨"CheckRules", "field", "(III)Z"⟩ ⟨"CheckRules", "field", "(III)Z"⟩ ∈ zTs := zT_in 274 (by decide +kernel) rfl
theorem k_Cls_96 : Cond.constant "CheckRules" 96 (-1000000) ∈ zTs := zT_in 276 (by decide +kernel) rfl
theorem k_Cls_97 : Cond.constant "CheckRules" 97 (1000000) ∈ zTs := zT_in 277 (by decide +kernel) rfl
theorem ml_Cls_102 : Cond.methodLink "CheckRules" 102 ⟨"CheckRules$Declaration", "put", "(III)Z"⟩ ∈ zTs := zT_in 278 (by decide +kernel) rfl
theorem im_Decl_put : Cond.instanceMethod ⟨"CheckRules$Declaration", "put", "(III)Z"⟩ ∈ zTs := zT_in 279 (by decide +kernel) rfl
theorem sel_Decl_put : Cond.selects "CheckRules$Declaration" ⟨"CheckRules$Declaration", "put", "(III)Z"⟩ ⟨"CheckRules$Declaration", "put", "(III)Z"⟩ ∈ zTs := zT_in 280 (by decide +kernel) rfl
theorem ml_Decl_22 : Cond.methodLink "CheckRules$Declaration" 22 ⟨"CheckRules$Declaration", "slotOf", "(II)I"⟩ ∈ zTs := zT_in 282 (by decide +kernel) rfl
theorem st_Decl_slotOf : Cond.static ⟨"CheckRules$Declaration", "slotOf", "(II)I"⟩ ∈ zTs := zT_in 283 (by decide +kernel) rfl
theorem ml_Law_76 : Cond.methodLink "CheckRulesLaw" 76 ⟨"CheckRules", "without", "(II)Z"⟩ ∈ zTs := zT_in 285 (by decide +kernel) rfl
theorem im_Cls_without : Cond.instanceMethod ⟨"CheckRules", "without", "(II)Z"⟩ ∈ zTs := zT_in 286 (by decide +kernel) rfl
theorem sel_Cls_without : Cond.selects "CheckRules" ⟨"CheckRules", "without", "(II)Z"⟩ ⟨"CheckRules", "without", "(II)Z"⟩ ∈ zTs := zT_in 287 (by decide +kernel) rfl
theorem ml_Cls_108 : Cond.methodLink "CheckRules" 108 ⟨"CheckRules$Declaration", "valueOn", "(II)I"⟩ ∈ zTs := zT_in 289 (by decide +kernel) rfl
theorem im_Decl_valueOn : Cond.instanceMethod ⟨"CheckRules$Declaration", "valueOn", "(II)I"⟩ ∈ zTs := zT_in 290 (by decide +kernel) rfl
theorem sel_Decl_valueOn : Cond.selects "CheckRules$Declaration" ⟨"CheckRules$Declaration", "valueOn", "(II)I"⟩ ⟨"CheckRules$Declaration", "valueOn", "(II)I"⟩ ∈ zTs := zT_in 291 (by decide +kernel) rfl
theorem k_Cls_112 : Cond.constant "CheckRules" 112 (-2147483648) ∈ zTs := zT_in 293 (by decide +kernel) rfl
theorem ml_Law_80 : Cond.methodLink "CheckRulesLaw" 80 ⟨"CheckRules", "check", "()I"⟩ ∈ zTs := zT_in 294 (by decide +kernel) rfl
theorem im_Cls_check : Cond.instanceMethod ⟨"CheckRules", "check", "()I"⟩ ∈ zTs := zT_in 295 (by decide +kernel) rfl
theorem sel_Cls_check : Cond.selects "CheckRules" ⟨"CheckRules", "check", "()I"⟩ ⟨"CheckRules", "check", "()I"⟩ ∈ zTs := zT_in 296 (by decide +kernel) rfl
theorem ml_Cls_113 : Cond.methodLink "CheckRules" 113 ⟨"CheckRules", "checkOne", "(LCheckRules$Rule;)V"⟩ ∈ zTs := zT_in 298 (by decide +kernel) rfl
theorem im_Cls_checkOne : Cond.instanceMethod ⟨"CheckRules", "checkOne", "(LCheckRules$Rule;)V"⟩ ∈ zTs := zT_in 300 (by decide +kernel) rfl
theorem ml_Cls_133 : Cond.methodLink "CheckRules" 133 ⟨"CheckRules$Worker", "workOut", "(LCheckRules$Tree;)I"⟩ ∈ zTs := zT_in 302 (by decide +kernel) rfl
theorem im_Wrk_workOut : Cond.instanceMethod ⟨"CheckRules$Worker", "workOut", "(LCheckRules$Tree;)I"⟩ ∈ zTs := zT_in 303 (by decide +kernel) rfl
theorem sel_Wrk_workOut : Cond.selects "CheckRules$Worker" ⟨"CheckRules$Worker", "workOut", "(LCheckRules$Tree;)I"⟩ ⟨"CheckRules$Worker", "workOut", "(LCheckRules$Tree;)I"⟩ ∈ zTs := zT_in 304 (by decide +kernel) rfl
theorem ml_Wrk_22 : Cond.methodLink "CheckRules$Worker" 22 ⟨"CheckRules$Declaration", "lineBits", "()I"⟩ ∈ zTs := zT_in 306 (by decide +kernel) rfl
theorem im_Decl_lineBits : Cond.instanceMethod ⟨"CheckRules$Declaration", "lineBits", "()I"⟩ ∈ zTs := zT_in 307 (by decide +kernel) rfl
theorem sel_Decl_lineBits : Cond.selects "CheckRules$Declaration" ⟨"CheckRules$Declaration", "lineBits", "()I"⟩ ⟨"CheckRules$Declaration", "lineBits", "()I"⟩ ∈ zTs := zT_in 308 (by decide +kernel) rfl
theorem ml_Decl_26 : Cond.methodLink "CheckRules$Declaration" 26 ⟨"CheckRules$Declaration", "valueOn", "(II)I"⟩ ∈ zTs := zT_in 310 (by decide +kernel) rfl
theorem ml_Wrk_29 : Cond.methodLink "CheckRules$Worker" 29 ⟨"CheckRules$Tree", "size", "()I"⟩ ∈ zTs := zT_in 311 (by decide +kernel) rfl
theorem im_Tre_size : Cond.instanceMethod ⟨"CheckRules$Tree", "size", "()I"⟩ ∈ zTs := zT_in 312 (by decide +kernel) rfl
theorem sel_Tre_size : Cond.selects "CheckRules$Tree" ⟨"CheckRules$Tree", "size", "()I"⟩ ⟨"CheckRules$Tree", "size", "()I"⟩ ∈ zTs := zT_in 313 (by decide +kernel) rfl
theorem ml_Wrk_34 : Cond.methodLink "CheckRules$Worker" 34 ⟨"java/lang/Math", "min", "(II)I"⟩ ∈ zTs := zT_in 315 (by decide +kernel) rfl
theorem st_Math_min : Cond.static ⟨"java/lang/Math", "min", "(II)I"⟩ ∈ zTs := zT_in 316 (by decide +kernel) rfl
theorem ml_Wrk_40 : Cond.methodLink "CheckRules$Worker" 40 ⟨"CheckRules$Worker", "workOutNode", "(LCheckRules$Tree;I)V"⟩ ∈ zTs := zT_in 318 (by decide +kernel) rfl
theorem im_Wrk_workOutNode : Cond.instanceMethod ⟨"CheckRules$Worker", "workOutNode", "(LCheckRules$Tree;I)V"⟩ ∈ zTs := zT_in 320 (by decide +kernel) rfl
theorem ml_Wrk_47 : Cond.methodLink "CheckRules$Worker" 47 ⟨"CheckRules$Tree", "kindOf", "(I)I"⟩ ∈ zTs := zT_in 322 (by decide +kernel) rfl
theorem im_Tre_kindOf : Cond.instanceMethod ⟨"CheckRules$Tree", "kindOf", "(I)I"⟩ ∈ zTs := zT_in 323 (by decide +kernel) rfl
theorem sel_Tre_kindOf : Cond.selects "CheckRules$Tree" ⟨"CheckRules$Tree", "kindOf", "(I)I"⟩ ⟨"CheckRules$Tree", "kindOf", "(I)I"⟩ ∈ zTs := zT_in 324 (by decide +kernel) rfl
theorem ml_Tre_38 : Cond.methodLink "CheckRules$Tree" 38 ⟨"CheckRules$Tree", "has", "(I)Z"⟩ ∈ zTs := zT_in 326 (by decide +kernel) rfl
theorem im_Tre_has : Cond.instanceMethod ⟨"CheckRules$Tree", "has", "(I)Z"⟩ ∈ zTs := zT_in 328 (by decide +kernel) rfl
theorem ml_Wrk_51 : Cond.methodLink "CheckRules$Worker" 51 ⟨"CheckRules$Tree", "valueOf", "(I)I"⟩ ∈ zTs := zT_in 330 (by decide +kernel) rfl
theorem im_Tre_valueOf : Cond.instanceMethod ⟨"CheckRules$Tree", "valueOf", "(I)I"⟩ ∈ zTs := zT_in 331 (by decide +kernel) rfl
theorem sel_Tre_valueOf : Cond.selects "CheckRules$Tree" ⟨"CheckRules$Tree", "valueOf", "(I)I"⟩ ⟨"CheckRules$Tree", "valueOf", "(I)I"⟩ ∈ zTs := zT_in 332 (by decide +kernel) rfl
theorem ml_Wrk_54 : Cond.methodLink "CheckRules$Worker" 54 ⟨"CheckRules$Worker", "setOnAllLines", "(II)V"⟩ ∈ zTs := zT_in 334 (by decide +kernel) rfl
theorem im_Wrk_setOnAllLines : Cond.instanceMethod ⟨"CheckRules$Worker", "setOnAllLines", "(II)V"⟩ ∈ zTs := zT_in 336 (by decide +kernel) rfl
theorem ml_Wrk_73 : Cond.methodLink "CheckRules$Worker" 73 ⟨"CheckRules$Worker", "setResult", "(III)V"⟩ ∈ zTs := zT_in 338 (by decide +kernel) rfl
theorem im_Wrk_setResult : Cond.instanceMethod ⟨"CheckRules$Worker", "setResult", "(III)V"⟩ ∈ zTs := zT_in 340 (by decide +kernel) rfl
theorem ml_Wrk_58 : Cond.methodLink "CheckRules$Worker" 58 ⟨"CheckRules$Declaration", "sumOf", "(I)I"⟩ ∈ zTs := zT_in 342 (by decide +kernel) rfl
theorem im_Decl_sumOf : Cond.instanceMethod ⟨"CheckRules$Declaration", "sumOf", "(I)I"⟩ ∈ zTs := zT_in 343 (by decide +kernel) rfl
theorem sel_Decl_sumOf : Cond.selects "CheckRules$Declaration" ⟨"CheckRules$Declaration", "sumOf", "(I)I"⟩ ⟨"CheckRules$Declaration", "sumOf", "(I)I"⟩ ∈ zTs := zT_in 344 (by decide +kernel) rfl
theorem ml_Wrk_61 : Cond.methodLink "CheckRules$Worker" 61 ⟨"CheckRules$Declaration", "countOf", "(I)I"⟩ ∈ zTs := zT_in 346 (by decide +kernel) rfl
theorem im_Decl_countOf : Cond.instanceMethod ⟨"CheckRules$Declaration", "countOf", "(I)I"⟩ ∈ zTs := zT_in 347 (by decide +kernel) rfl
theorem sel_Decl_countOf : Cond.selects "CheckRules$Declaration" ⟨"CheckRules$Declaration", "countOf", "(I)I"⟩ ⟨"CheckRules$Declaration", "countOf", "(I)I"⟩ ∈ zTs := zT_in 348 (by decide +kernel) rfl
theorem ml_Wrk_64 : Cond.methodLink "CheckRules$Worker" 64 ⟨"CheckRules$Tree", "leftOf", "(I)I"⟩ ∈ zTs := zT_in 350 (by decide +kernel) rfl
theorem im_Tre_leftOf : Cond.instanceMethod ⟨"CheckRules$Tree", "leftOf", "(I)I"⟩ ∈ zTs := zT_in 351 (by decide +kernel) rfl
theorem sel_Tre_leftOf : Cond.selects "CheckRules$Tree" ⟨"CheckRules$Tree", "leftOf", "(I)I"⟩ ⟨"CheckRules$Tree", "leftOf", "(I)I"⟩ ∈ zTs := zT_in 352 (by decide +kernel) rfl
theorem ml_Wrk_67 : Cond.methodLink "CheckRules$Worker" 67 ⟨"CheckRules$Worker", "overLines", "(II)I"⟩ ∈ zTs := zT_in 354 (by decide +kernel) rfl
theorem im_Wrk_overLines : Cond.instanceMethod ⟨"CheckRules$Worker", "overLines", "(II)I"⟩ ∈ zTs := zT_in 356 (by decide +kernel) rfl
theorem ml_Wrk_44 : Cond.methodLink "CheckRules$Worker" 44 ⟨"CheckRules$Worker", "resultOf", "(II)I"⟩ ∈ zTs := zT_in 358 (by decide +kernel) rfl
theorem im_Wrk_resultOf : Cond.instanceMethod ⟨"CheckRules$Worker", "resultOf", "(II)I"⟩ ∈ zTs := zT_in 360 (by decide +kernel) rfl
theorem k_Wrk_96 : Cond.constant "CheckRules$Worker" 96 (-2147483648) ∈ zTs := zT_in 362 (by decide +kernel) rfl
theorem ml_Wrk_84 : Cond.methodLink "CheckRules$Worker" 84 ⟨"CheckRules$Worker", "both", "(II)I"⟩ ∈ zTs := zT_in 363 (by decide +kernel) rfl
theorem st_Wrk_both : Cond.static ⟨"CheckRules$Worker", "both", "(II)I"⟩ ∈ zTs := zT_in 364 (by decide +kernel) rfl
theorem ml_Wrk_87 : Cond.methodLink "CheckRules$Worker" 87 ⟨"CheckRules$Worker", "either", "(II)I"⟩ ∈ zTs := zT_in 366 (by decide +kernel) rfl
theorem st_Wrk_either : Cond.static ⟨"CheckRules$Worker", "either", "(II)I"⟩ ∈ zTs := zT_in 367 (by decide +kernel) rfl
theorem ml_Wrk_90 : Cond.methodLink "CheckRules$Worker" 90 ⟨"CheckRules$Worker", "turned", "(I)I"⟩ ∈ zTs := zT_in 369 (by decide +kernel) rfl
theorem st_Wrk_turned : Cond.static ⟨"CheckRules$Worker", "turned", "(I)I"⟩ ∈ zTs := zT_in 370 (by decide +kernel) rfl
theorem ml_Wrk_70 : Cond.methodLink "CheckRules$Worker" 70 ⟨"CheckRules$Declaration", "valueOn", "(II)I"⟩ ∈ zTs := zT_in 372 (by decide +kernel) rfl
theorem ml_Wrk_77 : Cond.methodLink "CheckRules$Worker" 77 ⟨"CheckRules$Tree", "rightOf", "(I)I"⟩ ∈ zTs := zT_in 373 (by decide +kernel) rfl
theorem im_Tre_rightOf : Cond.instanceMethod ⟨"CheckRules$Tree", "rightOf", "(I)I"⟩ ∈ zTs := zT_in 374 (by decide +kernel) rfl
theorem sel_Tre_rightOf : Cond.selects "CheckRules$Tree" ⟨"CheckRules$Tree", "rightOf", "(I)I"⟩ ⟨"CheckRules$Tree", "rightOf", "(I)I"⟩ ∈ zTs := zT_in 375 (by decide +kernel) rfl
theorem ml_Wrk_80 : Cond.methodLink "CheckRules$Worker" 80 ⟨"CheckRules$Worker", "joined", "(III)I"⟩ ∈ zTs := zT_in 377 (by decide +kernel) rfl
theorem st_Wrk_joined : Cond.static ⟨"CheckRules$Worker", "joined", "(III)I"⟩ ∈ zTs := zT_in 378 (by decide +kernel) rfl
theorem ml_Wrk_93 : Cond.methodLink "CheckRules$Worker" 93 ⟨"CheckRules$Worker", "calculated", "(III)I"⟩ ∈ zTs := zT_in 380 (by decide +kernel) rfl
theorem st_Wrk_calculated : Cond.static ⟨"CheckRules$Worker", "calculated", "(III)I"⟩ ∈ zTs := zT_in 381 (by decide +kernel) rfl
theorem ml_Wrk_97 : Cond.methodLink "CheckRules$Worker" 97 ⟨"CheckRules$Worker", "holds", "(III)Z"⟩ ∈ zTs := zT_in 383 (by decide +kernel) rfl
theorem st_Wrk_holds : Cond.static ⟨"CheckRules$Worker", "holds", "(III)Z"⟩ ∈ zTs := zT_in 384 (by decide +kernel) rfl
theorem ml_Cls_196 : Cond.methodLink "CheckRules" 196 ⟨"CheckRules$Rule", "takeResult", "(I)V"⟩ ∈ zTs := zT_in 386 (by decide +kernel) rfl
theorem im_Rul_takeResult : Cond.instanceMethod ⟨"CheckRules$Rule", "takeResult", "(I)V"⟩ ∈ zTs := zT_in 387 (by decide +kernel) rfl
theorem sel_Rul_takeResult : Cond.selects "CheckRules$Rule" ⟨"CheckRules$Rule", "takeResult", "(I)V"⟩ ⟨"CheckRules$Rule", "takeResult", "(I)V"⟩ ∈ zTs := zT_in 388 (by decide +kernel) rfl
theorem ml_Cls_117 : Cond.methodLink "CheckRules" 117 ⟨"CheckRules", "findBad", "(IZ)I"⟩ ∈ zTs := zT_in 390 (by decide +kernel) rfl
theorem im_Cls_findBad : Cond.instanceMethod ⟨"CheckRules", "findBad", "(IZ)I"⟩ ∈ zTs := zT_in 392 (by decide +kernel) rfl
theorem ml_Cls_200 : Cond.methodLink "CheckRules" 200 ⟨"CheckRules$Rule", "isBad", "(Z)Z"⟩ ∈ zTs := zT_in 394 (by decide +kernel) rfl
theorem im_Rul_isBad : Cond.instanceMethod ⟨"CheckRules$Rule", "isBad", "(Z)Z"⟩ ∈ zTs := zT_in 395 (by decide +kernel) rfl
theorem sel_Rul_isBad : Cond.selects "CheckRules$Rule" ⟨"CheckRules$Rule", "isBad", "(Z)Z"⟩ ⟨"CheckRules$Rule", "isBad", "(Z)Z"⟩ ∈ zTs := zT_in 396 (by decide +kernel) rfl
theorem ml_Law_84 : Cond.methodLink "CheckRulesLaw" 84 ⟨"CheckRules", "bad", "(IZ)I"⟩ ∈ zTs := zT_in 398 (by decide +kernel) rfl
theorem im_Cls_bad : Cond.instanceMethod ⟨"CheckRules", "bad", "(IZ)I"⟩ ∈ zTs := zT_in 399 (by decide +kernel) rfl
theorem sel_Cls_bad : Cond.selects "CheckRules" ⟨"CheckRules", "bad", "(IZ)I"⟩ ⟨"CheckRules", "bad", "(IZ)I"⟩ ∈ zTs := zT_in 400 (by decide +kernel) rfl
theorem ml_Law_96 : Cond.methodLink "CheckRulesLaw" 96 ⟨"CheckRules", "answer", "(I)Z"⟩ ∈ zTs := zT_in 402 (by decide +kernel) rfl
theorem im_Cls_answer : Cond.instanceMethod ⟨"CheckRules", "answer", "(I)Z"⟩ ∈ zTs := zT_in 403 (by decide +kernel) rfl
theorem sel_Cls_answer : Cond.selects "CheckRules" ⟨"CheckRules", "answer", "(I)Z"⟩ ⟨"CheckRules", "answer", "(I)Z"⟩ ∈ zTs := zT_in 404 (by decide +kernel) rfl
theorem ml_Law_103 : Cond.methodLink "CheckRulesLaw" 103 ⟨"CheckRules", "never", "(I)I"⟩ ∈ zTs := zT_in 406 (by decide +kernel) rfl
theorem im_Cls_never : Cond.instanceMethod ⟨"CheckRules", "never", "(I)I"⟩ ∈ zTs := zT_in 407 (by decide +kernel) rfl
theorem sel_Cls_never : Cond.selects "CheckRules" ⟨"CheckRules", "never", "(I)I"⟩ ⟨"CheckRules", "never", "(I)I"⟩ ∈ zTs := zT_in 408 (by decide +kernel) rfl
theorem ml_Law_117 : Cond.methodLink "CheckRulesLaw" 117 ⟨"CheckRules", "count", "(I)I"⟩ ∈ zTs := zT_in 410 (by decide +kernel) rfl
theorem im_Cls_count : Cond.instanceMethod ⟨"CheckRules", "count", "(I)I"⟩ ∈ zTs := zT_in 411 (by decide +kernel) rfl
theorem sel_Cls_count : Cond.selects "CheckRules" ⟨"CheckRules", "count", "(I)I"⟩ ⟨"CheckRules", "count", "(I)I"⟩ ∈ zTs := zT_in 412 (by decide +kernel) rfl
theorem ml_Cls_177 : Cond.methodLink "CheckRules" 177 ⟨"CheckRules$Signs", "size", "()I"⟩ ∈ zTs := zT_in 414 (by decide +kernel) rfl
theorem im_Sgn_size : Cond.instanceMethod ⟨"CheckRules$Signs", "size", "()I"⟩ ∈ zTs := zT_in 415 (by decide +kernel) rfl
theorem sel_Sgn_size : Cond.selects "CheckRules$Signs" ⟨"CheckRules$Signs", "size", "()I"⟩ ⟨"CheckRules$Signs", "size", "()I"⟩ ∈ zTs := zT_in 416 (by decide +kernel) rfl
theorem ml_Cls_183 : Cond.methodLink "CheckRules" 183 ⟨"CheckRules", "countBad", "(Z)I"⟩ ∈ zTs := zT_in 418 (by decide +kernel) rfl
theorem im_Cls_countBad : Cond.instanceMethod ⟨"CheckRules", "countBad", "(Z)I"⟩ ∈ zTs := zT_in 420 (by decide +kernel) rfl
theorem ml_Cls_187 : Cond.methodLink "CheckRules" 187 ⟨"CheckRules$Declaration", "lineBits", "()I"⟩ ∈ zTs := zT_in 422 (by decide +kernel) rfl
theorem ml_Cls_190 : Cond.methodLink "CheckRules" 190 ⟨"CheckRules", "countNodes", "(I)I"⟩ ∈ zTs := zT_in 423 (by decide +kernel) rfl
theorem im_Cls_countNodes : Cond.instanceMethod ⟨"CheckRules", "countNodes", "(I)I"⟩ ∈ zTs := zT_in 425 (by decide +kernel) rfl
theorem ml_Cls_150 : Cond.methodLink "CheckRules" 150 ⟨"CheckRules$Tree", "size", "()I"⟩ ∈ zTs := zT_in 427 (by decide +kernel) rfl
theorem ml_Law_48 : Cond.methodLink "CheckRulesLaw" 48 ⟨"CheckRulesLaw", "rule", "(LCheckRules;[J)I"⟩ ∈ zTs := zT_in 428 (by decide +kernel) rfl
theorem st_Law_rule : Cond.static ⟨"CheckRulesLaw", "rule", "(LCheckRules;[J)I"⟩ ∈ zTs := zT_in 429 (by decide +kernel) rfl
theorem kl_Law_13 : Cond.classLink "CheckRulesLaw" 13 "java/lang/IllegalStateException" ∈ zTs := zT_in 431 (by decide +kernel) rfl
theorem ml_Law_7 : Cond.methodLink "CheckRulesLaw" 7 ⟨"CheckRules", "rule", "()I"⟩ ∈ zTs := zT_in 432 (by decide +kernel) rfl
theorem im_Cls_rule : Cond.instanceMethod ⟨"CheckRules", "rule", "()I"⟩ ∈ zTs := zT_in 433 (by decide +kernel) rfl
theorem sel_Cls_rule : Cond.selects "CheckRules" ⟨"CheckRules", "rule", "()I"⟩ ⟨"CheckRules", "rule", "()I"⟩ ∈ zTs := zT_in 434 (by decide +kernel) rfl
theorem kl_Cls_58 : Cond.classLink "CheckRules" 58 "java/lang/IllegalStateException" ∈ zTs := zT_in 436 (by decide +kernel) rfl
theorem ins_ISE : Cond.instantiable "java/lang/IllegalStateException" 6 ∈ zTs := zT_in 437 (by decide +kernel) rfl
theorem fl_Throwable_198 : Cond.fieldLink "java/lang/Throwable" 198 "java/lang/Throwable" "backtrace" "Ljava/lang/Object;" ∈ zTs := zT_in 457 (by decide +kernel) rfl
theorem im_Throwable_init : Cond.instanceMethod ⟨"java/lang/Throwable", "<init>", "()V"⟩ ∈ zTs := zT_in 459 (by decide +kernel) rfl
theorem ml_Throwable_1 : Cond.methodLink "java/lang/Throwable" 1 ⟨"java/lang/Object", "<init>", "()V"⟩ ∈ zTs := zT_in 461 (by decide +kernel) rfl
theorem fl_Throwable_13 : Cond.fieldLink "java/lang/Throwable" 13 "java/lang/Throwable" "UNASSIGNED_STACK" "[Ljava/lang/StackTraceElement;" ∈ zTs := zT_in 462 (by decide +kernel) rfl
theorem fl_Throwable_20 : Cond.fieldLink "java/lang/Throwable" 20 "java/lang/Throwable" "SUPPRESSED_SENTINEL" "Ljava/util/List;" ∈ zTs := zT_in 464 (by decide +kernel) rfl
theorem ml_Throwable_27 : Cond.methodLink "java/lang/Throwable" 27 ⟨"java/lang/Throwable", "fillInStackTrace", "()Ljava/lang/Throwable;"⟩ ∈ zTs := zT_in 466 (by decide +kernel) rfl
theorem im_Throwable_fillInStackTrace2 : Cond.instanceMethod ⟨"java/lang/Throwable", "fillInStackTrace", "()Ljava/lang/Throwable;"⟩ ∈ zTs := zT_in 467 (by decide +kernel) rfl
theorem ml_Throwable_202 : Cond.methodLink "java/lang/Throwable" 202 ⟨"java/lang/Throwable", "fillInStackTrace", "(I)Ljava/lang/Throwable;"⟩ ∈ zTs := zT_in 472 (by decide +kernel) rfl
theorem im_Throwable_fillInStackTrace : Cond.instanceMethod ⟨"java/lang/Throwable", "fillInStackTrace", "(I)Ljava/lang/Throwable;"⟩ ∈ zTs := zT_in 474 (by decide +kernel) rfl
theorem ins_Throwable : Cond.instantiable "java/lang/Throwable" 6 ∈ zTs := zT_in 475 (by decide +kernel) rfl
theorem ml_Cls_62 : Cond.methodLink "CheckRules" 62 ⟨"java/lang/IllegalStateException", "<init>", "(Ljava/lang/String;)V"⟩ ∈ zTs := zT_in 478 (by decide +kernel) rfl
theorem im_ISE_init : Cond.instanceMethod ⟨"java/lang/IllegalStateException", "<init>", "(Ljava/lang/String;)V"⟩ ∈ zTs := zT_in 479 (by decide +kernel) rfl
theorem ml_ISE_7 : Cond.methodLink "java/lang/IllegalStateException" 7 ⟨"java/lang/RuntimeException", "<init>", "(Ljava/lang/String;)V"⟩ ∈ zTs := zT_in 481 (by decide +kernel) rfl
theorem im_RuntimeException_init : Cond.instanceMethod ⟨"java/lang/RuntimeException", "<init>", "(Ljava/lang/String;)V"⟩ ∈ zTs := zT_in 482 (by decide +kernel) rfl
theorem ml_RuntimeException_7 : Cond.methodLink "java/lang/RuntimeException" 7 ⟨"java/lang/Exception", "<init>", "(Ljava/lang/String;)V"⟩ ∈ zTs := zT_in 484 (by decide +kernel) rfl
theorem im_Exception_init : Cond.instanceMethod ⟨"java/lang/Exception", "<init>", "(Ljava/lang/String;)V"⟩ ∈ zTs := zT_in 485 (by decide +kernel) rfl
theorem ml_Exception_7 : Cond.methodLink "java/lang/Exception" 7 ⟨"java/lang/Throwable", "<init>", "(Ljava/lang/String;)V"⟩ ∈ zTs := zT_in 487 (by decide +kernel) rfl
theorem im_Throwable_init2 : Cond.instanceMethod ⟨"java/lang/Throwable", "<init>", "(Ljava/lang/String;)V"⟩ ∈ zTs := zT_in 488 (by decide +kernel) rfl
theorem fl_Throwable_31 : Cond.fieldLink "java/lang/Throwable" 31 "java/lang/Throwable" "detailMessage" "Ljava/lang/String;" ∈ zTs := zT_in 491 (by decide +kernel) rfl
theorem fl_Throwable_7 : Cond.fieldLink "java/lang/Throwable" 7 "java/lang/Throwable" "cause" "Ljava/lang/Throwable;" ∈ zTs := zT_in 492 (by decide +kernel) rfl
theorem fl_Throwable_17 : Cond.fieldLink "java/lang/Throwable" 17 "java/lang/Throwable" "stackTrace" "[Ljava/lang/StackTraceElement;" ∈ zTs := zT_in 493 (by decide +kernel) rfl
theorem fl_Throwable_24 : Cond.fieldLink "java/lang/Throwable" 24 "java/lang/Throwable" "suppressedExceptions" "Ljava/util/List;" ∈ zTs := zT_in 494 (by decide +kernel) rfl
theorem ac_byte : Cond.arrayClass FieldType.byte ∈ zTs := zT_in 503 (by decide +kernel) rfl
theorem ml_Cls_65 : Cond.methodLink "CheckRules" 65 ⟨"CheckRules$Reader", "readText", "()I"⟩ ∈ zTs := zT_in 504 (by decide +kernel) rfl
theorem im_Rdr_readText : Cond.instanceMethod ⟨"CheckRules$Reader", "readText", "()I"⟩ ∈ zTs := zT_in 505 (by decide +kernel) rfl
theorem sel_Rdr_readText : Cond.selects "CheckRules$Reader" ⟨"CheckRules$Reader", "readText", "()I"⟩ ⟨"CheckRules$Reader", "readText", "()I"⟩ ∈ zTs := zT_in 506 (by decide +kernel) rfl
theorem ml_Rdr_39 : Cond.methodLink "CheckRules$Reader" 39 ⟨"CheckRules$Tree", "clear", "()V"⟩ ∈ zTs := zT_in 508 (by decide +kernel) rfl
theorem im_Tre_clear : Cond.instanceMethod ⟨"CheckRules$Tree", "clear", "()V"⟩ ∈ zTs := zT_in 509 (by decide +kernel) rfl
theorem sel_Tre_clear : Cond.selects "CheckRules$Tree" ⟨"CheckRules$Tree", "clear", "()V"⟩ ⟨"CheckRules$Tree", "clear", "()V"⟩ ∈ zTs := zT_in 510 (by decide +kernel) rfl
theorem ml_Rdr_49 : Cond.methodLink "CheckRules$Reader" 49 ⟨"CheckRules$Reader", "beginLevel", "(I)Z"⟩ ∈ zTs := zT_in 512 (by decide +kernel) rfl
theorem im_Rdr_beginLevel : Cond.instanceMethod ⟨"CheckRules$Reader", "beginLevel", "(I)Z"⟩ ∈ zTs := zT_in 514 (by decide +kernel) rfl
theorem ml_Rdr_98 : Cond.methodLink "CheckRules$Reader" 98 ⟨"CheckRules$Tree", "size", "()I"⟩ ∈ zTs := zT_in 516 (by decide +kernel) rfl
theorem ml_Rdr_53 : Cond.methodLink "CheckRules$Reader" 53 ⟨"CheckRules$Reader", "readToken", "()V"⟩ ∈ zTs := zT_in 517 (by decide +kernel) rfl
theorem im_Rdr_readToken : Cond.instanceMethod ⟨"CheckRules$Reader", "readToken", "()V"⟩ ∈ zTs := zT_in 519 (by decide +kernel) rfl
theorem ml_Rdr_132 : Cond.methodLink "CheckRules$Reader" 132 ⟨"CheckRules$Signs", "get", "(I)I"⟩ ∈ zTs := zT_in 521 (by decide +kernel) rfl
theorem im_Sgn_get : Cond.instanceMethod ⟨"CheckRules$Signs", "get", "(I)I"⟩ ∈ zTs := zT_in 522 (by decide +kernel) rfl
theorem sel_Sgn_get : Cond.selects "CheckRules$Signs" ⟨"CheckRules$Signs", "get", "(I)I"⟩ ⟨"CheckRules$Signs", "get", "(I)I"⟩ ∈ zTs := zT_in 523 (by decide +kernel) rfl
theorem ml_Rdr_135 : Cond.methodLink "CheckRules$Reader" 135 ⟨"CheckRules$Reader", "isDigit", "(I)Z"⟩ ∈ zTs := zT_in 525 (by decide +kernel) rfl
theorem st_Rdr_isDigit : Cond.static ⟨"CheckRules$Reader", "isDigit", "(I)Z"⟩ ∈ zTs := zT_in 526 (by decide +kernel) rfl
theorem ml_Rdr_138 : Cond.methodLink "CheckRules$Reader" 138 ⟨"CheckRules$Reader", "readNumber", "(I)Z"⟩ ∈ zTs := zT_in 528 (by decide +kernel) rfl
theorem im_Rdr_readNumber : Cond.instanceMethod ⟨"CheckRules$Reader", "readNumber", "(I)Z"⟩ ∈ zTs := zT_in 530 (by decide +kernel) rfl
theorem ml_Rdr_141 : Cond.methodLink "CheckRules$Reader" 141 ⟨"CheckRules$Reader", "isLetter", "(I)Z"⟩ ∈ zTs := zT_in 532 (by decide +kernel) rfl
theorem st_Rdr_isLetter : Cond.static ⟨"CheckRules$Reader", "isLetter", "(I)Z"⟩ ∈ zTs := zT_in 533 (by decide +kernel) rfl
theorem ml_Rdr_144 : Cond.methodLink "CheckRules$Reader" 144 ⟨"CheckRules$Reader", "readWord", "()I"⟩ ∈ zTs := zT_in 535 (by decide +kernel) rfl
theorem im_Rdr_readWord : Cond.instanceMethod ⟨"CheckRules$Reader", "readWord", "()I"⟩ ∈ zTs := zT_in 537 (by decide +kernel) rfl
theorem ml_Rdr_149 : Cond.methodLink "CheckRules$Reader" 149 ⟨"CheckRules$Reader", "isWord", "(Ljava/lang/String;)Z"⟩ ∈ zTs := zT_in 540 (by decide +kernel) rfl
theorem im_Rdr_isWord : Cond.instanceMethod ⟨"CheckRules$Reader", "isWord", "(Ljava/lang/String;)Z"⟩ ∈ zTs := zT_in 542 (by decide +kernel) rfl
theorem ml_Rdr_161 : Cond.methodLink "CheckRules$Reader" 161 ⟨"java/lang/String", "length", "()I"⟩ ∈ zTs := zT_in 544 (by decide +kernel) rfl
theorem im_String_length : Cond.instanceMethod ⟨"java/lang/String", "length", "()I"⟩ ∈ zTs := zT_in 545 (by decide +kernel) rfl
theorem sel_String_length : Cond.selects "java/lang/String" ⟨"java/lang/String", "length", "()I"⟩ ⟨"java/lang/String", "length", "()I"⟩ ∈ zTs := zT_in 546 (by decide +kernel) rfl
theorem ml_String_335 : Cond.methodLink "java/lang/String" 335 ⟨"java/lang/String", "coder", "()B"⟩ ∈ zTs := zT_in 548 (by decide +kernel) rfl
theorem im_String_coder : Cond.instanceMethod ⟨"java/lang/String", "coder", "()B"⟩ ∈ zTs := zT_in 549 (by decide +kernel) rfl
theorem sel_String_coder : Cond.selects "java/lang/String" ⟨"java/lang/String", "coder", "()B"⟩ ⟨"java/lang/String", "coder", "()B"⟩ ∈ zTs := zT_in 550 (by decide +kernel) rfl
theorem fl_String_38 : Cond.fieldLink "java/lang/String" 38 "java/lang/String" "COMPACT_STRINGS" "Z" ∈ zTs := zT_in 552 (by decide +kernel) rfl
theorem ml_Rdr_164 : Cond.methodLink "CheckRules$Reader" 164 ⟨"java/lang/String", "charAt", "(I)C"⟩ ∈ zTs := zT_in 554 (by decide +kernel) rfl
theorem im_String_charAt : Cond.instanceMethod ⟨"java/lang/String", "charAt", "(I)C"⟩ ∈ zTs := zT_in 555 (by decide +kernel) rfl
theorem sel_String_charAt : Cond.selects "java/lang/String" ⟨"java/lang/String", "charAt", "(I)C"⟩ ⟨"java/lang/String", "charAt", "(I)C"⟩ ∈ zTs := zT_in 556 (by decide +kernel) rfl
theorem ml_String_492 : Cond.methodLink "java/lang/String" 492 ⟨"java/lang/String", "isLatin1", "()Z"⟩ ∈ zTs := zT_in 558 (by decide +kernel) rfl
theorem im_String_isLatin1 : Cond.instanceMethod ⟨"java/lang/String", "isLatin1", "()Z"⟩ ∈ zTs := zT_in 559 (by decide +kernel) rfl
theorem sel_String_isLatin1 : Cond.selects "java/lang/String" ⟨"java/lang/String", "isLatin1", "()Z"⟩ ⟨"java/lang/String", "isLatin1", "()Z"⟩ ∈ zTs := zT_in 560 (by decide +kernel) rfl
theorem ml_String_495 : Cond.methodLink "java/lang/String" 495 ⟨"java/lang/StringLatin1", "charAt", "([BI)C"⟩ ∈ zTs := zT_in 562 (by decide +kernel) rfl
theorem st_StringLatin1_charAt : Cond.static ⟨"java/lang/StringLatin1", "charAt", "([BI)C"⟩ ∈ zTs := zT_in 563 (by decide +kernel) rfl
theorem ml_StringLatin1_9 : Cond.methodLink "java/lang/StringLatin1" 9 ⟨"java/lang/String", "checkIndex", "(II)V"⟩ ∈ zTs := zT_in 565 (by decide +kernel) rfl
theorem st_String_checkIndex : Cond.static ⟨"java/lang/String", "checkIndex", "(II)V"⟩ ∈ zTs := zT_in 566 (by decide +kernel) rfl
theorem fl_String_1053 : Cond.fieldLink "java/lang/String" 1053 "jdk/internal/util/Preconditions" "SIOOBE_FORMATTER" "Ljava/util/function/BiFunction;" ∈ zTs := zT_in 568 (by decide +kernel) rfl
theorem ml_String_1059 : Cond.methodLink "java/lang/String" 1059 ⟨"jdk/internal/util/Preconditions", "checkIndex", "(IILjava/util/function/BiFunction;)I"⟩ ∈ zTs := zT_in 570 (by decide +kernel) rfl
theorem st_Preconditions_checkIndex : Cond.static ⟨"jdk/internal/util/Preconditions", "checkIndex", "(IILjava/util/function/BiFunction;)I"⟩ ∈ zTs := zT_in 571 (by decide +kernel) rfl
theorem ml_String_498 : Cond.methodLink "java/lang/String" 498 ⟨"java/lang/StringUTF16", "charAt", "([BI)C"⟩ ∈ zTs := zT_in 573 (by decide +kernel) rfl
theorem st_StringUTF16_charAt : Cond.static ⟨"java/lang/StringUTF16", "charAt", "([BI)C"⟩ ∈ zTs := zT_in 574 (by decide +kernel) rfl
theorem ml_StringUTF16_67 : Cond.methodLink "java/lang/StringUTF16" 67 ⟨"java/lang/StringUTF16", "checkIndex", "(I[B)V"⟩ ∈ zTs := zT_in 576 (by decide +kernel) rfl
theorem st_StringUTF16_checkIndex : Cond.static ⟨"java/lang/StringUTF16", "checkIndex", "(I[B)V"⟩ ∈ zTs := zT_in 577 (by decide +kernel) rfl
theorem ml_StringUTF16_48 : Cond.methodLink "java/lang/StringUTF16" 48 ⟨"java/lang/StringUTF16", "length", "([B)I"⟩ ∈ zTs := zT_in 579 (by decide +kernel) rfl
theorem st_StringUTF16_length : Cond.static ⟨"java/lang/StringUTF16", "length", "([B)I"⟩ ∈ zTs := zT_in 580 (by decide +kernel) rfl
theorem ml_StringUTF16_414 : Cond.methodLink "java/lang/StringUTF16" 414 ⟨"java/lang/String", "checkIndex", "(II)V"⟩ ∈ zTs := zT_in 582 (by decide +kernel) rfl
theorem ml_StringUTF16_71 : Cond.methodLink "java/lang/StringUTF16" 71 ⟨"java/lang/StringUTF16", "getChar", "([BI)C"⟩ ∈ zTs := zT_in 583 (by decide +kernel) rfl
theorem st_StringUTF16_getChar : Cond.static ⟨"java/lang/StringUTF16", "getChar", "([BI)C"⟩ ∈ zTs := zT_in 584 (by decide +kernel) rfl
theorem fl_StringUTF16_44 : Cond.fieldLink "java/lang/StringUTF16" 44 "java/lang/StringUTF16" "$assertionsDisabled" "Z" ∈ zTs := zT_in 586 (by decide +kernel) rfl
theorem fl_StringUTF16_59 : Cond.fieldLink "java/lang/StringUTF16" 59 "java/lang/StringUTF16" "HI_BYTE_SHIFT" "I" ∈ zTs := zT_in 588 (by decide +kernel) rfl
theorem fl_StringUTF16_63 : Cond.fieldLink "java/lang/StringUTF16" 63 "java/lang/StringUTF16" "LO_BYTE_SHIFT" "I" ∈ zTs := zT_in 590 (by decide +kernel) rfl
theorem ml_Rdr_56 : Cond.methodLink "CheckRules$Reader" 56 ⟨"CheckRules$Reader", "takeToken", "()Z"⟩ ∈ zTs := zT_in 596 (by decide +kernel) rfl
theorem im_Rdr_takeToken : Cond.instanceMethod ⟨"CheckRules$Reader", "takeToken", "()Z"⟩ ∈ zTs := zT_in 598 (by decide +kernel) rfl
theorem ml_Rdr_69 : Cond.methodLink "CheckRules$Reader" 69 ⟨"CheckRules$Reader", "takePart", "()Z"⟩ ∈ zTs := zT_in 600 (by decide +kernel) rfl
theorem im_Rdr_takePart : Cond.instanceMethod ⟨"CheckRules$Reader", "takePart", "()Z"⟩ ∈ zTs := zT_in 602 (by decide +kernel) rfl
theorem ml_Rdr_87 : Cond.methodLink "CheckRules$Reader" 87 ⟨"CheckRules$Reader", "goDeeper", "()Z"⟩ ∈ zTs := zT_in 604 (by decide +kernel) rfl
theorem im_Rdr_goDeeper : Cond.instanceMethod ⟨"CheckRules$Reader", "goDeeper", "()Z"⟩ ∈ zTs := zT_in 606 (by decide +kernel) rfl
theorem ml_Rdr_90 : Cond.methodLink "CheckRules$Reader" 90 ⟨"CheckRules$Tree", "append", "(II)Z"⟩ ∈ zTs := zT_in 608 (by decide +kernel) rfl
theorem im_Tre_append : Cond.instanceMethod ⟨"CheckRules$Tree", "append", "(II)Z"⟩ ∈ zTs := zT_in 609 (by decide +kernel) rfl
theorem sel_Tre_append : Cond.selects "CheckRules$Tree" ⟨"CheckRules$Tree", "append", "(II)Z"⟩ ⟨"CheckRules$Tree", "append", "(II)Z"⟩ ∈ zTs := zT_in 610 (by decide +kernel) rfl
theorem ml_Rdr_75 : Cond.methodLink "CheckRules$Reader" 75 ⟨"CheckRules$Reader", "takeTerm", "()Z"⟩ ∈ zTs := zT_in 612 (by decide +kernel) rfl
theorem im_Rdr_takeTerm : Cond.instanceMethod ⟨"CheckRules$Reader", "takeTerm", "()Z"⟩ ∈ zTs := zT_in 614 (by decide +kernel) rfl
theorem ml_Rdr_78 : Cond.methodLink "CheckRules$Reader" 78 ⟨"CheckRules$Reader", "takeFieldOfSum", "()Z"⟩ ∈ zTs := zT_in 616 (by decide +kernel) rfl
theorem im_Rdr_takeFieldOfSum : Cond.instanceMethod ⟨"CheckRules$Reader", "takeFieldOfSum", "()Z"⟩ ∈ zTs := zT_in 618 (by decide +kernel) rfl
theorem ml_Rdr_108 : Cond.methodLink "CheckRules$Reader" 108 ⟨"CheckRules$Tree", "setLastValue", "(I)V"⟩ ∈ zTs := zT_in 620 (by decide +kernel) rfl
theorem im_Tre_setLastValue : Cond.instanceMethod ⟨"CheckRules$Tree", "setLastValue", "(I)V"⟩ ∈ zTs := zT_in 621 (by decide +kernel) rfl
theorem sel_Tre_setLastValue : Cond.selects "CheckRules$Tree" ⟨"CheckRules$Tree", "setLastValue", "(I)V"⟩ ⟨"CheckRules$Tree", "setLastValue", "(I)V"⟩ ∈ zTs := zT_in 622 (by decide +kernel) rfl
theorem ml_Rdr_81 : Cond.methodLink "CheckRules$Reader" 81 ⟨"CheckRules$Reader", "takeBehindTerm", "()Z"⟩ ∈ zTs := zT_in 624 (by decide +kernel) rfl
theorem im_Rdr_takeBehindTerm : Cond.instanceMethod ⟨"CheckRules$Reader", "takeBehindTerm", "()Z"⟩ ∈ zTs := zT_in 626 (by decide +kernel) rfl
theorem ml_Rdr_112 : Cond.methodLink "CheckRules$Reader" 112 ⟨"CheckRules$Reader", "kindOfToken", "()I"⟩ ∈ zTs := zT_in 628 (by decide +kernel) rfl
theorem im_Rdr_kindOfToken : Cond.instanceMethod ⟨"CheckRules$Reader", "kindOfToken", "()I"⟩ ∈ zTs := zT_in 630 (by decide +kernel) rfl
theorem ml_Rdr_123 : Cond.methodLink "CheckRules$Reader" 123 ⟨"java/lang/String", "indexOf", "(I)I"⟩ ∈ zTs := zT_in 633 (by decide +kernel) rfl
theorem im_String_indexOf : Cond.instanceMethod ⟨"java/lang/String", "indexOf", "(I)I"⟩ ∈ zTs := zT_in 634 (by decide +kernel) rfl
theorem sel_String_indexOf : Cond.selects "java/lang/String" ⟨"java/lang/String", "indexOf", "(I)I"⟩ ⟨"java/lang/String", "indexOf", "(I)I"⟩ ∈ zTs := zT_in 635 (by decide +kernel) rfl
theorem ml_String_633 : Cond.methodLink "java/lang/String" 633 ⟨"java/lang/String", "indexOf", "(II)I"⟩ ∈ zTs := zT_in 637 (by decide +kernel) rfl
theorem im_String_indexOf2 : Cond.instanceMethod ⟨"java/lang/String", "indexOf", "(II)I"⟩ ∈ zTs := zT_in 638 (by decide +kernel) rfl
theorem sel_String_indexOf2 : Cond.selects "java/lang/String" ⟨"java/lang/String", "indexOf", "(II)I"⟩ ⟨"java/lang/String", "indexOf", "(II)I"⟩ ∈ zTs := zT_in 639 (by decide +kernel) rfl
theorem ml_String_505 : Cond.methodLink "java/lang/String" 505 ⟨"java/lang/String", "length", "()I"⟩ ∈ zTs := zT_in 641 (by decide +kernel) rfl
theorem ml_String_637 : Cond.methodLink "java/lang/String" 637 ⟨"java/lang/StringLatin1", "indexOf", "([BIII)I"⟩ ∈ zTs := zT_in 642 (by decide +kernel) rfl
theorem st_StringLatin1_indexOf : Cond.static ⟨"java/lang/StringLatin1", "indexOf", "([BIII)I"⟩ ∈ zTs := zT_in 643 (by decide +kernel) rfl
theorem ml_StringLatin1_88 : Cond.methodLink "java/lang/StringLatin1" 88 ⟨"java/lang/StringLatin1", "canEncode", "(I)Z"⟩ ∈ zTs := zT_in 645 (by decide +kernel) rfl
theorem st_StringLatin1_canEncode : Cond.static ⟨"java/lang/StringLatin1", "canEncode", "(I)Z"⟩ ∈ zTs := zT_in 646 (by decide +kernel) rfl
theorem ml_StringLatin1_92 : Cond.methodLink "java/lang/StringLatin1" 92 ⟨"java/lang/Math", "max", "(II)I"⟩ ∈ zTs := zT_in 648 (by decide +kernel) rfl
theorem st_Math_max : Cond.static ⟨"java/lang/Math", "max", "(II)I"⟩ ∈ zTs := zT_in 649 (by decide +kernel) rfl
theorem ml_StringLatin1_38 : Cond.methodLink "java/lang/StringLatin1" 38 ⟨"java/lang/Math", "min", "(II)I"⟩ ∈ zTs := zT_in 651 (by decide +kernel) rfl
theorem ml_StringLatin1_95 : Cond.methodLink "java/lang/StringLatin1" 95 ⟨"java/lang/StringLatin1", "indexOfChar", "([BIII)I"⟩ ∈ zTs := zT_in 652 (by decide +kernel) rfl
theorem st_StringLatin1_indexOfChar : Cond.static ⟨"java/lang/StringLatin1", "indexOfChar", "([BIII)I"⟩ ∈ zTs := zT_in 653 (by decide +kernel) rfl
theorem ml_String_640 : Cond.methodLink "java/lang/String" 640 ⟨"java/lang/StringUTF16", "indexOf", "([BIII)I"⟩ ∈ zTs := zT_in 655 (by decide +kernel) rfl
theorem st_StringUTF16_indexOf : Cond.static ⟨"java/lang/StringUTF16", "indexOf", "([BIII)I"⟩ ∈ zTs := zT_in 656 (by decide +kernel) rfl
theorem ml_StringUTF16_224 : Cond.methodLink "java/lang/StringUTF16" 224 ⟨"java/lang/Math", "max", "(II)I"⟩ ∈ zTs := zT_in 658 (by decide +kernel) rfl
theorem ml_StringUTF16_183 : Cond.methodLink "java/lang/StringUTF16" 183 ⟨"java/lang/Math", "min", "(II)I"⟩ ∈ zTs := zT_in 659 (by decide +kernel) rfl
theorem k_StringUTF16_227 : Cond.constant "java/lang/StringUTF16" 227 (65536) ∈ zTs := zT_in 660 (by decide +kernel) rfl
theorem ml_StringUTF16_228 : Cond.methodLink "java/lang/StringUTF16" 228 ⟨"java/lang/StringUTF16", "indexOfChar", "([BIII)I"⟩ ∈ zTs := zT_in 661 (by decide +kernel) rfl
theorem st_StringUTF16_indexOfChar : Cond.static ⟨"java/lang/StringUTF16", "indexOfChar", "([BIII)I"⟩ ∈ zTs := zT_in 662 (by decide +kernel) rfl
theorem ml_StringUTF16_96 : Cond.methodLink "java/lang/StringUTF16" 96 ⟨"java/lang/StringUTF16", "checkBoundsBeginEnd", "(II[B)V"⟩ ∈ zTs := zT_in 664 (by decide +kernel) rfl
theorem st_StringUTF16_checkBoundsBeginEnd : Cond.static ⟨"java/lang/StringUTF16", "checkBoundsBeginEnd", "(II[B)V"⟩ ∈ zTs := zT_in 665 (by decide +kernel) rfl
theorem ml_StringUTF16_241 : Cond.methodLink "java/lang/StringUTF16" 241 ⟨"java/lang/String", "checkBoundsBeginEnd", "(III)V"⟩ ∈ zTs := zT_in 667 (by decide +kernel) rfl
theorem st_String_checkBoundsBeginEnd : Cond.static ⟨"java/lang/String", "checkBoundsBeginEnd", "(III)V"⟩ ∈ zTs := zT_in 668 (by decide +kernel) rfl
theorem ml_String_1062 : Cond.methodLink "java/lang/String" 1062 ⟨"jdk/internal/util/Preconditions", "checkFromToIndex", "(IIILjava/util/function/BiFunction;)I"⟩ ∈ zTs := zT_in 670 (by decide +kernel) rfl
theorem st_Preconditions_checkFromToIndex : Cond.static ⟨"jdk/internal/util/Preconditions", "checkFromToIndex", "(IIILjava/util/function/BiFunction;)I"⟩ ∈ zTs := zT_in 671 (by decide +kernel) rfl
theorem ml_StringUTF16_244 : Cond.methodLink "java/lang/StringUTF16" 244 ⟨"java/lang/StringUTF16", "indexOfCharUnsafe", "([BIII)I"⟩ ∈ zTs := zT_in 673 (by decide +kernel) rfl
theorem st_StringUTF16_indexOfCharUnsafe : Cond.static ⟨"java/lang/StringUTF16", "indexOfCharUnsafe", "([BIII)I"⟩ ∈ zTs := zT_in 674 (by decide +kernel) rfl
theorem ml_StringUTF16_232 : Cond.methodLink "java/lang/StringUTF16" 232 ⟨"java/lang/StringUTF16", "indexOfSupplementary", "([BIII)I"⟩ ∈ zTs := zT_in 676 (by decide +kernel) rfl
theorem st_StringUTF16_indexOfSupplementary : Cond.static ⟨"java/lang/StringUTF16", "indexOfSupplementary", "([BIII)I"⟩ ∈ zTs := zT_in 677 (by decide +kernel) rfl
theorem ml_StringUTF16_164 : Cond.methodLink "java/lang/StringUTF16" 164 ⟨"java/lang/Character", "isValidCodePoint", "(I)Z"⟩ ∈ zTs := zT_in 679 (by decide +kernel) rfl
theorem st_Character_isValidCodePoint : Cond.static ⟨"java/lang/Character", "isValidCodePoint", "(I)Z"⟩ ∈ zTs := zT_in 680 (by decide +kernel) rfl
theorem ml_StringUTF16_157 : Cond.methodLink "java/lang/StringUTF16" 157 ⟨"java/lang/Character", "highSurrogate", "(I)C"⟩ ∈ zTs := zT_in 682 (by decide +kernel) rfl
theorem st_Character_highSurrogate : Cond.static ⟨"java/lang/Character", "highSurrogate", "(I)C"⟩ ∈ zTs := zT_in 683 (by decide +kernel) rfl
theorem k_Character_110 : Cond.constant "java/lang/Character" 110 (55232) ∈ zTs := zT_in 685 (by decide +kernel) rfl
theorem ml_StringUTF16_161 : Cond.methodLink "java/lang/StringUTF16" 161 ⟨"java/lang/Character", "lowSurrogate", "(I)C"⟩ ∈ zTs := zT_in 686 (by decide +kernel) rfl
theorem st_Character_lowSurrogate : Cond.static ⟨"java/lang/Character", "lowSurrogate", "(I)C"⟩ ∈ zTs := zT_in 687 (by decide +kernel) rfl
theorem k_Character_76 : Cond.constant "java/lang/Character" 76 (56320) ∈ zTs := zT_in 689 (by decide +kernel) rfl
theorem ml_Rdr_115 : Cond.methodLink "CheckRules$Reader" 115 ⟨"CheckRules$Tree", "insert", "(II)Z"⟩ ∈ zTs := zT_in 690 (by decide +kernel) rfl
theorem im_Tre_insert : Cond.instanceMethod ⟨"CheckRules$Tree", "insert", "(II)Z"⟩ ∈ zTs := zT_in 691 (by decide +kernel) rfl
theorem sel_Tre_insert : Cond.selects "CheckRules$Tree" ⟨"CheckRules$Tree", "insert", "(II)Z"⟩ ⟨"CheckRules$Tree", "insert", "(II)Z"⟩ ∈ zTs := zT_in 692 (by decide +kernel) rfl
theorem ml_Tre_34 : Cond.methodLink "CheckRules$Tree" 34 ⟨"CheckRules$Tree", "append", "(II)Z"⟩ ∈ zTs := zT_in 694 (by decide +kernel) rfl
theorem ml_Rdr_118 : Cond.methodLink "CheckRules$Reader" 118 ⟨"CheckRules$Reader", "compare", "()Z"⟩ ∈ zTs := zT_in 695 (by decide +kernel) rfl
theorem im_Rdr_compare : Cond.instanceMethod ⟨"CheckRules$Reader", "compare", "()Z"⟩ ∈ zTs := zT_in 697 (by decide +kernel) rfl
theorem ml_Rdr_84 : Cond.methodLink "CheckRules$Reader" 84 ⟨"CheckRules$Reader", "takeBehindPart", "()Z"⟩ ∈ zTs := zT_in 699 (by decide +kernel) rfl
theorem im_Rdr_takeBehindPart : Cond.instanceMethod ⟨"CheckRules$Reader", "takeBehindPart", "()Z"⟩ ∈ zTs := zT_in 701 (by decide +kernel) rfl
theorem ml_Rdr_129 : Cond.methodLink "CheckRules$Reader" 129 ⟨"CheckRules$Reader", "endLevel", "()Z"⟩ ∈ zTs := zT_in 703 (by decide +kernel) rfl
theorem im_Rdr_endLevel : Cond.instanceMethod ⟨"CheckRules$Reader", "endLevel", "()Z"⟩ ∈ zTs := zT_in 705 (by decide +kernel) rfl
theorem ml_Cls_69 : Cond.methodLink "CheckRules" 69 ⟨"CheckRules$Signs", "clear", "()V"⟩ ∈ zTs := zT_in 707 (by decide +kernel) rfl
theorem im_Sgn_clear : Cond.instanceMethod ⟨"CheckRules$Signs", "clear", "()V"⟩ ∈ zTs := zT_in 708 (by decide +kernel) rfl
theorem sel_Sgn_clear : Cond.selects "CheckRules$Signs" ⟨"CheckRules$Signs", "clear", "()V"⟩ ⟨"CheckRules$Signs", "clear", "()V"⟩ ∈ zTs := zT_in 709 (by decide +kernel) rfl
theorem ins_Rul : Cond.instantiable "CheckRules$Rule" 8 ∈ zTs := zT_in 711 (by decide +kernel) rfl
theorem ml_Cls_72 : Cond.methodLink "CheckRules" 72 ⟨"CheckRules$Reader", "copyOfTree", "()LCheckRules$Tree;"⟩ ∈ zTs := zT_in 712 (by decide +kernel) rfl
theorem im_Rdr_copyOfTree : Cond.instanceMethod ⟨"CheckRules$Reader", "copyOfTree", "()LCheckRules$Tree;"⟩ ∈ zTs := zT_in 713 (by decide +kernel) rfl
theorem sel_Rdr_copyOfTree : Cond.selects "CheckRules$Reader" ⟨"CheckRules$Reader", "copyOfTree", "()LCheckRules$Tree;"⟩ ⟨"CheckRules$Reader", "copyOfTree", "()LCheckRules$Tree;"⟩ ∈ zTs := zT_in 714 (by decide +kernel) rfl
theorem ml_Rdr_35 : Cond.methodLink "CheckRules$Reader" 35 ⟨"CheckRules$Tree", "copy", "()LCheckRules$Tree;"⟩ ∈ zTs := zT_in 716 (by decide +kernel) rfl
theorem im_Tre_copy : Cond.instanceMethod ⟨"CheckRules$Tree", "copy", "()LCheckRules$Tree;"⟩ ∈ zTs := zT_in 717 (by decide +kernel) rfl
theorem sel_Tre_copy : Cond.selects "CheckRules$Tree" ⟨"CheckRules$Tree", "copy", "()LCheckRules$Tree;"⟩ ⟨"CheckRules$Tree", "copy", "()LCheckRules$Tree;"⟩ ∈ zTs := zT_in 718 (by decide +kernel) rfl
theorem kl_Tre_10 : Cond.classLink "CheckRules$Tree" 10 "CheckRules$Tree" ∈ zTs := zT_in 720 (by decide +kernel) rfl
theorem ml_Tre_31 : Cond.methodLink "CheckRules$Tree" 31 ⟨"CheckRules$Tree", "<init>", "(LCheckRules$Tree;)V"⟩ ∈ zTs := zT_in 721 (by decide +kernel) rfl
theorem im_Tre_init2 : Cond.instanceMethod ⟨"CheckRules$Tree", "<init>", "(LCheckRules$Tree;)V"⟩ ∈ zTs := zT_in 722 (by decide +kernel) rfl
theorem ml_Tre_25 : Cond.methodLink "CheckRules$Tree" 25 ⟨"java/util/Arrays", "copyOf", "([II)[I"⟩ ∈ zTs := zT_in 724 (by decide +kernel) rfl
theorem st_Arrays_copyOf : Cond.static ⟨"java/util/Arrays", "copyOf", "([II)[I"⟩ ∈ zTs := zT_in 725 (by decide +kernel) rfl
theorem ml_Arrays_316 : Cond.methodLink "java/util/Arrays" 316 ⟨"[I", "clone", "()Ljava/lang/Object;"⟩ ∈ zTs := zT_in 727 (by decide +kernel) rfl
theorem im_Object_clone : Cond.instanceMethod ⟨"java/lang/Object", "clone", "()Ljava/lang/Object;"⟩ ∈ zTs := zT_in 730 (by decide +kernel) rfl
theorem kl_Arrays_317 : Cond.classLink "java/util/Arrays" 317 "[I" ∈ zTs := zT_in 733 (by decide +kernel) rfl
theorem ml_Arrays_304 : Cond.methodLink "java/util/Arrays" 304 ⟨"java/lang/Math", "min", "(II)I"⟩ ∈ zTs := zT_in 734 (by decide +kernel) rfl
theorem ml_Arrays_150 : Cond.methodLink "java/util/Arrays" 150 ⟨"java/lang/System", "arraycopy", "(Ljava/lang/Object;ILjava/lang/Object;II)V"⟩ ∈ zTs := zT_in 735 (by decide +kernel) rfl
theorem st_System_arraycopy : Cond.static ⟨"java/lang/System", "arraycopy", "(Ljava/lang/Object;ILjava/lang/Object;II)V"⟩ ∈ zTs := zT_in 736 (by decide +kernel) rfl
theorem ml_Cls_76 : Cond.methodLink "CheckRules" 76 ⟨"CheckRules$Rule", "<init>", "(LCheckRules$Tree;)V"⟩ ∈ zTs := zT_in 738 (by decide +kernel) rfl
theorem im_Rul_init : Cond.instanceMethod ⟨"CheckRules$Rule", "<init>", "(LCheckRules$Tree;)V"⟩ ∈ zTs := zT_in 739 (by decide +kernel) rfl
theorem ml_Rul_3 : Cond.methodLink "CheckRules$Rule" 3 ⟨"java/lang/Object", "<init>", "()V"⟩ ∈ zTs := zT_in 741 (by decide +kernel) rfl
theorem fl_Rul_34 : Cond.fieldLink "CheckRules$Rule" 34 "CheckRules$Rule" "tree" "LCheckRules$Tree;" ∈ zTs := zT_in 742 (by decide +kernel) rfl
theorem fl_Rul_9 : Cond.fieldLink "CheckRules$Rule" 9 "CheckRules$Rule" "group" "I" ∈ zTs := zT_in 744 (by decide +kernel) rfl
theorem fl_Rul_15 : Cond.fieldLink "CheckRules$Rule" 15 "CheckRules$Rule" "hard" "Z" ∈ zTs := zT_in 746 (by decide +kernel) rfl
theorem fl_Rul_19 : Cond.fieldLink "CheckRules$Rule" 19 "CheckRules$Rule" "firstDay" "I" ∈ zTs := zT_in 748 (by decide +kernel) rfl
theorem fl_Rul_22 : Cond.fieldLink "CheckRules$Rule" 22 "CheckRules$Rule" "latest" "I" ∈ zTs := zT_in 750 (by decide +kernel) rfl
theorem fl_Rul_25 : Cond.fieldLink "CheckRules$Rule" 25 "CheckRules$Rule" "met" "Z" ∈ zTs := zT_in 752 (by decide +kernel) rfl
theorem fl_Rul_28 : Cond.fieldLink "CheckRules$Rule" 28 "CheckRules$Rule" "answered" "Z" ∈ zTs := zT_in 754 (by decide +kernel) rfl
theorem fl_Rul_31 : Cond.fieldLink "CheckRules$Rule" 31 "CheckRules$Rule" "faulty" "Z" ∈ zTs := zT_in 756 (by decide +kernel) rfl
theorem ml_Law_89 : Cond.methodLink "CheckRulesLaw" 89 ⟨"CheckRulesLaw", "was", "(LCheckRules;I[J)I"⟩ ∈ zTs := zT_in 775 (by decide +kernel) rfl
theorem st_Law_was : Cond.static ⟨"CheckRulesLaw", "was", "(LCheckRules;I[J)I"⟩ ∈ zTs := zT_in 776 (by decide +kernel) rfl
theorem kl_Law_19 : Cond.classLink "CheckRulesLaw" 19 "java/lang/IllegalArgumentException" ∈ zTs := zT_in 778 (by decide +kernel) rfl
theorem ml_Law_15 : Cond.methodLink "CheckRulesLaw" 15 ⟨"CheckRules", "was", "(I)I"⟩ ∈ zTs := zT_in 779 (by decide +kernel) rfl
theorem im_Cls_was : Cond.instanceMethod ⟨"CheckRules", "was", "(I)I"⟩ ∈ zTs := zT_in 780 (by decide +kernel) rfl
theorem sel_Cls_was : Cond.selects "CheckRules" ⟨"CheckRules", "was", "(I)I"⟩ ⟨"CheckRules", "was", "(I)I"⟩ ∈ zTs := zT_in 781 (by decide +kernel) rfl
theorem kl_Cls_121 : Cond.classLink "CheckRules" 121 "java/lang/IllegalArgumentException" ∈ zTs := zT_in 783 (by decide +kernel) rfl
theorem ins_IAE : Cond.instantiable "java/lang/IllegalArgumentException" 6 ∈ zTs := zT_in 784 (by decide +kernel) rfl
theorem ml_Cls_125 : Cond.methodLink "CheckRules" 125 ⟨"java/lang/IllegalArgumentException", "<init>", "(Ljava/lang/String;)V"⟩ ∈ zTs := zT_in 793 (by decide +kernel) rfl
theorem im_IAE_init : Cond.instanceMethod ⟨"java/lang/IllegalArgumentException", "<init>", "(Ljava/lang/String;)V"⟩ ∈ zTs := zT_in 794 (by decide +kernel) rfl
theorem ml_IAE_7 : Cond.methodLink "java/lang/IllegalArgumentException" 7 ⟨"java/lang/RuntimeException", "<init>", "(Ljava/lang/String;)V"⟩ ∈ zTs := zT_in 796 (by decide +kernel) rfl
theorem ml_Law_93 : Cond.methodLink "CheckRulesLaw" 93 ⟨"CheckRulesLaw", "is", "(LCheckRules;I[J)I"⟩ ∈ zTs := zT_in 799 (by decide +kernel) rfl
theorem st_Law_is : Cond.static ⟨"CheckRulesLaw", "is", "(LCheckRules;I[J)I"⟩ ∈ zTs := zT_in 800 (by decide +kernel) rfl
theorem ml_Law_21 : Cond.methodLink "CheckRulesLaw" 21 ⟨"CheckRules", "is", "(I)I"⟩ ∈ zTs := zT_in 802 (by decide +kernel) rfl
theorem im_Cls_is : Cond.instanceMethod ⟨"CheckRules", "is", "(I)I"⟩ ∈ zTs := zT_in 803 (by decide +kernel) rfl
theorem sel_Cls_is : Cond.selects "CheckRules" ⟨"CheckRules", "is", "(I)I"⟩ ⟨"CheckRules", "is", "(I)I"⟩ ∈ zTs := zT_in 804 (by decide +kernel) rfl
theorem ml_Law_100 : Cond.methodLink "CheckRulesLaw" 100 ⟨"CheckRulesLaw", "touch", "(LCheckRules;I[J)I"⟩ ∈ zTs := zT_in 806 (by decide +kernel) rfl
theorem st_Law_touch : Cond.static ⟨"CheckRulesLaw", "touch", "(LCheckRules;I[J)I"⟩ ∈ zTs := zT_in 807 (by decide +kernel) rfl
theorem ml_Law_24 : Cond.methodLink "CheckRulesLaw" 24 ⟨"CheckRules", "touch", "(I)I"⟩ ∈ zTs := zT_in 809 (by decide +kernel) rfl
theorem im_Cls_touch : Cond.instanceMethod ⟨"CheckRules", "touch", "(I)I"⟩ ∈ zTs := zT_in 810 (by decide +kernel) rfl
theorem sel_Cls_touch : Cond.selects "CheckRules" ⟨"CheckRules", "touch", "(I)I"⟩ ⟨"CheckRules", "touch", "(I)I"⟩ ∈ zTs := zT_in 811 (by decide +kernel) rfl
theorem ml_Cls_142 : Cond.methodLink "CheckRules" 142 ⟨"CheckRules$Tree", "names", "(I)Z"⟩ ∈ zTs := zT_in 814 (by decide +kernel) rfl
theorem im_Tre_names : Cond.instanceMethod ⟨"CheckRules$Tree", "names", "(I)Z"⟩ ∈ zTs := zT_in 815 (by decide +kernel) rfl
theorem sel_Tre_names : Cond.selects "CheckRules$Tree" ⟨"CheckRules$Tree", "names", "(I)Z"⟩ ⟨"CheckRules$Tree", "names", "(I)Z"⟩ ∈ zTs := zT_in 816 (by decide +kernel) rfl
theorem ml_Tre_42 : Cond.methodLink "CheckRules$Tree" 42 ⟨"CheckRules$Tree", "kindOf", "(I)I"⟩ ∈ zTs := zT_in 818 (by decide +kernel) rfl
theorem ml_Tre_46 : Cond.methodLink "CheckRules$Tree" 46 ⟨"CheckRules$Tree", "valueOf", "(I)I"⟩ ∈ zTs := zT_in 819 (by decide +kernel) rfl
theorem ml_Law_107 : Cond.methodLink "CheckRulesLaw" 107 ⟨"CheckRulesLaw", "node", "(LCheckRules;III[J)I"⟩ ∈ zTs := zT_in 820 (by decide +kernel) rfl
theorem st_Law_node : Cond.static ⟨"CheckRulesLaw", "node", "(LCheckRules;III[J)I"⟩ ∈ zTs := zT_in 821 (by decide +kernel) rfl
theorem kl_Law_31 : Cond.classLink "CheckRulesLaw" 31 "java/lang/IndexOutOfBoundsException" ∈ zTs := zT_in 823 (by decide +kernel) rfl
theorem ml_Law_27 : Cond.methodLink "CheckRulesLaw" 27 ⟨"CheckRules", "node", "(III)I"⟩ ∈ zTs := zT_in 824 (by decide +kernel) rfl
theorem im_Cls_node : Cond.instanceMethod ⟨"CheckRules", "node", "(III)I"⟩ ∈ zTs := zT_in 825 (by decide +kernel) rfl
theorem sel_Cls_node : Cond.selects "CheckRules" ⟨"CheckRules", "node", "(III)I"⟩ ⟨"CheckRules", "node", "(III)I"⟩ ∈ zTs := zT_in 826 (by decide +kernel) rfl
theorem kl_Cls_153 : Cond.classLink "CheckRules" 153 "java/lang/IndexOutOfBoundsException" ∈ zTs := zT_in 828 (by decide +kernel) rfl
theorem ins_IOE : Cond.instantiable "java/lang/IndexOutOfBoundsException" 6 ∈ zTs := zT_in 829 (by decide +kernel) rfl
theorem ml_Cls_157 : Cond.methodLink "CheckRules" 157 ⟨"java/lang/IndexOutOfBoundsException", "<init>", "(Ljava/lang/String;)V"⟩ ∈ zTs := zT_in 838 (by decide +kernel) rfl
theorem im_IOE_init : Cond.instanceMethod ⟨"java/lang/IndexOutOfBoundsException", "<init>", "(Ljava/lang/String;)V"⟩ ∈ zTs := zT_in 839 (by decide +kernel) rfl
theorem ml_IOE_7 : Cond.methodLink "java/lang/IndexOutOfBoundsException" 7 ⟨"java/lang/RuntimeException", "<init>", "(Ljava/lang/String;)V"⟩ ∈ zTs := zT_in 841 (by decide +kernel) rfl
theorem ml_Cls_158 : Cond.methodLink "CheckRules" 158 ⟨"CheckRules$Tree", "kindOf", "(I)I"⟩ ∈ zTs := zT_in 844 (by decide +kernel) rfl
theorem ml_Cls_162 : Cond.methodLink "CheckRules" 162 ⟨"CheckRules$Tree", "valueOf", "(I)I"⟩ ∈ zTs := zT_in 845 (by decide +kernel) rfl
theorem ml_Cls_165 : Cond.methodLink "CheckRules" 165 ⟨"CheckRules$Tree", "leftOf", "(I)I"⟩ ∈ zTs := zT_in 846 (by decide +kernel) rfl
theorem ml_Cls_168 : Cond.methodLink "CheckRules" 168 ⟨"CheckRules$Tree", "rightOf", "(I)I"⟩ ∈ zTs := zT_in 847 (by decide +kernel) rfl
theorem ml_Law_111 : Cond.methodLink "CheckRulesLaw" 111 ⟨"CheckRulesLaw", "print", "(LCheckRules;I[J)I"⟩ ∈ zTs := zT_in 848 (by decide +kernel) rfl
theorem st_Law_print : Cond.static ⟨"CheckRulesLaw", "print", "(LCheckRules;I[J)I"⟩ ∈ zTs := zT_in 849 (by decide +kernel) rfl
theorem ml_Law_33 : Cond.methodLink "CheckRulesLaw" 33 ⟨"CheckRules", "print", "(I)I"⟩ ∈ zTs := zT_in 851 (by decide +kernel) rfl
theorem im_Cls_print : Cond.instanceMethod ⟨"CheckRules", "print", "(I)I"⟩ ∈ zTs := zT_in 852 (by decide +kernel) rfl
theorem sel_Cls_print : Cond.selects "CheckRules" ⟨"CheckRules", "print", "(I)I"⟩ ⟨"CheckRules", "print", "(I)I"⟩ ∈ zTs := zT_in 853 (by decide +kernel) rfl
theorem ml_Cls_171 : Cond.methodLink "CheckRules" 171 ⟨"CheckRules$Printer", "printTree", "(LCheckRules$Tree;)V"⟩ ∈ zTs := zT_in 855 (by decide +kernel) rfl
theorem im_Prt_printTree : Cond.instanceMethod ⟨"CheckRules$Printer", "printTree", "(LCheckRules$Tree;)V"⟩ ∈ zTs := zT_in 856 (by decide +kernel) rfl
theorem sel_Prt_printTree : Cond.selects "CheckRules$Printer" ⟨"CheckRules$Printer", "printTree", "(LCheckRules$Tree;)V"⟩ ⟨"CheckRules$Printer", "printTree", "(LCheckRules$Tree;)V"⟩ ∈ zTs := zT_in 857 (by decide +kernel) rfl
theorem ml_Prt_18 : Cond.methodLink "CheckRules$Printer" 18 ⟨"CheckRules$Signs", "clear", "()V"⟩ ∈ zTs := zT_in 859 (by decide +kernel) rfl
theorem ml_Prt_21 : Cond.methodLink "CheckRules$Printer" 21 ⟨"CheckRules$Printer", "printNode", "(LCheckRules$Tree;II)V"⟩ ∈ zTs := zT_in 860 (by decide +kernel) rfl
theorem im_Prt_printNode : Cond.instanceMethod ⟨"CheckRules$Printer", "printNode", "(LCheckRules$Tree;II)V"⟩ ∈ zTs := zT_in 862 (by decide +kernel) rfl
theorem ml_Prt_25 : Cond.methodLink "CheckRules$Printer" 25 ⟨"CheckRules$Tree", "kindOf", "(I)I"⟩ ∈ zTs := zT_in 864 (by decide +kernel) rfl
theorem ml_Prt_31 : Cond.methodLink "CheckRules$Printer" 31 ⟨"CheckRules$Signs", "add", "(I)Z"⟩ ∈ zTs := zT_in 865 (by decide +kernel) rfl
theorem ml_Prt_35 : Cond.methodLink "CheckRules$Printer" 35 ⟨"CheckRules$Tree", "leftOf", "(I)I"⟩ ∈ zTs := zT_in 866 (by decide +kernel) rfl
theorem ml_Prt_38 : Cond.methodLink "CheckRules$Printer" 38 ⟨"CheckRules$Printer", "printBelow", "(LCheckRules$Tree;III)V"⟩ ∈ zTs := zT_in 867 (by decide +kernel) rfl
theorem im_Prt_printBelow : Cond.instanceMethod ⟨"CheckRules$Printer", "printBelow", "(LCheckRules$Tree;III)V"⟩ ∈ zTs := zT_in 869 (by decide +kernel) rfl
theorem ml_Prt_61 : Cond.methodLink "CheckRules$Printer" 61 ⟨"CheckRules$Tree", "rightOf", "(I)I"⟩ ∈ zTs := zT_in 871 (by decide +kernel) rfl
theorem ml_Prt_64 : Cond.methodLink "CheckRules$Printer" 64 ⟨"CheckRules$Printer", "needsBrackets", "(IIZ)Z"⟩ ∈ zTs := zT_in 872 (by decide +kernel) rfl
theorem st_Prt_needsBrackets : Cond.static ⟨"CheckRules$Printer", "needsBrackets", "(IIZ)Z"⟩ ∈ zTs := zT_in 873 (by decide +kernel) rfl
theorem ml_Prt_46 : Cond.methodLink "CheckRules$Printer" 46 ⟨"CheckRules$Printer", "addWord", "(Ljava/lang/String;)V"⟩ ∈ zTs := zT_in 877 (by decide +kernel) rfl
theorem im_Prt_addWord : Cond.instanceMethod ⟨"CheckRules$Printer", "addWord", "(Ljava/lang/String;)V"⟩ ∈ zTs := zT_in 879 (by decide +kernel) rfl
theorem ml_Prt_76 : Cond.methodLink "CheckRules$Printer" 76 ⟨"java/lang/String", "length", "()I"⟩ ∈ zTs := zT_in 881 (by decide +kernel) rfl
theorem ml_Prt_82 : Cond.methodLink "CheckRules$Printer" 82 ⟨"java/lang/String", "charAt", "(I)C"⟩ ∈ zTs := zT_in 882 (by decide +kernel) rfl
theorem ml_Prt_50 : Cond.methodLink "CheckRules$Printer" 50 ⟨"CheckRules$Tree", "valueOf", "(I)I"⟩ ∈ zTs := zT_in 883 (by decide +kernel) rfl
theorem ml_Prt_53 : Cond.methodLink "CheckRules$Printer" 53 ⟨"CheckRules$Printer", "printTerm", "(II)V"⟩ ∈ zTs := zT_in 884 (by decide +kernel) rfl
theorem im_Prt_printTerm : Cond.instanceMethod ⟨"CheckRules$Printer", "printTerm", "(II)V"⟩ ∈ zTs := zT_in 886 (by decide +kernel) rfl
theorem ml_Prt_72 : Cond.methodLink "CheckRules$Printer" 72 ⟨"CheckRules$Printer", "addNumber", "(I)V"⟩ ∈ zTs := zT_in 890 (by decide +kernel) rfl
theorem im_Prt_addNumber : Cond.instanceMethod ⟨"CheckRules$Printer", "addNumber", "(I)V"⟩ ∈ zTs := zT_in 892 (by decide +kernel) rfl
theorem k_Prt_75 : Cond.constant "CheckRules$Printer" 75 (1000000) ∈ zTs := zT_in 894 (by decide +kernel) rfl
theorem ml_Prt_57 : Cond.methodLink "CheckRules$Printer" 57 ⟨"CheckRules$Printer", "addSignOf", "(I)V"⟩ ∈ zTs := zT_in 895 (by decide +kernel) rfl
theorem im_Prt_addSignOf : Cond.instanceMethod ⟨"CheckRules$Printer", "addSignOf", "(I)V"⟩ ∈ zTs := zT_in 897 (by decide +kernel) rfl
theorem ml_Law_114 : Cond.methodLink "CheckRulesLaw" 114 ⟨"CheckRulesLaw", "at", "(LCheckRules;I[J)I"⟩ ∈ zTs := zT_in 900 (by decide +kernel) rfl
theorem st_Law_at : Cond.static ⟨"CheckRulesLaw", "at", "(LCheckRules;I[J)I"⟩ ∈ zTs := zT_in 901 (by decide +kernel) rfl
theorem ml_Law_36 : Cond.methodLink "CheckRulesLaw" 36 ⟨"CheckRules", "at", "(I)I"⟩ ∈ zTs := zT_in 903 (by decide +kernel) rfl
theorem im_Cls_at : Cond.instanceMethod ⟨"CheckRules", "at", "(I)I"⟩ ∈ zTs := zT_in 904 (by decide +kernel) rfl
theorem sel_Cls_at : Cond.selects "CheckRules" ⟨"CheckRules", "at", "(I)I"⟩ ⟨"CheckRules", "at", "(I)I"⟩ ∈ zTs := zT_in 905 (by decide +kernel) rfl
theorem ml_Cls_178 : Cond.methodLink "CheckRules" 178 ⟨"CheckRules$Signs", "get", "(I)I"⟩ ∈ zTs := zT_in 907 (by decide +kernel) rfl
theorem kl_Law_40 : Cond.classLink "CheckRulesLaw" 40 "CheckRulesModel" ∈ zTs := zT_in 909 (by decide +kernel) rfl
theorem ins_Mod : Cond.instantiable "CheckRulesModel" 38 ∈ zTs := zT_in 910 (by decide +kernel) rfl
theorem ml_Law_42 : Cond.methodLink "CheckRulesLaw" 42 ⟨"CheckRulesModel", "<init>", "()V"⟩ ∈ zTs := zT_in 911 (by decide +kernel) rfl
theorem im_Mod_init : Cond.instanceMethod ⟨"CheckRulesModel", "<init>", "()V"⟩ ∈ zTs := zT_in 912 (by decide +kernel) rfl
theorem ml_Mod_1 : Cond.methodLink "CheckRulesModel" 1 ⟨"java/lang/Object", "<init>", "()V"⟩ ∈ zTs := zT_in 914 (by decide +kernel) rfl
theorem fl_Mod_93 : Cond.fieldLink "CheckRulesModel" 93 "CheckRulesModel" "thrown" "I" ∈ zTs := zT_in 915 (by decide +kernel) rfl
theorem fl_Mod_7 : Cond.fieldLink "CheckRulesModel" 7 "CheckRulesModel" "text" "[I" ∈ zTs := zT_in 916 (by decide +kernel) rfl
theorem fl_Mod_104 : Cond.fieldLink "CheckRulesModel" 104 "CheckRulesModel" "length" "I" ∈ zTs := zT_in 917 (by decide +kernel) rfl
theorem fl_Mod_97 : Cond.fieldLink "CheckRulesModel" 97 "CheckRulesModel" "rules" "I" ∈ zTs := zT_in 918 (by decide +kernel) rfl
theorem fl_Mod_231 : Cond.fieldLink "CheckRulesModel" 231 "CheckRulesModel" "checks" "I" ∈ zTs := zT_in 919 (by decide +kernel) rfl
theorem fl_Mod_201 : Cond.fieldLink "CheckRulesModel" 201 "CheckRulesModel" "today" "I" ∈ zTs := zT_in 920 (by decide +kernel) rfl
theorem fl_Mod_13 : Cond.fieldLink "CheckRulesModel" 13 "CheckRulesModel" "kind" "[I" ∈ zTs := zT_in 921 (by decide +kernel) rfl
theorem fl_Mod_16 : Cond.fieldLink "CheckRulesModel" 16 "CheckRulesModel" "told" "[I" ∈ zTs := zT_in 922 (by decide +kernel) rfl
theorem fl_Mod_19 : Cond.fieldLink "CheckRulesModel" 19 "CheckRulesModel" "left" "[I" ∈ zTs := zT_in 923 (by decide +kernel) rfl
theorem fl_Mod_22 : Cond.fieldLink "CheckRulesModel" 22 "CheckRulesModel" "right" "[I" ∈ zTs := zT_in 924 (by decide +kernel) rfl
theorem fl_Mod_25 : Cond.fieldLink "CheckRulesModel" 25 "CheckRulesModel" "size" "[I" ∈ zTs := zT_in 925 (by decide +kernel) rfl
theorem fl_Mod_28 : Cond.fieldLink "CheckRulesModel" 28 "CheckRulesModel" "group" "[I" ∈ zTs := zT_in 926 (by decide +kernel) rfl
theorem fl_Mod_31 : Cond.fieldLink "CheckRulesModel" 31 "CheckRulesModel" "isHard" "[Z" ∈ zTs := zT_in 927 (by decide +kernel) rfl
theorem fl_Mod_35 : Cond.fieldLink "CheckRulesModel" 35 "CheckRulesModel" "edition" "[I" ∈ zTs := zT_in 928 (by decide +kernel) rfl
theorem fl_Mod_38 : Cond.fieldLink "CheckRulesModel" 38 "CheckRulesModel" "before" "[I" ∈ zTs := zT_in 929 (by decide +kernel) rfl
theorem fl_Mod_41 : Cond.fieldLink "CheckRulesModel" 41 "CheckRulesModel" "isMet" "[Z" ∈ zTs := zT_in 930 (by decide +kernel) rfl
theorem fl_Mod_44 : Cond.fieldLink "CheckRulesModel" 44 "CheckRulesModel" "isAnswered" "[Z" ∈ zTs := zT_in 931 (by decide +kernel) rfl
theorem fl_Mod_47 : Cond.fieldLink "CheckRulesModel" 47 "CheckRulesModel" "isBad" "[Z" ∈ zTs := zT_in 932 (by decide +kernel) rfl
theorem fl_Mod_50 : Cond.fieldLink "CheckRulesModel" 50 "CheckRulesModel" "values" "[I" ∈ zTs := zT_in 933 (by decide +kernel) rfl
theorem fl_Mod_53 : Cond.fieldLink "CheckRulesModel" 53 "CheckRulesModel" "has" "[Z" ∈ zTs := zT_in 934 (by decide +kernel) rfl
theorem fl_Mod_56 : Cond.fieldLink "CheckRulesModel" 56 "CheckRulesModel" "madeKind" "[I" ∈ zTs := zT_in 935 (by decide +kernel) rfl
theorem fl_Mod_59 : Cond.fieldLink "CheckRulesModel" 59 "CheckRulesModel" "madeTold" "[I" ∈ zTs := zT_in 936 (by decide +kernel) rfl
theorem fl_Mod_62 : Cond.fieldLink "CheckRulesModel" 62 "CheckRulesModel" "madeLeft" "[I" ∈ zTs := zT_in 937 (by decide +kernel) rfl
theorem fl_Mod_65 : Cond.fieldLink "CheckRulesModel" 65 "CheckRulesModel" "madeRight" "[I" ∈ zTs := zT_in 938 (by decide +kernel) rfl
theorem fl_Mod_131 : Cond.fieldLink "CheckRulesModel" 131 "CheckRulesModel" "made" "I" ∈ zTs := zT_in 939 (by decide +kernel) rfl
theorem fl_Mod_107 : Cond.fieldLink "CheckRulesModel" 107 "CheckRulesModel" "at" "I" ∈ zTs := zT_in 940 (by decide +kernel) rfl
theorem fl_Mod_141 : Cond.fieldLink "CheckRulesModel" 141 "CheckRulesModel" "depth" "I" ∈ zTs := zT_in 941 (by decide +kernel) rfl
theorem fl_Mod_128 : Cond.fieldLink "CheckRulesModel" 128 "CheckRulesModel" "wrong" "I" ∈ zTs := zT_in 942 (by decide +kernel) rfl
theorem fl_Mod_68 : Cond.fieldLink "CheckRulesModel" 68 "CheckRulesModel" "openKind" "[I" ∈ zTs := zT_in 943 (by decide +kernel) rfl
theorem fl_Mod_71 : Cond.fieldLink "CheckRulesModel" 71 "CheckRulesModel" "openNode" "[I" ∈ zTs := zT_in 944 (by decide +kernel) rfl
theorem fl_Mod_138 : Cond.fieldLink "CheckRulesModel" 138 "CheckRulesModel" "open" "I" ∈ zTs := zT_in 945 (by decide +kernel) rfl
theorem fl_Mod_74 : Cond.fieldLink "CheckRulesModel" 74 "CheckRulesModel" "amount" "[J" ∈ zTs := zT_in 946 (by decide +kernel) rfl
theorem fl_Mod_78 : Cond.fieldLink "CheckRulesModel" 78 "CheckRulesModel" "isKnown" "[Z" ∈ zTs := zT_in 947 (by decide +kernel) rfl
theorem fl_Mod_81 : Cond.fieldLink "CheckRulesModel" 81 "CheckRulesModel" "answer" "[I" ∈ zTs := zT_in 948 (by decide +kernel) rfl
theorem fl_Mod_84 : Cond.fieldLink "CheckRulesModel" 84 "CheckRulesModel" "numbered" "[I" ∈ zTs := zT_in 949 (by decide +kernel) rfl
theorem fl_Mod_87 : Cond.fieldLink "CheckRulesModel" 87 "CheckRulesModel" "printed" "[I" ∈ zTs := zT_in 950 (by decide +kernel) rfl
theorem fl_Mod_241 : Cond.fieldLink "CheckRulesModel" 241 "CheckRulesModel" "signs" "I" ∈ zTs := zT_in 951 (by decide +kernel) rfl
theorem fl_Mod_90 : Cond.fieldLink "CheckRulesModel" 90 "CheckRulesModel" "toPrint" "[I" ∈ zTs := zT_in 952 (by decide +kernel) rfl
theorem ac_boolean : Cond.arrayClass FieldType.boolean ∈ zTs := zT_in 1030 (by decide +kernel) rfl
theorem ac_long : Cond.arrayClass FieldType.long ∈ zTs := zT_in 1031 (by decide +kernel) rfl
theorem ml_Law_54 : Cond.methodLink "CheckRulesLaw" 54 ⟨"CheckRulesModel", "thrown", "()I"⟩ ∈ zTs := zT_in 1032 (by decide +kernel) rfl
theorem im_Mod_thrown : Cond.instanceMethod ⟨"CheckRulesModel", "thrown", "()I"⟩ ∈ zTs := zT_in 1033 (by decide +kernel) rfl
theorem sel_Mod_thrown : Cond.selects "CheckRulesModel" ⟨"CheckRulesModel", "thrown", "()I"⟩ ⟨"CheckRulesModel", "thrown", "()I"⟩ ∈ zTs := zT_in 1034 (by decide +kernel) rfl
theorem ml_Law_47 : Cond.methodLink "CheckRulesLaw" 47 ⟨"CheckRulesModel", "sign", "(I)Z"⟩ ∈ zTs := zT_in 1036 (by decide +kernel) rfl
theorem im_Mod_sign : Cond.instanceMethod ⟨"CheckRulesModel", "sign", "(I)Z"⟩ ∈ zTs := zT_in 1037 (by decide +kernel) rfl
theorem sel_Mod_sign : Cond.selects "CheckRulesModel" ⟨"CheckRulesModel", "sign", "(I)Z"⟩ ⟨"CheckRulesModel", "sign", "(I)Z"⟩ ∈ zTs := zT_in 1038 (by decide +kernel) rfl
theorem ml_Mod_100 : Cond.methodLink "CheckRulesModel" 100 ⟨"CheckRulesModel", "in", "(III)Z"⟩ ∈ zTs := zT_in 1040 (by decide +kernel) rfl
theorem st_Mod_in : Cond.static ⟨"CheckRulesModel", "in", "(III)Z"⟩ ∈ zTs := zT_in 1041 (by decide +kernel) rfl
theorem ml_Law_53 : Cond.methodLink "CheckRulesLaw" 53 ⟨"CheckRulesModel", "rule", "()I"⟩ ∈ zTs := zT_in 1043 (by decide +kernel) rfl
theorem im_Mod_rule : Cond.instanceMethod ⟨"CheckRulesModel", "rule", "()I"⟩ ∈ zTs := zT_in 1044 (by decide +kernel) rfl
theorem sel_Mod_rule : Cond.selects "CheckRulesModel" ⟨"CheckRulesModel", "rule", "()I"⟩ ⟨"CheckRulesModel", "rule", "()I"⟩ ∈ zTs := zT_in 1045 (by decide +kernel) rfl
theorem ml_Mod_191 : Cond.methodLink "CheckRulesModel" 191 ⟨"CheckRulesModel", "read", "()I"⟩ ∈ zTs := zT_in 1047 (by decide +kernel) rfl
theorem im_Mod_read : Cond.instanceMethod ⟨"CheckRulesModel", "read", "()I"⟩ ∈ zTs := zT_in 1049 (by decide +kernel) rfl
theorem ml_Mod_177 : Cond.methodLink "CheckRulesModel" 177 ⟨"CheckRulesModel", "begins", "()Z"⟩ ∈ zTs := zT_in 1051 (by decide +kernel) rfl
theorem im_Mod_begins : Cond.instanceMethod ⟨"CheckRulesModel", "begins", "()Z"⟩ ∈ zTs := zT_in 1053 (by decide +kernel) rfl
theorem ml_Mod_147 : Cond.methodLink "CheckRulesModel" 147 ⟨"CheckRulesModel", "look", "()I"⟩ ∈ zTs := zT_in 1055 (by decide +kernel) rfl
theorem im_Mod_look : Cond.instanceMethod ⟨"CheckRulesModel", "look", "()I"⟩ ∈ zTs := zT_in 1057 (by decide +kernel) rfl
theorem ml_Mod_151 : Cond.methodLink "CheckRulesModel" 151 ⟨"CheckRulesModel", "word", "()I"⟩ ∈ zTs := zT_in 1059 (by decide +kernel) rfl
theorem im_Mod_word : Cond.instanceMethod ⟨"CheckRulesModel", "word", "()I"⟩ ∈ zTs := zT_in 1061 (by decide +kernel) rfl
theorem ml_Mod_110 : Cond.methodLink "CheckRulesModel" 110 ⟨"CheckRulesModel", "isSmall", "(I)Z"⟩ ∈ zTs := zT_in 1063 (by decide +kernel) rfl
theorem st_Mod_isSmall : Cond.static ⟨"CheckRulesModel", "isSmall", "(I)Z"⟩ ∈ zTs := zT_in 1064 (by decide +kernel) rfl
theorem k_Mod_114 : Cond.constantLong "CheckRulesModel" 114 (100 : Int64) ∈ zTs := zT_in 1066 (by decide +kernel) rfl
theorem k_Mod_116 : Cond.constantLong "CheckRulesModel" 116 (97 : Int64) ∈ zTs := zT_in 1067 (by decide +kernel) rfl
theorem k_Mod_118 : Cond.constantLong "CheckRulesModel" 118 (6 : Int64) ∈ zTs := zT_in 1068 (by decide +kernel) rfl
theorem k_Mod_120 : Cond.constantLong "CheckRulesModel" 120 (192113 : Int64) ∈ zTs := zT_in 1069 (by decide +kernel) rfl
theorem k_Mod_122 : Cond.constantLong "CheckRulesModel" 122 (315211420 : Int64) ∈ zTs := zT_in 1070 (by decide +kernel) rfl
theorem k_Mod_124 : Cond.constantLong "CheckRulesModel" 124 (11212 : Int64) ∈ zTs := zT_in 1071 (by decide +kernel) rfl
theorem k_Mod_126 : Cond.constantLong "CheckRulesModel" 126 (11425 : Int64) ∈ zTs := zT_in 1072 (by decide +kernel) rfl
theorem ml_Mod_158 : Cond.methodLink "CheckRulesModel" 158 ⟨"CheckRulesModel", "node", "(II)I"⟩ ∈ zTs := zT_in 1073 (by decide +kernel) rfl
theorem im_Mod_node : Cond.instanceMethod ⟨"CheckRulesModel", "node", "(II)I"⟩ ∈ zTs := zT_in 1075 (by decide +kernel) rfl
theorem ml_Mod_134 : Cond.methodLink "CheckRulesModel" 134 ⟨"CheckRulesModel", "fail", "(I)V"⟩ ∈ zTs := zT_in 1077 (by decide +kernel) rfl
theorem im_Mod_fail : Cond.instanceMethod ⟨"CheckRulesModel", "fail", "(I)V"⟩ ∈ zTs := zT_in 1079 (by decide +kernel) rfl
theorem ml_Mod_170 : Cond.methodLink "CheckRulesModel" 170 ⟨"CheckRulesModel", "enter", "(I)V"⟩ ∈ zTs := zT_in 1081 (by decide +kernel) rfl
theorem im_Mod_enter : Cond.instanceMethod ⟨"CheckRulesModel", "enter", "(I)V"⟩ ∈ zTs := zT_in 1083 (by decide +kernel) rfl
theorem ml_Mod_173 : Cond.methodLink "CheckRulesModel" 173 ⟨"CheckRulesModel", "push", "(II)V"⟩ ∈ zTs := zT_in 1085 (by decide +kernel) rfl
theorem im_Mod_push : Cond.instanceMethod ⟨"CheckRulesModel", "push", "(II)V"⟩ ∈ zTs := zT_in 1087 (by decide +kernel) rfl
theorem ml_Mod_181 : Cond.methodLink "CheckRulesModel" 181 ⟨"CheckRulesModel", "comparison", "()I"⟩ ∈ zTs := zT_in 1089 (by decide +kernel) rfl
theorem im_Mod_comparison : Cond.instanceMethod ⟨"CheckRulesModel", "comparison", "()I"⟩ ∈ zTs := zT_in 1091 (by decide +kernel) rfl
theorem ml_Mod_167 : Cond.methodLink "CheckRulesModel" 167 ⟨"CheckRulesModel", "sum", "()I"⟩ ∈ zTs := zT_in 1093 (by decide +kernel) rfl
theorem im_Mod_sum : Cond.instanceMethod ⟨"CheckRulesModel", "sum", "()I"⟩ ∈ zTs := zT_in 1095 (by decide +kernel) rfl
theorem ml_Mod_164 : Cond.methodLink "CheckRulesModel" 164 ⟨"CheckRulesModel", "term", "()I"⟩ ∈ zTs := zT_in 1097 (by decide +kernel) rfl
theorem im_Mod_term : Cond.instanceMethod ⟨"CheckRulesModel", "term", "()I"⟩ ∈ zTs := zT_in 1099 (by decide +kernel) rfl
theorem ml_Mod_144 : Cond.methodLink "CheckRulesModel" 144 ⟨"CheckRulesModel", "isDigit", "(I)Z"⟩ ∈ zTs := zT_in 1101 (by decide +kernel) rfl
theorem st_Mod_isDigit : Cond.static ⟨"CheckRulesModel", "isDigit", "(I)Z"⟩ ∈ zTs := zT_in 1102 (by decide +kernel) rfl
theorem ml_Mod_154 : Cond.methodLink "CheckRulesModel" 154 ⟨"CheckRulesModel", "digits", "(II)I"⟩ ∈ zTs := zT_in 1104 (by decide +kernel) rfl
theorem im_Mod_digits : Cond.instanceMethod ⟨"CheckRulesModel", "digits", "(II)I"⟩ ∈ zTs := zT_in 1106 (by decide +kernel) rfl
theorem ml_Mod_161 : Cond.methodLink "CheckRulesModel" 161 ⟨"CheckRulesModel", "field", "()I"⟩ ∈ zTs := zT_in 1108 (by decide +kernel) rfl
theorem im_Mod_field : Cond.instanceMethod ⟨"CheckRulesModel", "field", "()I"⟩ ∈ zTs := zT_in 1110 (by decide +kernel) rfl
theorem ml_Mod_184 : Cond.methodLink "CheckRulesModel" 184 ⟨"CheckRulesModel", "taken", "(I)I"⟩ ∈ zTs := zT_in 1112 (by decide +kernel) rfl
theorem im_Mod_taken : Cond.instanceMethod ⟨"CheckRulesModel", "taken", "(I)I"⟩ ∈ zTs := zT_in 1114 (by decide +kernel) rfl
theorem ml_Mod_188 : Cond.methodLink "CheckRulesModel" 188 ⟨"CheckRulesModel", "or", "(I)I"⟩ ∈ zTs := zT_in 1116 (by decide +kernel) rfl
theorem im_Mod_or : Cond.instanceMethod ⟨"CheckRulesModel", "or", "(I)I"⟩ ∈ zTs := zT_in 1118 (by decide +kernel) rfl
theorem ml_Mod_194 : Cond.methodLink "CheckRulesModel" 194 ⟨"CheckRulesModel", "number", "(II)V"⟩ ∈ zTs := zT_in 1120 (by decide +kernel) rfl
theorem im_Mod_number : Cond.instanceMethod ⟨"CheckRulesModel", "number", "(II)V"⟩ ∈ zTs := zT_in 1122 (by decide +kernel) rfl
theorem ml_Law_61 : Cond.methodLink "CheckRulesLaw" 61 ⟨"CheckRulesModel", "order", "(IIZ)Z"⟩ ∈ zTs := zT_in 1124 (by decide +kernel) rfl
theorem im_Mod_order : Cond.instanceMethod ⟨"CheckRulesModel", "order", "(IIZ)Z"⟩ ∈ zTs := zT_in 1125 (by decide +kernel) rfl
theorem sel_Mod_order : Cond.selects "CheckRulesModel" ⟨"CheckRulesModel", "order", "(IIZ)Z"⟩ ⟨"CheckRulesModel", "order", "(IIZ)Z"⟩ ∈ zTs := zT_in 1126 (by decide +kernel) rfl
theorem ml_Mod_197 : Cond.methodLink "CheckRulesModel" 197 ⟨"CheckRulesModel", "isRule", "(I)Z"⟩ ∈ zTs := zT_in 1128 (by decide +kernel) rfl
theorem im_Mod_isRule : Cond.instanceMethod ⟨"CheckRulesModel", "isRule", "(I)Z"⟩ ∈ zTs := zT_in 1130 (by decide +kernel) rfl
theorem ml_Law_66 : Cond.methodLink "CheckRulesLaw" 66 ⟨"CheckRulesModel", "edition", "(II)Z"⟩ ∈ zTs := zT_in 1132 (by decide +kernel) rfl
theorem im_Mod_edition : Cond.instanceMethod ⟨"CheckRulesModel", "edition", "(II)Z"⟩ ∈ zTs := zT_in 1133 (by decide +kernel) rfl
theorem sel_Mod_edition : Cond.selects "CheckRulesModel" ⟨"CheckRulesModel", "edition", "(II)Z"⟩ ⟨"CheckRulesModel", "edition", "(II)Z"⟩ ∈ zTs := zT_in 1134 (by decide +kernel) rfl
theorem k_Mod_200 : Cond.constant "CheckRulesModel" 200 (100000) ∈ zTs := zT_in 1136 (by decide +kernel) rfl
theorem ml_Law_70 : Cond.methodLink "CheckRulesLaw" 70 ⟨"CheckRulesModel", "day", "(I)Z"⟩ ∈ zTs := zT_in 1137 (by decide +kernel) rfl
theorem im_Mod_day : Cond.instanceMethod ⟨"CheckRulesModel", "day", "(I)Z"⟩ ∈ zTs := zT_in 1138 (by decide +kernel) rfl
theorem sel_Mod_day : Cond.selects "CheckRulesModel" ⟨"CheckRulesModel", "day", "(I)Z"⟩ ⟨"CheckRulesModel", "day", "(I)Z"⟩ ∈ zTs := zT_in 1139 (by decide +kernel) rfl
theorem ml_Law_75 : Cond.methodLink "CheckRulesLaw" 75 ⟨"CheckRulesModel", "field", "(III)Z"⟩ ∈ zTs := zT_in 1141 (by decide +kernel) rfl
theorem im_Mod_field2 : Cond.instanceMethod ⟨"CheckRulesModel", "field", "(III)Z"⟩ ∈ zTs := zT_in 1142 (by decide +kernel) rfl
theorem sel_Mod_field2 : Cond.selects "CheckRulesModel" ⟨"CheckRulesModel", "field", "(III)Z"⟩ ⟨"CheckRulesModel", "field", "(III)Z"⟩ ∈ zTs := zT_in 1143 (by decide +kernel) rfl
theorem k_Mod_204 : Cond.constant "CheckRulesModel" 204 (-1000000) ∈ zTs := zT_in 1145 (by decide +kernel) rfl
theorem k_Mod_205 : Cond.constant "CheckRulesModel" 205 (1000000) ∈ zTs := zT_in 1146 (by decide +kernel) rfl
theorem ml_Law_79 : Cond.methodLink "CheckRulesLaw" 79 ⟨"CheckRulesModel", "without", "(II)Z"⟩ ∈ zTs := zT_in 1147 (by decide +kernel) rfl
theorem im_Mod_without : Cond.instanceMethod ⟨"CheckRulesModel", "without", "(II)Z"⟩ ∈ zTs := zT_in 1148 (by decide +kernel) rfl
theorem sel_Mod_without : Cond.selects "CheckRulesModel" ⟨"CheckRulesModel", "without", "(II)Z"⟩ ⟨"CheckRulesModel", "without", "(II)Z"⟩ ∈ zTs := zT_in 1149 (by decide +kernel) rfl
theorem ml_Law_83 : Cond.methodLink "CheckRulesLaw" 83 ⟨"CheckRulesModel", "check", "()I"⟩ ∈ zTs := zT_in 1151 (by decide +kernel) rfl
theorem im_Mod_check : Cond.instanceMethod ⟨"CheckRulesModel", "check", "()I"⟩ ∈ zTs := zT_in 1152 (by decide +kernel) rfl
theorem sel_Mod_check : Cond.selects "CheckRulesModel" ⟨"CheckRulesModel", "check", "()I"⟩ ⟨"CheckRulesModel", "check", "()I"⟩ ∈ zTs := zT_in 1153 (by decide +kernel) rfl
theorem ml_Mod_234 : Cond.methodLink "CheckRulesModel" 234 ⟨"CheckRulesModel", "work", "(I)I"⟩ ∈ zTs := zT_in 1155 (by decide +kernel) rfl
theorem im_Mod_work : Cond.instanceMethod ⟨"CheckRulesModel", "work", "(I)I"⟩ ∈ zTs := zT_in 1157 (by decide +kernel) rfl
theorem ml_Mod_228 : Cond.methodLink "CheckRulesModel" 228 ⟨"CheckRulesModel", "workNode", "(III)V"⟩ ∈ zTs := zT_in 1159 (by decide +kernel) rfl
theorem im_Mod_workNode : Cond.instanceMethod ⟨"CheckRulesModel", "workNode", "(III)V"⟩ ∈ zTs := zT_in 1161 (by decide +kernel) rfl
theorem ml_Mod_217 : Cond.methodLink "CheckRulesModel" 217 ⟨"CheckRulesModel", "workTerm", "(III)V"⟩ ∈ zTs := zT_in 1163 (by decide +kernel) rfl
theorem im_Mod_workTerm : Cond.instanceMethod ⟨"CheckRulesModel", "workTerm", "(III)V"⟩ ∈ zTs := zT_in 1165 (by decide +kernel) rfl
theorem ml_Mod_221 : Cond.methodLink "CheckRulesModel" 221 ⟨"CheckRulesModel", "compared", "(III)I"⟩ ∈ zTs := zT_in 1167 (by decide +kernel) rfl
theorem im_Mod_compared : Cond.instanceMethod ⟨"CheckRulesModel", "compared", "(III)I"⟩ ∈ zTs := zT_in 1169 (by decide +kernel) rfl
theorem ml_Mod_225 : Cond.methodLink "CheckRulesModel" 225 ⟨"CheckRulesModel", "over", "(II)I"⟩ ∈ zTs := zT_in 1171 (by decide +kernel) rfl
theorem im_Mod_over : Cond.instanceMethod ⟨"CheckRulesModel", "over", "(II)I"⟩ ∈ zTs := zT_in 1173 (by decide +kernel) rfl
theorem ml_Mod_212 : Cond.methodLink "CheckRulesModel" 212 ⟨"CheckRulesModel", "isThere", "(I)Z"⟩ ∈ zTs := zT_in 1175 (by decide +kernel) rfl
theorem im_Mod_isThere : Cond.instanceMethod ⟨"CheckRulesModel", "isThere", "(I)Z"⟩ ∈ zTs := zT_in 1177 (by decide +kernel) rfl
theorem ml_Mod_209 : Cond.methodLink "CheckRulesModel" 209 ⟨"CheckRulesModel", "and", "(II)I"⟩ ∈ zTs := zT_in 1179 (by decide +kernel) rfl
theorem st_Mod_and : Cond.static ⟨"CheckRulesModel", "and", "(II)I"⟩ ∈ zTs := zT_in 1180 (by decide +kernel) rfl
theorem ml_Mod_215 : Cond.methodLink "CheckRulesModel" 215 ⟨"CheckRulesModel", "or", "(II)I"⟩ ∈ zTs := zT_in 1182 (by decide +kernel) rfl
theorem st_Mod_or2 : Cond.static ⟨"CheckRulesModel", "or", "(II)I"⟩ ∈ zTs := zT_in 1183 (by decide +kernel) rfl
theorem ml_Mod_206 : Cond.methodLink "CheckRulesModel" 206 ⟨"CheckRulesModel", "not", "(I)I"⟩ ∈ zTs := zT_in 1185 (by decide +kernel) rfl
theorem st_Mod_not : Cond.static ⟨"CheckRulesModel", "not", "(I)I"⟩ ∈ zTs := zT_in 1186 (by decide +kernel) rfl
theorem ml_Mod_237 : Cond.methodLink "CheckRulesModel" 237 ⟨"CheckRulesModel", "badAt", "(IZ)I"⟩ ∈ zTs := zT_in 1188 (by decide +kernel) rfl
theorem im_Mod_badAt : Cond.instanceMethod ⟨"CheckRulesModel", "badAt", "(IZ)I"⟩ ∈ zTs := zT_in 1190 (by decide +kernel) rfl
theorem ml_Law_88 : Cond.methodLink "CheckRulesLaw" 88 ⟨"CheckRulesModel", "bad", "(IZ)I"⟩ ∈ zTs := zT_in 1192 (by decide +kernel) rfl
theorem im_Mod_bad : Cond.instanceMethod ⟨"CheckRulesModel", "bad", "(IZ)I"⟩ ∈ zTs := zT_in 1193 (by decide +kernel) rfl
theorem sel_Mod_bad : Cond.selects "CheckRulesModel" ⟨"CheckRulesModel", "bad", "(IZ)I"⟩ ⟨"CheckRulesModel", "bad", "(IZ)I"⟩ ∈ zTs := zT_in 1194 (by decide +kernel) rfl
theorem ml_Law_92 : Cond.methodLink "CheckRulesLaw" 92 ⟨"CheckRulesModel", "was", "(I)I"⟩ ∈ zTs := zT_in 1196 (by decide +kernel) rfl
theorem im_Mod_was : Cond.instanceMethod ⟨"CheckRulesModel", "was", "(I)I"⟩ ∈ zTs := zT_in 1197 (by decide +kernel) rfl
theorem sel_Mod_was : Cond.selects "CheckRulesModel" ⟨"CheckRulesModel", "was", "(I)I"⟩ ⟨"CheckRulesModel", "was", "(I)I"⟩ ∈ zTs := zT_in 1198 (by decide +kernel) rfl
theorem ml_Law_95 : Cond.methodLink "CheckRulesLaw" 95 ⟨"CheckRulesModel", "is", "(I)I"⟩ ∈ zTs := zT_in 1200 (by decide +kernel) rfl
theorem im_Mod_is : Cond.instanceMethod ⟨"CheckRulesModel", "is", "(I)I"⟩ ∈ zTs := zT_in 1201 (by decide +kernel) rfl
theorem sel_Mod_is : Cond.selects "CheckRulesModel" ⟨"CheckRulesModel", "is", "(I)I"⟩ ⟨"CheckRulesModel", "is", "(I)I"⟩ ∈ zTs := zT_in 1202 (by decide +kernel) rfl
theorem ml_Law_99 : Cond.methodLink "CheckRulesLaw" 99 ⟨"CheckRulesModel", "answer", "(I)Z"⟩ ∈ zTs := zT_in 1204 (by decide +kernel) rfl
theorem im_Mod_answer : Cond.instanceMethod ⟨"CheckRulesModel", "answer", "(I)Z"⟩ ∈ zTs := zT_in 1205 (by decide +kernel) rfl
theorem sel_Mod_answer : Cond.selects "CheckRulesModel" ⟨"CheckRulesModel", "answer", "(I)Z"⟩ ⟨"CheckRulesModel", "answer", "(I)Z"⟩ ∈ zTs := zT_in 1206 (by decide +kernel) rfl
theorem ml_Law_102 : Cond.methodLink "CheckRulesLaw" 102 ⟨"CheckRulesModel", "touch", "(I)I"⟩ ∈ zTs := zT_in 1208 (by decide +kernel) rfl
theorem im_Mod_touch : Cond.instanceMethod ⟨"CheckRulesModel", "touch", "(I)I"⟩ ∈ zTs := zT_in 1209 (by decide +kernel) rfl
theorem sel_Mod_touch : Cond.selects "CheckRulesModel" ⟨"CheckRulesModel", "touch", "(I)I"⟩ ⟨"CheckRulesModel", "touch", "(I)I"⟩ ∈ zTs := zT_in 1210 (by decide +kernel) rfl
theorem ml_Law_106 : Cond.methodLink "CheckRulesLaw" 106 ⟨"CheckRulesModel", "never", "(I)I"⟩ ∈ zTs := zT_in 1212 (by decide +kernel) rfl
theorem im_Mod_never : Cond.instanceMethod ⟨"CheckRulesModel", "never", "(I)I"⟩ ∈ zTs := zT_in 1213 (by decide +kernel) rfl
theorem sel_Mod_never : Cond.selects "CheckRulesModel" ⟨"CheckRulesModel", "never", "(I)I"⟩ ⟨"CheckRulesModel", "never", "(I)I"⟩ ∈ zTs := zT_in 1214 (by decide +kernel) rfl
theorem ml_Law_110 : Cond.methodLink "CheckRulesLaw" 110 ⟨"CheckRulesModel", "node", "(III)I"⟩ ∈ zTs := zT_in 1216 (by decide +kernel) rfl
theorem im_Mod_node2 : Cond.instanceMethod ⟨"CheckRulesModel", "node", "(III)I"⟩ ∈ zTs := zT_in 1217 (by decide +kernel) rfl
theorem sel_Mod_node2 : Cond.selects "CheckRulesModel" ⟨"CheckRulesModel", "node", "(III)I"⟩ ⟨"CheckRulesModel", "node", "(III)I"⟩ ∈ zTs := zT_in 1218 (by decide +kernel) rfl
theorem ml_Law_113 : Cond.methodLink "CheckRulesLaw" 113 ⟨"CheckRulesModel", "print", "(I)I"⟩ ∈ zTs := zT_in 1220 (by decide +kernel) rfl
theorem im_Mod_print : Cond.instanceMethod ⟨"CheckRulesModel", "print", "(I)I"⟩ ∈ zTs := zT_in 1221 (by decide +kernel) rfl
theorem sel_Mod_print : Cond.selects "CheckRulesModel" ⟨"CheckRulesModel", "print", "(I)I"⟩ ⟨"CheckRulesModel", "print", "(I)I"⟩ ∈ zTs := zT_in 1222 (by decide +kernel) rfl
theorem ml_Mod_244 : Cond.methodLink "CheckRulesModel" 244 ⟨"CheckRulesModel", "put", "(I)V"⟩ ∈ zTs := zT_in 1224 (by decide +kernel) rfl
theorem im_Mod_put : Cond.instanceMethod ⟨"CheckRulesModel", "put", "(I)V"⟩ ∈ zTs := zT_in 1226 (by decide +kernel) rfl
theorem ml_Mod_250 : Cond.methodLink "CheckRulesModel" 250 ⟨"CheckRulesModel", "putTerm", "(I)V"⟩ ∈ zTs := zT_in 1228 (by decide +kernel) rfl
theorem im_Mod_putTerm : Cond.instanceMethod ⟨"CheckRulesModel", "putTerm", "(I)V"⟩ ∈ zTs := zT_in 1230 (by decide +kernel) rfl
theorem ml_Mod_247 : Cond.methodLink "CheckRulesModel" 247 ⟨"CheckRulesModel", "putNumber", "(I)V"⟩ ∈ zTs := zT_in 1232 (by decide +kernel) rfl
theorem im_Mod_putNumber : Cond.instanceMethod ⟨"CheckRulesModel", "putNumber", "(I)V"⟩ ∈ zTs := zT_in 1234 (by decide +kernel) rfl
theorem ml_Mod_253 : Cond.methodLink "CheckRulesModel" 253 ⟨"CheckRulesModel", "unfold", "(III)I"⟩ ∈ zTs := zT_in 1236 (by decide +kernel) rfl
theorem im_Mod_unfold : Cond.instanceMethod ⟨"CheckRulesModel", "unfold", "(III)I"⟩ ∈ zTs := zT_in 1238 (by decide +kernel) rfl
theorem ml_Law_116 : Cond.methodLink "CheckRulesLaw" 116 ⟨"CheckRulesModel", "at", "(I)I"⟩ ∈ zTs := zT_in 1240 (by decide +kernel) rfl
theorem im_Mod_at : Cond.instanceMethod ⟨"CheckRulesModel", "at", "(I)I"⟩ ∈ zTs := zT_in 1241 (by decide +kernel) rfl
theorem sel_Mod_at : Cond.selects "CheckRulesModel" ⟨"CheckRulesModel", "at", "(I)I"⟩ ⟨"CheckRulesModel", "at", "(I)I"⟩ ∈ zTs := zT_in 1242 (by decide +kernel) rfl
theorem ml_Law_120 : Cond.methodLink "CheckRulesLaw" 120 ⟨"CheckRulesModel", "count", "(I)I"⟩ ∈ zTs := zT_in 1244 (by decide +kernel) rfl
theorem im_Mod_count : Cond.instanceMethod ⟨"CheckRulesModel", "count", "(I)I"⟩ ∈ zTs := zT_in 1245 (by decide +kernel) rfl
theorem sel_Mod_count : Cond.selects "CheckRulesModel" ⟨"CheckRulesModel", "count", "(I)I"⟩ ⟨"CheckRulesModel", "count", "(I)I"⟩ ∈ zTs := zT_in 1246 (by decide +kernel) rfl
theorem fl_String_9 : Cond.fieldLink "java/lang/String" 9 "java/lang/String" "value" "[B" ∈ zTs := zT_in 1249 (by decide +kernel) rfl
theorem fl_String_15 : Cond.fieldLink "java/lang/String" 15 "java/lang/String" "coder" "B" ∈ zTs := zT_in 1250 (by decide +kernel) rfl
theorem sel_Cls_find : Cond.selects "CheckRules" ⟨"CheckRules", "find", "(I)LCheckRules$Rule;"⟩ ⟨"CheckRules", "find", "(I)LCheckRules$Rule;"⟩ ∈ zTs := zT_in 0 (by decide +kernel) rfl
theorem sel_Cls_checkOne : Cond.selects "CheckRules" ⟨"CheckRules", "checkOne", "(LCheckRules$Rule;)V"⟩ ⟨"CheckRules", "checkOne", "(LCheckRules$Rule;)V"⟩ ∈ zTs := zT_in 1 (by decide +kernel) rfl
theorem sel_Wrk_workOutNode : Cond.selects "CheckRules$Worker" ⟨"CheckRules$Worker", "workOutNode", "(LCheckRules$Tree;I)V"⟩ ⟨"CheckRules$Worker", "workOutNode", "(LCheckRules$Tree;I)V"⟩ ∈ zTs := zT_in 2 (by decide +kernel) rfl
theorem sel_Tre_has : Cond.selects "CheckRules$Tree" ⟨"CheckRules$Tree", "has", "(I)Z"⟩ ⟨"CheckRules$Tree", "has", "(I)Z"⟩ ∈ zTs := zT_in 3 (by decide +kernel) rfl
theorem sel_Wrk_setOnAllLines : Cond.selects "CheckRules$Worker" ⟨"CheckRules$Worker", "setOnAllLines", "(II)V"⟩ ⟨"CheckRules$Worker", "setOnAllLines", "(II)V"⟩ ∈ zTs := zT_in 4 (by decide +kernel) rfl
theorem sel_Wrk_setResult : Cond.selects "CheckRules$Worker" ⟨"CheckRules$Worker", "setResult", "(III)V"⟩ ⟨"CheckRules$Worker", "setResult", "(III)V"⟩ ∈ zTs := zT_in 5 (by decide +kernel) rfl
theorem sel_Wrk_overLines : Cond.selects "CheckRules$Worker" ⟨"CheckRules$Worker", "overLines", "(II)I"⟩ ⟨"CheckRules$Worker", "overLines", "(II)I"⟩ ∈ zTs := zT_in 6 (by decide +kernel) rfl
theorem sel_Wrk_resultOf : Cond.selects "CheckRules$Worker" ⟨"CheckRules$Worker", "resultOf", "(II)I"⟩ ⟨"CheckRules$Worker", "resultOf", "(II)I"⟩ ∈ zTs := zT_in 7 (by decide +kernel) rfl
theorem sel_Cls_findBad : Cond.selects "CheckRules" ⟨"CheckRules", "findBad", "(IZ)I"⟩ ⟨"CheckRules", "findBad", "(IZ)I"⟩ ∈ zTs := zT_in 8 (by decide +kernel) rfl
theorem sel_Cls_countBad : Cond.selects "CheckRules" ⟨"CheckRules", "countBad", "(Z)I"⟩ ⟨"CheckRules", "countBad", "(Z)I"⟩ ∈ zTs := zT_in 9 (by decide +kernel) rfl
theorem sel_Cls_countNodes : Cond.selects "CheckRules" ⟨"CheckRules", "countNodes", "(I)I"⟩ ⟨"CheckRules", "countNodes", "(I)I"⟩ ∈ zTs := zT_in 10 (by decide +kernel) rfl
theorem sel_Throwable_fillInStackTrace : Cond.selects "java/lang/Throwable" ⟨"java/lang/Throwable", "fillInStackTrace", "(I)Ljava/lang/Throwable;"⟩ ⟨"java/lang/Throwable", "fillInStackTrace", "(I)Ljava/lang/Throwable;"⟩ ∈ zTs := zT_in 11 (by decide +kernel) rfl
theorem sel_Rdr_beginLevel : Cond.selects "CheckRules$Reader" ⟨"CheckRules$Reader", "beginLevel", "(I)Z"⟩ ⟨"CheckRules$Reader", "beginLevel", "(I)Z"⟩ ∈ zTs := zT_in 12 (by decide +kernel) rfl
theorem sel_Rdr_readToken : Cond.selects "CheckRules$Reader" ⟨"CheckRules$Reader", "readToken", "()V"⟩ ⟨"CheckRules$Reader", "readToken", "()V"⟩ ∈ zTs := zT_in 13 (by decide +kernel) rfl
theorem sel_Rdr_readNumber : Cond.selects "CheckRules$Reader" ⟨"CheckRules$Reader", "readNumber", "(I)Z"⟩ ⟨"CheckRules$Reader", "readNumber", "(I)Z"⟩ ∈ zTs := zT_in 14 (by decide +kernel) rfl
theorem sel_Rdr_readWord : Cond.selects "CheckRules$Reader" ⟨"CheckRules$Reader", "readWord", "()I"⟩ ⟨"CheckRules$Reader", "readWord", "()I"⟩ ∈ zTs := zT_in 15 (by decide +kernel) rfl
theorem sel_Rdr_isWord : Cond.selects "CheckRules$Reader" ⟨"CheckRules$Reader", "isWord", "(Ljava/lang/String;)Z"⟩ ⟨"CheckRules$Reader", "isWord", "(Ljava/lang/String;)Z"⟩ ∈ zTs := zT_in 16 (by decide +kernel) rfl
theorem sel_Rdr_takeToken : Cond.selects "CheckRules$Reader" ⟨"CheckRules$Reader", "takeToken", "()Z"⟩ ⟨"CheckRules$Reader", "takeToken", "()Z"⟩ ∈ zTs := zT_in 17 (by decide +kernel) rfl
theorem sel_Rdr_takePart : Cond.selects "CheckRules$Reader" ⟨"CheckRules$Reader", "takePart", "()Z"⟩ ⟨"CheckRules$Reader", "takePart", "()Z"⟩ ∈ zTs := zT_in 18 (by decide +kernel) rfl
theorem sel_Rdr_goDeeper : Cond.selects "CheckRules$Reader" ⟨"CheckRules$Reader", "goDeeper", "()Z"⟩ ⟨"CheckRules$Reader", "goDeeper", "()Z"⟩ ∈ zTs := zT_in 19 (by decide +kernel) rfl
theorem sel_Rdr_takeTerm : Cond.selects "CheckRules$Reader" ⟨"CheckRules$Reader", "takeTerm", "()Z"⟩ ⟨"CheckRules$Reader", "takeTerm", "()Z"⟩ ∈ zTs := zT_in 20 (by decide +kernel) rfl
theorem sel_Rdr_takeFieldOfSum : Cond.selects "CheckRules$Reader" ⟨"CheckRules$Reader", "takeFieldOfSum", "()Z"⟩ ⟨"CheckRules$Reader", "takeFieldOfSum", "()Z"⟩ ∈ zTs := zT_in 21 (by decide +kernel) rfl
theorem sel_Rdr_takeBehindTerm : Cond.selects "CheckRules$Reader" ⟨"CheckRules$Reader", "takeBehindTerm", "()Z"⟩ ⟨"CheckRules$Reader", "takeBehindTerm", "()Z"⟩ ∈ zTs := zT_in 22 (by decide +kernel) rfl
theorem sel_Rdr_kindOfToken : Cond.selects "CheckRules$Reader" ⟨"CheckRules$Reader", "kindOfToken", "()I"⟩ ⟨"CheckRules$Reader", "kindOfToken", "()I"⟩ ∈ zTs := zT_in 23 (by decide +kernel) rfl
theorem sel_Rdr_compare : Cond.selects "CheckRules$Reader" ⟨"CheckRules$Reader", "compare", "()Z"⟩ ⟨"CheckRules$Reader", "compare", "()Z"⟩ ∈ zTs := zT_in 24 (by decide +kernel) rfl
theorem sel_Rdr_takeBehindPart : Cond.selects "CheckRules$Reader" ⟨"CheckRules$Reader", "takeBehindPart", "()Z"⟩ ⟨"CheckRules$Reader", "takeBehindPart", "()Z"⟩ ∈ zTs := zT_in 25 (by decide +kernel) rfl
theorem sel_Rdr_endLevel : Cond.selects "CheckRules$Reader" ⟨"CheckRules$Reader", "endLevel", "()Z"⟩ ⟨"CheckRules$Reader", "endLevel", "()Z"⟩ ∈ zTs := zT_in 26 (by decide +kernel) rfl
theorem sel_Prt_printNode : Cond.selects "CheckRules$Printer" ⟨"CheckRules$Printer", "printNode", "(LCheckRules$Tree;II)V"⟩ ⟨"CheckRules$Printer", "printNode", "(LCheckRules$Tree;II)V"⟩ ∈ zTs := zT_in 27 (by decide +kernel) rfl
theorem sel_Prt_printBelow : Cond.selects "CheckRules$Printer" ⟨"CheckRules$Printer", "printBelow", "(LCheckRules$Tree;III)V"⟩ ⟨"CheckRules$Printer", "printBelow", "(LCheckRules$Tree;III)V"⟩ ∈ zTs := zT_in 28 (by decide +kernel) rfl
theorem sel_Prt_addWord : Cond.selects "CheckRules$Printer" ⟨"CheckRules$Printer", "addWord", "(Ljava/lang/String;)V"⟩ ⟨"CheckRules$Printer", "addWord", "(Ljava/lang/String;)V"⟩ ∈ zTs := zT_in 29 (by decide +kernel) rfl
theorem sel_Prt_printTerm : Cond.selects "CheckRules$Printer" ⟨"CheckRules$Printer", "printTerm", "(II)V"⟩ ⟨"CheckRules$Printer", "printTerm", "(II)V"⟩ ∈ zTs := zT_in 30 (by decide +kernel) rfl
theorem sel_Prt_addNumber : Cond.selects "CheckRules$Printer" ⟨"CheckRules$Printer", "addNumber", "(I)V"⟩ ⟨"CheckRules$Printer", "addNumber", "(I)V"⟩ ∈ zTs := zT_in 31 (by decide +kernel) rfl
theorem sel_Prt_addSignOf : Cond.selects "CheckRules$Printer" ⟨"CheckRules$Printer", "addSignOf", "(I)V"⟩ ⟨"CheckRules$Printer", "addSignOf", "(I)V"⟩ ∈ zTs := zT_in 32 (by decide +kernel) rfl
theorem sel_Mod_read : Cond.selects "CheckRulesModel" ⟨"CheckRulesModel", "read", "()I"⟩ ⟨"CheckRulesModel", "read", "()I"⟩ ∈ zTs := zT_in 33 (by decide +kernel) rfl
theorem sel_Mod_begins : Cond.selects "CheckRulesModel" ⟨"CheckRulesModel", "begins", "()Z"⟩ ⟨"CheckRulesModel", "begins", "()Z"⟩ ∈ zTs := zT_in 34 (by decide +kernel) rfl
theorem sel_Mod_look : Cond.selects "CheckRulesModel" ⟨"CheckRulesModel", "look", "()I"⟩ ⟨"CheckRulesModel", "look", "()I"⟩ ∈ zTs := zT_in 35 (by decide +kernel) rfl
theorem sel_Mod_word : Cond.selects "CheckRulesModel" ⟨"CheckRulesModel", "word", "()I"⟩ ⟨"CheckRulesModel", "word", "()I"⟩ ∈ zTs := zT_in 36 (by decide +kernel) rfl
theorem sel_Mod_node : Cond.selects "CheckRulesModel" ⟨"CheckRulesModel", "node", "(II)I"⟩ ⟨"CheckRulesModel", "node", "(II)I"⟩ ∈ zTs := zT_in 37 (by decide +kernel) rfl
theorem sel_Mod_fail : Cond.selects "CheckRulesModel" ⟨"CheckRulesModel", "fail", "(I)V"⟩ ⟨"CheckRulesModel", "fail", "(I)V"⟩ ∈ zTs := zT_in 38 (by decide +kernel) rfl
theorem sel_Mod_enter : Cond.selects "CheckRulesModel" ⟨"CheckRulesModel", "enter", "(I)V"⟩ ⟨"CheckRulesModel", "enter", "(I)V"⟩ ∈ zTs := zT_in 39 (by decide +kernel) rfl
theorem sel_Mod_push : Cond.selects "CheckRulesModel" ⟨"CheckRulesModel", "push", "(II)V"⟩ ⟨"CheckRulesModel", "push", "(II)V"⟩ ∈ zTs := zT_in 40 (by decide +kernel) rfl
theorem sel_Mod_comparison : Cond.selects "CheckRulesModel" ⟨"CheckRulesModel", "comparison", "()I"⟩ ⟨"CheckRulesModel", "comparison", "()I"⟩ ∈ zTs := zT_in 41 (by decide +kernel) rfl
theorem sel_Mod_sum : Cond.selects "CheckRulesModel" ⟨"CheckRulesModel", "sum", "()I"⟩ ⟨"CheckRulesModel", "sum", "()I"⟩ ∈ zTs := zT_in 42 (by decide +kernel) rfl
theorem sel_Mod_term : Cond.selects "CheckRulesModel" ⟨"CheckRulesModel", "term", "()I"⟩ ⟨"CheckRulesModel", "term", "()I"⟩ ∈ zTs := zT_in 43 (by decide +kernel) rfl
theorem sel_Mod_digits : Cond.selects "CheckRulesModel" ⟨"CheckRulesModel", "digits", "(II)I"⟩ ⟨"CheckRulesModel", "digits", "(II)I"⟩ ∈ zTs := zT_in 44 (by decide +kernel) rfl
theorem sel_Mod_field : Cond.selects "CheckRulesModel" ⟨"CheckRulesModel", "field", "()I"⟩ ⟨"CheckRulesModel", "field", "()I"⟩ ∈ zTs := zT_in 45 (by decide +kernel) rfl
theorem sel_Mod_taken : Cond.selects "CheckRulesModel" ⟨"CheckRulesModel", "taken", "(I)I"⟩ ⟨"CheckRulesModel", "taken", "(I)I"⟩ ∈ zTs := zT_in 46 (by decide +kernel) rfl
theorem sel_Mod_or : Cond.selects "CheckRulesModel" ⟨"CheckRulesModel", "or", "(I)I"⟩ ⟨"CheckRulesModel", "or", "(I)I"⟩ ∈ zTs := zT_in 47 (by decide +kernel) rfl
theorem sel_Mod_number : Cond.selects "CheckRulesModel" ⟨"CheckRulesModel", "number", "(II)V"⟩ ⟨"CheckRulesModel", "number", "(II)V"⟩ ∈ zTs := zT_in 48 (by decide +kernel) rfl
theorem sel_Mod_isRule : Cond.selects "CheckRulesModel" ⟨"CheckRulesModel", "isRule", "(I)Z"⟩ ⟨"CheckRulesModel", "isRule", "(I)Z"⟩ ∈ zTs := zT_in 49 (by decide +kernel) rfl
theorem sel_Mod_work : Cond.selects "CheckRulesModel" ⟨"CheckRulesModel", "work", "(I)I"⟩ ⟨"CheckRulesModel", "work", "(I)I"⟩ ∈ zTs := zT_in 50 (by decide +kernel) rfl
theorem sel_Mod_workNode : Cond.selects "CheckRulesModel" ⟨"CheckRulesModel", "workNode", "(III)V"⟩ ⟨"CheckRulesModel", "workNode", "(III)V"⟩ ∈ zTs := zT_in 51 (by decide +kernel) rfl
theorem sel_Mod_workTerm : Cond.selects "CheckRulesModel" ⟨"CheckRulesModel", "workTerm", "(III)V"⟩ ⟨"CheckRulesModel", "workTerm", "(III)V"⟩ ∈ zTs := zT_in 52 (by decide +kernel) rfl
theorem sel_Mod_compared : Cond.selects "CheckRulesModel" ⟨"CheckRulesModel", "compared", "(III)I"⟩ ⟨"CheckRulesModel", "compared", "(III)I"⟩ ∈ zTs := zT_in 53 (by decide +kernel) rfl
theorem sel_Mod_over : Cond.selects "CheckRulesModel" ⟨"CheckRulesModel", "over", "(II)I"⟩ ⟨"CheckRulesModel", "over", "(II)I"⟩ ∈ zTs := zT_in 54 (by decide +kernel) rfl
theorem sel_Mod_isThere : Cond.selects "CheckRulesModel" ⟨"CheckRulesModel", "isThere", "(I)Z"⟩ ⟨"CheckRulesModel", "isThere", "(I)Z"⟩ ∈ zTs := zT_in 55 (by decide +kernel) rfl
theorem sel_Mod_badAt : Cond.selects "CheckRulesModel" ⟨"CheckRulesModel", "badAt", "(IZ)I"⟩ ⟨"CheckRulesModel", "badAt", "(IZ)I"⟩ ∈ zTs := zT_in 56 (by decide +kernel) rfl
theorem sel_Mod_put : Cond.selects "CheckRulesModel" ⟨"CheckRulesModel", "put", "(I)V"⟩ ⟨"CheckRulesModel", "put", "(I)V"⟩ ∈ zTs := zT_in 57 (by decide +kernel) rfl
theorem sel_Mod_putTerm : Cond.selects "CheckRulesModel" ⟨"CheckRulesModel", "putTerm", "(I)V"⟩ ⟨"CheckRulesModel", "putTerm", "(I)V"⟩ ∈ zTs := zT_in 58 (by decide +kernel) rfl
theorem sel_Mod_putNumber : Cond.selects "CheckRulesModel" ⟨"CheckRulesModel", "putNumber", "(I)V"⟩ ⟨"CheckRulesModel", "putNumber", "(I)V"⟩ ∈ zTs := zT_in 59 (by decide +kernel) rfl
theorem sel_Mod_unfold : Cond.selects "CheckRulesModel" ⟨"CheckRulesModel", "unfold", "(III)I"⟩ ⟨"CheckRulesModel", "unfold", "(III)I"⟩ ∈ zTs := zT_in 60 (by decide +kernel) rfl
end
section
/-! rows that write or make cells, with the picture moved along -/
section ZPR
variable {p : Program} {l : Launch} {e : Env} {R : Room} {s : State} {m : MethodId} {args : Array Value} {below : List Frame} {meth : Method} {c : Code} {cells slots : Nat} {Q : State → Prop} {D : va_G} {cl : List vw_C} {tys : List (ClassId × FieldType)} {b0 : Nat} {G : State → Prop} {cc : ByteArray} {nL : Nat} {own : String} {Ts : List Cond} {ret : Option FieldType} {N : Nat} {f : Nat → va_E} {pc : Nat} {lv : List (Nat × Value)} {st : List Value}
variable {ws : va_W}
theorem z_putP (X : zX p s m args meth c D cl tys b0 G cc nL own Ts ret) {ref C : String} {T : u_T} {n ci index a : Nat} {fs : List Value} {v : Value} {ty : FieldType} (ty0 : Nat → FieldType) (hty : ∀ k, k < n → parseFieldDescriptor (T k).2.2.1 = some (ty0 k)) (hnm : ∀ a, a < n → ∀ b, b < n → a ≠ b → (T a).2.1 ≠ (T b).2.1) (hdg : decode cc pc = .ok (.putfield index, 3)) (hP : zP b0 N f ws) (pos : Nat) (hw : ws[pos]? = some (a, .inr (ci, fs))) (hc : cl[ci]? = some (C, T, n)) (hin : ∀ w ∈ u_ws C T n, w ∈ Ts) (k : Nat) (hk : k < n) (hlink : Cond.fieldLink own index ref (T k).2.1 (T k).2.2.1 ∈ Ts) (href : (T k).1 = ref) (hfin : (T k).2.2.2 = false) (htk : ty0 k = ty) (hn : narrow ty v = v) (hfit : fits ty v = true) (hl : k < fs.length) (kk : zP b0 N (va_up f a (.inr (ci, fs.set k v))) (ws.set pos (a, (.inr (ci, fs.set k v)))) → zW p l e R s m args below meth c D cl b0 nL cells slots Q N (va_up f a (.inr (ci, fs.set k v))) (pc + 3) lv st) : zW p l e R s m args below meth c D cl b0 nL cells slots Q N f pc lv (v :: .ref a :: st) := z_put X ty0 hty hnm hdg (hP.lo pos hw) (hP.at pos hw) hc hin k hk hlink href hfin htk hn hfit hl (kk (hP.put pos hw _))
theorem z_putNP (X : zX p s m args meth c D cl tys b0 G cc nL own Ts ret) {ref C : String} {T : u_T} {n ci index a : Nat} {fs : List Value} {v : Value} {ty : FieldType} (ty0 : Nat → FieldType) (hty : ∀ k, k < n → parseFieldDescriptor (T k).2.2.1 = some (ty0 k)) (hnm : ∀ a, a < n → ∀ b, b < n → a ≠ b → (T a).2.1 ≠ (T b).2.1) {host : String} (hdg : decode cc pc = .ok (.putfield index, 3)) (hP : zP b0 N f ws) (pos : Nat) (hw : ws[pos]? = some (a, .inr (ci, fs))) (hc : cl[ci]? = some (C, T, n)) (hin : ∀ w ∈ u_ws C T n, w ∈ Ts) (k : Nat) (hk : k < n) (hlink : va_Nw (Cond.fieldLinkNest own index ref (T k).2.1 (T k).2.2.1 host) s) (href : (T k).1 = ref) (hfin : (T k).2.2.2 = false) (htk : ty0 k = ty) (hn : narrow ty v = v) (hfit : fits ty v = true) (hl : k < fs.length) (kk : zP b0 N (va_up f a (.inr (ci, fs.set k v))) (ws.set pos (a, (.inr (ci, fs.set k v)))) → zW p l e R s m args below meth c D cl b0 nL cells slots Q N (va_up f a (.inr (ci, fs.set k v))) (pc + 3) lv st) : zW p l e R s m args below meth c D cl b0 nL cells slots Q N f pc lv (v :: .ref a :: st) := z_putN X ty0 hty hnm hdg (hP.lo pos hw) (hP.at pos hw) hc hin k hk hlink href hfin htk hn hfit hl (kk (hP.put pos hw _))
theorem z_putFP (X : zX p s m args meth c D cl tys b0 G cc nL own Ts ret) {ref C : String} {T : u_T} {n ci index a : Nat} {fs : List Value} {v : Value} {ty : FieldType} (ty0 : Nat → FieldType) (hty : ∀ k, k < n → parseFieldDescriptor (T k).2.2.1 = some (ty0 k)) (hnm : ∀ a, a < n → ∀ b, b < n → a ≠ b → (T a).2.1 ≠ (T b).2.1) (hdg : decode cc pc = .ok (.putfield index, 3)) (hP : zP b0 N f ws) (pos : Nat) (hw : ws[pos]? = some (a, .inr (ci, fs))) (hc : cl[ci]? = some (C, T, n)) (hin : ∀ w ∈ u_ws C T n, w ∈ Ts) (k : Nat) (hk : k < n) (hlink : Cond.fieldLink own index ref (T k).2.1 (T k).2.2.1 ∈ Ts) (href : (T k).1 = ref) (hfin : (T k).2.2.2 = true) (hin2 : meth.name = "<init>") (hdecl : (T k).1 = own) (htk : ty0 k = ty) (hn : narrow ty v = v) (hfit : fits ty v = true) (hl : k < fs.length) (kk : zP b0 N (va_up f a (.inr (ci, fs.set k v))) (ws.set pos (a, (.inr (ci, fs.set k v)))) → zW p l e R s m args below meth c D cl b0 nL cells slots Q N (va_up f a (.inr (ci, fs.set k v))) (pc + 3) lv st) : zW p l e R s m args below meth c D cl b0 nL cells slots Q N f pc lv (v :: .ref a :: st) := z_putF X ty0 hty hnm hdg (hP.lo pos hw) (hP.at pos hw) hc hin k hk hlink href hfin hin2 hdecl htk hn hfit hl (kk (hP.put pos hw _))
theorem z_iastP (X : zX p s m args meth c D cl tys b0 G cc nL own Ts ret) {a t0 k : Nat} {cA : ClassId} {g : Nat → Int32} {i : Int32} {x : Int32} (hdg : decode cc pc = .ok (.iastore, 1)) (hP : zP b0 N f ws) (pos : Nat) (hw : ws[pos]? = some (a, .inl (cA, k, .inl g))) (ht : tys[t0]? = some (cA, .int)) (hi : vp_in i k) (kk : zP b0 N (va_up f a (.inl (cA, k, .inl (upd g i.toNatClampNeg x)))) (ws.set pos (a, (.inl (cA, k, .inl (upd g i.toNatClampNeg x))))) → zW p l e R s m args below meth c D cl b0 nL cells slots Q N (va_up f a (.inl (cA, k, .inl (upd g i.toNatClampNeg x)))) (pc + 1) lv st) : zW p l e R s m args below meth c D cl b0 nL cells slots Q N f pc lv (.int x :: .int i :: .ref a :: st) := z_iast X hdg (hP.lo pos hw) (hP.at pos hw) ht hi (kk (hP.put pos hw _))
theorem z_lastP (X : zX p s m args meth c D cl tys b0 G cc nL own Ts ret) {a t0 k : Nat} {cA : ClassId} {g : Nat → Int64} {i : Int32} {x : Int64} (hdg : decode cc pc = .ok (.lastore, 1)) (hP : zP b0 N f ws) (pos : Nat) (hw : ws[pos]? = some (a, .inl (cA, k, .inr (.inl (g))))) (ht : tys[t0]? = some (cA, .long)) (hi : vp_in i k) (kk : zP b0 N (va_up f a (.inl (cA, k, .inr (.inl ((vp_updL g i.toNatClampNeg x)))))) (ws.set pos (a, (.inl (cA, k, .inr (.inl ((vp_updL g i.toNatClampNeg x))))))) → zW p l e R s m args below meth c D cl b0 nL cells slots Q N (va_up f a (.inl (cA, k, .inr (.inl ((vp_updL g i.toNatClampNeg x)))))) (pc + 1) lv st) : zW p l e R s m args below meth c D cl b0 nL cells slots Q N f pc lv (.long x :: .int i :: .ref a :: st) := z_last X hdg (hP.lo pos hw) (hP.at pos hw) ht hi (kk (hP.put pos hw _))
theorem z_zastP (X : zX p s m args meth c D cl tys b0 G cc nL own Ts ret) {a t0 k : Nat} {cA : ClassId} {g : Nat → Int32} {i : Int32} {x : Int32} (hdg : decode cc pc = .ok (.bastore, 1)) (hP : zP b0 N f ws) (pos : Nat) (hw : ws[pos]? = some (a, .inl (cA, k, .inl g))) (ht : tys[t0]? = some (cA, .boolean)) (hi : vp_in i k) (kk : zP b0 N (va_up f a (.inl (cA, k, .inl (upd g i.toNatClampNeg (vp_nar .boolean x))))) (ws.set pos (a, (.inl (cA, k, .inl (upd g i.toNatClampNeg (vp_nar .boolean x)))))) → zW p l e R s m args below meth c D cl b0 nL cells slots Q N (va_up f a (.inl (cA, k, .inl (upd g i.toNatClampNeg (vp_nar .boolean x))))) (pc + 1) lv st) : zW p l e R s m args below meth c D cl b0 nL cells slots Q N f pc lv (.int x :: .int i :: .ref a :: st) := z_zast X hdg (hP.lo pos hw) (hP.at pos hw) ht hi (kk (hP.put pos hw _))
theorem z_aastP (X : zX p s m args meth c D cl tys b0 G cc nL own Ts ret) {a t0 k v ci : Nat} {cA : ClassId} {rc : vw_C} {vs : List Value} {g : Nat → Option Nat} {i : Int32} (hdg : decode cc pc = .ok (.aastore, 1)) (hP : zP b0 N f ws) (pos : Nat) (hw : ws[pos]? = some (a, .inl (cA, k, .inr (.inr (.inr (.inr g)))))) (ht : tys[t0]? = some (cA, .object rc.1)) (hv : b0 ≤ v ∧ v < N) (hfv : f v = .inr (ci, vs)) (hc : cl[ci]? = some rc) (hi : vp_in i k) (kk : zP b0 N (va_up f a (.inl (cA, k, .inr (.inr (.inr (.inr (va_up g i.toNatClampNeg (some v)))))))) (ws.set pos (a, (.inl (cA, k, .inr (.inr (.inr (.inr (va_up g i.toNatClampNeg (some v))))))))) → zW p l e R s m args below meth c D cl b0 nL cells slots Q N (va_up f a (.inl (cA, k, .inr (.inr (.inr (.inr (va_up g i.toNatClampNeg (some v)))))))) (pc + 1) lv st) : zW p l e R s m args below meth c D cl b0 nL cells slots Q N f pc lv (.ref v :: .int i :: .ref a :: st) := z_aast X hdg (hP.lo pos hw) (hP.at pos hw) ht hv hfv hc hi (kk (hP.put pos hw _))
theorem z_newP (X : zX p s m args meth c D cl tys b0 G cc nL own Ts ret) {C : String} {T : u_T} {n ci index : Nat} (ty0 : Nat → FieldType) (hty : ∀ k, k < n → parseFieldDescriptor (T k).2.2.1 = some (ty0 k)) {fs : List Value} (hdg : decode cc pc = .ok (.new index, 3)) (hc : cl[ci]? = some (C, T, n)) (hin : ∀ w ∈ u_ws C T n, w ∈ Ts) (h1 : Cond.classLink own index C ∈ Ts) (h2 : Cond.instantiable C n ∈ Ts) (h3 : Cond.initialized C ∈ Ts) (hfs : ∀ j, j < n → defaultValue (ty0 j) = vp_V fs j) (hcells : cells + 1 ≤ R.cells) (hslots : slots + n ≤ R.slots) (hP : zP b0 N f ws) (hbN : b0 ≤ N) (kk : zP b0 (N + 1) (va_up f N (.inr (ci, fs))) (ws ++ [(N, (.inr (ci, fs)))]) → zW p l e R s m args below meth c D cl b0 nL (cells + 1) (slots + n) Q (N + 1) (va_up f N (.inr (ci, fs))) (pc + 3) lv (.ref N :: st)) : zW p l e R s m args below meth c D cl b0 nL cells slots Q N f pc lv st := z_new X ty0 hty hdg hc hin h1 h2 h3 hfs hcells hslots (kk (hP.push hbN _))
theorem z_newaiP (X : zX p s m args meth c D cl tys b0 G cc nL own Ts ret) {atype : ArrayType} (hat : newarray.typeOf atype = .int) {t0 k : Nat} {cA : ClassId} {n : Int32} (hdg : decode cc pc = .ok (.newarray atype, 2)) (hw : Cond.arrayClass .int ∈ Ts) (ht : tys[t0]? = some (cA, .int)) (hn : ¬ n < 0) (hk : n.toNatClampNeg = k) (hb : k * componentBytes .int ≤ 536870912) (hcells : cells + 1 ≤ R.cells) (hslots : slots + k ≤ R.slots) (hP : zP b0 N f ws) (hbN : b0 ≤ N) (kk : zP b0 (N + 1) (va_up f N (.inl (cA, k, .inl (fun _ => 0)))) (ws ++ [(N, (.inl (cA, k, .inl (fun _ => 0))))]) → zW p l e R s m args below meth c D cl b0 nL (cells + 1) (slots + k) Q (N + 1) (va_up f N (.inl (cA, k, .inl (fun _ => 0)))) (pc + 2) lv (.ref N :: st)) : zW p l e R s m args below meth c D cl b0 nL cells slots Q N f pc lv (.int n :: st) := z_newai X hat hdg hw ht hn hk hb hcells hslots (kk (hP.push hbN _))
theorem z_newalP (X : zX p s m args meth c D cl tys b0 G cc nL own Ts ret) {atype : ArrayType} (hat : newarray.typeOf atype = .long) {t0 k : Nat} {cA : ClassId} {n : Int32} (hdg : decode cc pc = .ok (.newarray atype, 2)) (hw : Cond.arrayClass .long ∈ Ts) (ht : tys[t0]? = some (cA, .long)) (hn : ¬ n < 0) (hk : n.toNatClampNeg = k) (hb : k * componentBytes .long ≤ 536870912) (hcells : cells + 1 ≤ R.cells) (hslots : slots + k ≤ R.slots) (hP : zP b0 N f ws) (hbN : b0 ≤ N) (kk : zP b0 (N + 1) (va_up f N (.inl (cA, k, .inr (.inl (fun _ => 0))))) (ws ++ [(N, (.inl (cA, k, .inr (.inl (fun _ => 0)))))]) → zW p l e R s m args below meth c D cl b0 nL (cells + 1) (slots + k) Q (N + 1) (va_up f N (.inl (cA, k, .inr (.inl (fun _ => 0))))) (pc + 2) lv (.ref N :: st)) : zW p l e R s m args below meth c D cl b0 nL cells slots Q N f pc lv (.int n :: st) := z_newal X hat hdg hw ht hn hk hb hcells hslots (kk (hP.push hbN _))
theorem z_newazP (X : zX p s m args meth c D cl tys b0 G cc nL own Ts ret) {atype : ArrayType} (hat : newarray.typeOf atype = .boolean) {t0 k : Nat} {cA : ClassId} {n : Int32} (hdg : decode cc pc = .ok (.newarray atype, 2)) (hw : Cond.arrayClass .boolean ∈ Ts) (ht : tys[t0]? = some (cA, .boolean)) (hn : ¬ n < 0) (hk : n.toNatClampNeg = k) (hb : k * componentBytes .boolean ≤ 536870912) (hcells : cells + 1 ≤ R.cells) (hslots : slots + k ≤ R.slots) (hP : zP b0 N f ws) (hbN : b0 ≤ N) (kk : zP b0 (N + 1) (va_up f N (.inl (cA, k, .inl (fun _ => 0)))) (ws ++ [(N, (.inl (cA, k, .inl (fun _ => 0))))]) → zW p l e R s m args below meth c D cl b0 nL (cells + 1) (slots + k) Q (N + 1) (va_up f N (.inl (cA, k, .inl (fun _ => 0)))) (pc + 2) lv (.ref N :: st)) : zW p l e R s m args below meth c D cl b0 nL cells slots Q N f pc lv (.int n :: st) := z_newaz X hat hdg hw ht hn hk hb hcells hslots (kk (hP.push hbN _))
theorem z_newqP (X : zX p s m args meth c D cl tys b0 G cc nL own Ts ret) {C : String} {index t0 k : Nat} {cA : ClassId} {n : Int32} (hdg : decode cc pc = .ok (.anewarray index, 3)) (h1 : Cond.classLink own index C ∈ Ts) (hover : va_AO C s) (ht : tys[t0]? = some (cA, .object C)) (hn : ¬ n < 0) (hk : n.toNatClampNeg = k) (hb : k * 4 ≤ 536870912) (hcells : cells + 1 ≤ R.cells) (hslots : slots + k ≤ R.slots) (hP : zP b0 N f ws) (hbN : b0 ≤ N) (kk : zP b0 (N + 1) (va_up f N (.inl (cA, k, .inr (.inr (.inr (.inr (fun _ => none))))))) (ws ++ [(N, (.inl (cA, k, .inr (.inr (.inr (.inr (fun _ => none)))))))]) → zW p l e R s m args below meth c D cl b0 nL (cells + 1) (slots + k) Q (N + 1) (va_up f N (.inl (cA, k, .inr (.inr (.inr (.inr (fun _ => none))))))) (pc + 3) lv (.ref N :: st)) : zW p l e R s m args below meth c D cl b0 nL cells slots Q N f pc lv (.int n :: st) := z_newq X hdg h1 hover ht hn hk hb hcells hslots (kk (hP.push hbN _))
end ZPR
theorem zF.by {b0 N N0 a : Nat} {f0 f : Nat → va_E} {as : List Nat} {y : va_E} {ws : va_W} (h : zF N0 f0 f as) (ha : a ∈ as) (_ : zP b0 N (va_up f a y) ws) : zF N0 f0 (va_up f a y) as := h.put ha y
end
section
set_option maxRecDepth 100000 in
theorem mc_objInit : Cond.code Lib.objectInit ⟨#[0xb1]⟩ 1 none ∈ zTs := zT_in 92 rfl rfl
/-- the array classes -/
abbrev zty (ck : Nat → ClassId) : List (ClassId × FieldType) := [(ck 0, .int), (ck 1, .boolean), (ck 2, .long), (ck 3, .object "CheckRules$Rule"), (ck 4, .byte)]
/-- a contract over this system's tables: method, code, locals, answer's type, depth, cells, slots, arguments, heap, post -/
abbrev zK (l : Launch) (D : va_G) (ck : Nat → ClassId) (ad : (Nat → Nat) × (Nat → Nat)) (b0 : Nat) (y : MethodName) (c : ByteArray) (nL : Nat) (ret : Option FieldType) (d mc ms : Nat) (As : List Value) (N : Nat) (f : Nat → va_E) (P : Option Value → Nat → (Nat → va_E) → Prop) : Prop := zM l D zcl (zty ck) b0 (zG ad b0) y [Cond.code y c nL ret] (zR d mc ms) mc ms As N f P
abbrev aI (ck : Nat → ClassId) (n : Nat) (g : Nat → Int32) : va_E := .inl (ck 0, n, .inl g)
abbrev oSgn (ra : Nat) (u : Int32) : va_E := .inr (4, [.ref ra, .int u])
/-- Signs.get -/
def sgv (g : Nat → Int32) (u : Nat) (i : Int32) : Int32 := if i < 0 then -1 else if nI u ≤ i then -1 else g i.toNatClampNeg
section
variable {l : Launch} {D : va_G} {ck : Nat → ClassId} {ad : (Nat → Nat) × (Nat → Nat)} {b0 N : Nat} {f : Nat → va_E}
theorem d_Sgn_size_0 : decode prog_6_method_2_code 0 = .ok (.aload_n 0, 1) := by decide +kernel
theorem d_Sgn_size_1 : decode prog_6_method_2_code 1 = .ok (.getfield 15, 3) := by decide +kernel
theorem d_Sgn_size_4 : decode prog_6_method_2_code 4 = .ok (.ireturn, 1) := by decide +kernel
set_option maxHeartbeats 4000000 in
set_option maxRecDepth 100000 in
theorem c_Sgn_size {sg ra u : Nat} {g : Nat → Int32} (hP : zP b0 N f [(sg, oSgn ra (nI u)), (ra, aI ck 200 g)]) : zK l D ck ad b0 y_Sgn_size prog_6_method_2_code 1 ((some FieldType.int)) 0 0 0 [.ref sg] N f (fun r N' f' => r = some (.int (nI u)) ∧ N = N' ∧ f = f') := by
  refine zM.of zG_w (by decide) (Nat.le_of_ble_eq_true rfl) ?_
  intro p e s m args below meth c X hnm hb0
  refine z_aload_n X d_Sgn_size_0 rfl ?_
  refine z_get X d_Sgn_size_1 (hP.lo 0 rfl) (hP.at 0 rfl) cl_Sgn in_Sgn 1 (by decide) fl_Sgn_15 rfl rfl ?_
  exact z_iret X d_Sgn_size_4 ⟨rfl, rfl, rfl⟩
theorem d_Sgn_clear_0 : decode prog_6_method_3_code 0 = .ok (.aload_n 0, 1) := by decide +kernel
theorem d_Sgn_clear_1 : decode prog_6_method_3_code 1 = .ok (.iconst 0, 1) := by decide +kernel
theorem d_Sgn_clear_2 : decode prog_6_method_3_code 2 = .ok (.putfield 15, 3) := by decide +kernel
theorem d_Sgn_clear_5 : decode prog_6_method_3_code 5 = .ok (.return_, 1) := by decide +kernel
set_option maxHeartbeats 4000000 in
set_option maxRecDepth 100000 in
theorem c_Sgn_clear {sg ra u : Nat} {g : Nat → Int32} (hP : zP b0 N f [(sg, oSgn ra (nI u)), (ra, aI ck 200 g)]) : zK l D ck ad b0 y_Sgn_clear prog_6_method_3_code 1 (none) 0 0 0 [.ref sg] N f (fun r N' f' => r = none ∧ N = N' ∧ f' = va_up f sg (oSgn ra 0)) := by
  refine zM.of zG_w (by decide) (Nat.le_of_ble_eq_true rfl) ?_
  intro p e s m args below meth c X hnm hb0
  refine z_aload_n X d_Sgn_clear_0 rfl ?_
  refine z_iconst X d_Sgn_clear_1 (v := 0) (by decide) ?_
  refine z_putP X t_Sgn ty_Sgn n_Sgn d_Sgn_clear_2 hP 0 rfl cl_Sgn in_Sgn 1 (by decide) fl_Sgn_15 rfl rfl rfl rfl rfl (Nat.le_of_ble_eq_true rfl) (fun hP => ?_)
  exact z_vret X d_Sgn_clear_5 ⟨rfl, rfl, rfl⟩
theorem d_Sgn_get_0 : decode prog_6_method_5_code 0 = .ok (.iload_n 1, 1) := by decide +kernel
theorem d_Sgn_get_1 : decode prog_6_method_5_code 1 = .ok (.ifCond .lt 20, 3) := by decide +kernel
theorem d_Sgn_get_4 : decode prog_6_method_5_code 4 = .ok (.iload_n 1, 1) := by decide +kernel
theorem d_Sgn_get_5 : decode prog_6_method_5_code 5 = .ok (.aload_n 0, 1) := by decide +kernel
theorem d_Sgn_get_6 : decode prog_6_method_5_code 6 = .ok (.getfield 15, 3) := by decide +kernel
theorem d_Sgn_get_9 : decode prog_6_method_5_code 9 = .ok (.if_icmp .ge 12, 3) := by decide +kernel
theorem d_Sgn_get_12 : decode prog_6_method_5_code 12 = .ok (.iload_n 1, 1) := by decide +kernel
theorem d_Sgn_get_13 : decode prog_6_method_5_code 13 = .ok (.aload_n 0, 1) := by decide +kernel
theorem d_Sgn_get_14 : decode prog_6_method_5_code 14 = .ok (.getfield 9, 3) := by decide +kernel
theorem d_Sgn_get_17 : decode prog_6_method_5_code 17 = .ok (.arraylength, 1) := by decide +kernel
theorem d_Sgn_get_18 : decode prog_6_method_5_code 18 = .ok (.if_icmp .lt 5, 3) := by decide +kernel
theorem d_Sgn_get_21 : decode prog_6_method_5_code 21 = .ok (.iconst (-1), 1) := by decide +kernel
theorem d_Sgn_get_22 : decode prog_6_method_5_code 22 = .ok (.ireturn, 1) := by decide +kernel
theorem d_Sgn_get_23 : decode prog_6_method_5_code 23 = .ok (.aload_n 0, 1) := by decide +kernel
theorem d_Sgn_get_24 : decode prog_6_method_5_code 24 = .ok (.getfield 9, 3) := by decide +kernel
theorem d_Sgn_get_27 : decode prog_6_method_5_code 27 = .ok (.iload_n 1, 1) := by decide +kernel
theorem d_Sgn_get_28 : decode prog_6_method_5_code 28 = .ok (.iaload, 1) := by decide +kernel
theorem d_Sgn_get_29 : decode prog_6_method_5_code 29 = .ok (.ireturn, 1) := by decide +kernel
set_option maxHeartbeats 4000000 in
set_option maxRecDepth 100000 in
theorem c_Sgn_get {sg ra u : Nat} {g : Nat → Int32} (hP : zP b0 N f [(sg, oSgn ra (nI u)), (ra, aI ck 200 g)]) (hu : u ≤ 200) {i : Int32} : zK l D ck ad b0 y_Sgn_get prog_6_method_5_code 2 ((some FieldType.int)) 0 0 0 [.ref sg, .int i] N f (fun r N' f' => r = some (.int (sgv g u i)) ∧ N = N' ∧ f = f') := by
  refine zM.of zG_w (by decide) (Nat.le_of_ble_eq_true rfl) ?_
  intro p e s m args below meth c X hnm hb0
  refine z_iload_n X d_Sgn_get_0 rfl ?_
  refine z_if_lt X 21 d_Sgn_get_1 (by decide) (fun h1 => ?_) (fun h1 => ?_)
  · skip
    refine z_iconst X d_Sgn_get_21 (v := -1) (by decide) ?_
    exact z_iret X d_Sgn_get_22 ⟨by first | rw [sgv, if_pos h1] | rw [sgv, if_neg h1, if_pos h9], rfl, rfl⟩
  · skip
    refine z_iload_n X d_Sgn_get_4 rfl ?_
    refine z_aload_n X d_Sgn_get_5 rfl ?_
    refine z_get X d_Sgn_get_6 (hP.lo 0 rfl) (hP.at 0 rfl) cl_Sgn in_Sgn 1 (by decide) fl_Sgn_15 rfl rfl ?_
    refine z_icmp_ge X 21 d_Sgn_get_9 (by decide) (fun h9 => ?_) (fun h9 => ?_)
    · skip
      refine z_iconst X d_Sgn_get_21 (v := -1) (by decide) ?_
      exact z_iret X d_Sgn_get_22 ⟨by first | rw [sgv, if_pos h1] | rw [sgv, if_neg h1, if_pos h9], rfl, rfl⟩
    · skip
      refine z_iload_n X d_Sgn_get_12 rfl ?_
      refine z_aload_n X d_Sgn_get_13 rfl ?_
      refine z_get X d_Sgn_get_14 (hP.lo 0 rfl) (hP.at 0 rfl) cl_Sgn in_Sgn 0 (by decide) fl_Sgn_9 rfl rfl ?_
      refine z_alen X d_Sgn_get_17 (hP.lo 1 rfl) (hP.at 1 rfl) (t0 := 0) rfl rfl ?_
      refine z_icmp_lt X 23 d_Sgn_get_18 (by decide) (fun h18 => ?_) (fun h18 => ?_)
      · skip
        refine z_aload_n X d_Sgn_get_23 rfl ?_
        refine z_get X d_Sgn_get_24 (hP.lo 0 rfl) (hP.at 0 rfl) cl_Sgn in_Sgn 0 (by decide) fl_Sgn_9 rfl rfl ?_
        refine z_iload_n X d_Sgn_get_27 rfl ?_
        refine z_iald X d_Sgn_get_28 (hP.lo 1 rfl) (hP.at 1 rfl) (t0 := 0) rfl (by rw [vp_in_iff]; have a1 := Int32.not_lt.mp h1; rw [Int32.le_iff_toInt_le] at a1; have a2 := Int32.not_le.mp h9; rw [Int32.lt_iff_toInt_lt, nI_toInt (by omega)] at a2; simp at a1; omega) ?_
        exact z_iret X d_Sgn_get_29 ⟨by rw [sgv, if_neg h1, if_neg h9], rfl, rfl⟩
      · skip
        exact absurd (Int32.lt_of_lt_of_le (Int32.not_le.mp h9) (nI_le hu (by decide))) h18
theorem d_Sgn_add_0 : decode prog_6_method_4_code 0 = .ok (.aload_n 0, 1) := by decide +kernel
theorem d_Sgn_add_1 : decode prog_6_method_4_code 1 = .ok (.getfield 15, 3) := by decide +kernel
theorem d_Sgn_add_4 : decode prog_6_method_4_code 4 = .ok (.ifCond .lt 15, 3) := by decide +kernel
theorem d_Sgn_add_7 : decode prog_6_method_4_code 7 = .ok (.aload_n 0, 1) := by decide +kernel
theorem d_Sgn_add_8 : decode prog_6_method_4_code 8 = .ok (.getfield 15, 3) := by decide +kernel
theorem d_Sgn_add_11 : decode prog_6_method_4_code 11 = .ok (.aload_n 0, 1) := by decide +kernel
theorem d_Sgn_add_12 : decode prog_6_method_4_code 12 = .ok (.getfield 9, 3) := by decide +kernel
theorem d_Sgn_add_15 : decode prog_6_method_4_code 15 = .ok (.arraylength, 1) := by decide +kernel
theorem d_Sgn_add_16 : decode prog_6_method_4_code 16 = .ok (.if_icmp .lt 5, 3) := by decide +kernel
theorem d_Sgn_add_19 : decode prog_6_method_4_code 19 = .ok (.iconst 0, 1) := by decide +kernel
theorem d_Sgn_add_20 : decode prog_6_method_4_code 20 = .ok (.ireturn, 1) := by decide +kernel
theorem d_Sgn_add_21 : decode prog_6_method_4_code 21 = .ok (.aload_n 0, 1) := by decide +kernel
theorem d_Sgn_add_22 : decode prog_6_method_4_code 22 = .ok (.getfield 9, 3) := by decide +kernel
theorem d_Sgn_add_25 : decode prog_6_method_4_code 25 = .ok (.aload_n 0, 1) := by decide +kernel
theorem d_Sgn_add_26 : decode prog_6_method_4_code 26 = .ok (.getfield 15, 3) := by decide +kernel
theorem d_Sgn_add_29 : decode prog_6_method_4_code 29 = .ok (.iload_n 1, 1) := by decide +kernel
theorem d_Sgn_add_30 : decode prog_6_method_4_code 30 = .ok (.iastore, 1) := by decide +kernel
theorem d_Sgn_add_31 : decode prog_6_method_4_code 31 = .ok (.aload_n 0, 1) := by decide +kernel
theorem d_Sgn_add_32 : decode prog_6_method_4_code 32 = .ok (.dup, 1) := by decide +kernel
theorem d_Sgn_add_33 : decode prog_6_method_4_code 33 = .ok (.getfield 15, 3) := by decide +kernel
theorem d_Sgn_add_36 : decode prog_6_method_4_code 36 = .ok (.iconst 1, 1) := by decide +kernel
theorem d_Sgn_add_37 : decode prog_6_method_4_code 37 = .ok (.iadd, 1) := by decide +kernel
theorem d_Sgn_add_38 : decode prog_6_method_4_code 38 = .ok (.putfield 15, 3) := by decide +kernel
theorem d_Sgn_add_41 : decode prog_6_method_4_code 41 = .ok (.iconst 1, 1) := by decide +kernel
theorem d_Sgn_add_42 : decode prog_6_method_4_code 42 = .ok (.ireturn, 1) := by decide +kernel
set_option maxHeartbeats 4000000 in
set_option maxRecDepth 100000 in
theorem c_Sgn_add {sg ra u : Nat} {g : Nat → Int32} (hP : zP b0 N f [(sg, oSgn ra (nI u)), (ra, aI ck 200 g)]) (hu : u ≤ 200) {x : Int32} : zK l D ck ad b0 y_Sgn_add prog_6_method_4_code 2 ((some FieldType.boolean)) 0 0 0 [.ref sg, .int x] N f (fun r N' f' => if u < 200 then (r = some (.int 1) ∧ N = N' ∧ f' = va_up (va_up f ra (aI ck 200 (upd g u x))) sg (oSgn ra (nI (u + 1)))) else (r = some (.int 0) ∧ N = N' ∧ f = f')) := by
  refine zM.of zG_w (by decide) (Nat.le_of_ble_eq_true rfl) ?_
  intro p e s m args below meth c X hnm hb0
  refine z_aload_n X d_Sgn_add_0 rfl ?_
  refine z_get X d_Sgn_add_1 (hP.lo 0 rfl) (hP.at 0 rfl) cl_Sgn in_Sgn 1 (by decide) fl_Sgn_15 rfl rfl ?_
  refine z_if_lt X 19 d_Sgn_add_4 (by decide) (fun h4 => ?_) (fun h4 => ?_)
  · skip
    exact absurd h4 (nI_pos (by omega))
  · skip
    refine z_aload_n X d_Sgn_add_7 rfl ?_
    refine z_get X d_Sgn_add_8 (hP.lo 0 rfl) (hP.at 0 rfl) cl_Sgn in_Sgn 1 (by decide) fl_Sgn_15 rfl rfl ?_
    refine z_aload_n X d_Sgn_add_11 rfl ?_
    refine z_get X d_Sgn_add_12 (hP.lo 0 rfl) (hP.at 0 rfl) cl_Sgn in_Sgn 0 (by decide) fl_Sgn_9 rfl rfl ?_
    refine z_alen X d_Sgn_add_15 (hP.lo 1 rfl) (hP.at 1 rfl) (t0 := 0) rfl rfl ?_
    refine z_icmp_lt X 21 d_Sgn_add_16 (by decide) (fun h16 => ?_) (fun h16 => ?_)
    · skip
      have hu2 : u < 200 := (nI_ltI (b := 200) (by omega) (by decide)).mp h16
      refine z_aload_n X d_Sgn_add_21 rfl ?_
      refine z_get X d_Sgn_add_22 (hP.lo 0 rfl) (hP.at 0 rfl) cl_Sgn in_Sgn 0 (by decide) fl_Sgn_9 rfl rfl ?_
      refine z_aload_n X d_Sgn_add_25 rfl ?_
      refine z_get X d_Sgn_add_26 (hP.lo 0 rfl) (hP.at 0 rfl) cl_Sgn in_Sgn 1 (by decide) fl_Sgn_15 rfl rfl ?_
      refine z_iload_n X d_Sgn_add_29 rfl ?_
      refine z_iastP X d_Sgn_add_30 hP 1 rfl (t0 := 0) rfl (vp_in_nI hu2 (by decide)) (fun hP => ?_)
      refine z_aload_n X d_Sgn_add_31 rfl ?_
      refine z_dup X d_Sgn_add_32 rfl ?_
      refine z_get X d_Sgn_add_33 (hP.lo 0 rfl) (hP.at 0 rfl) cl_Sgn in_Sgn 1 (by decide) fl_Sgn_15 rfl rfl ?_
      refine z_iconst X d_Sgn_add_36 (v := 1) (by decide) ?_
      refine z_iadd X d_Sgn_add_37 ?_
      refine z_putP X t_Sgn ty_Sgn n_Sgn d_Sgn_add_38 hP 0 rfl cl_Sgn in_Sgn 1 (by decide) fl_Sgn_15 rfl rfl rfl rfl rfl (Nat.le_of_ble_eq_true rfl) (fun hP => ?_)
      refine z_iconst X d_Sgn_add_41 (v := 1) (by decide) ?_
      exact z_zret X d_Sgn_add_42 rfl (by rw [if_pos hu2]; refine ⟨rfl, rfl, ?_⟩; rw [nI_clamp (by omega), ← nI_succ]; rfl)
    · skip
      have hu2 : ¬ u < 200 := fun q => h16 (nI_lt (b := 200) q (by decide))
      refine z_iconst X d_Sgn_add_19 (v := 0) (by decide) ?_
      exact z_zret X d_Sgn_add_20 rfl (by rw [if_neg hu2]; exact ⟨rfl, rfl, rfl⟩)
end
end
section
section ZPK
variable {p : Program} {l : Launch} {e : Env} {R : Room} {s : State} {m : MethodId} {args : Array Value} {below : List Frame} {meth : Method} {c : Code} {cells slots : Nat} {Q : State → Prop} {D : va_G} {cl : List vw_C} {b0 nL N : Nat} {f : Nat → va_E} {pc : Nat} {lv lv' : List (Nat × Value)} {st : List Value}
/-- fewer locals, by their places -/
theorem zW.pick (is : List Nat) (hs : is.map (fun i => lv[i]?) = lv'.map some) (kk : zW p l e R s m args below meth c D cl b0 nL cells slots Q N f pc lv' st) : zW p l e R s m args below meth c D cl b0 nL cells slots Q N f pc lv st := by
  refine zW.loc (fun q hq => ?_) kk
  obtain ⟨k, hk⟩ := List.getElem?_of_mem hq
  have h1 : (is.map (fun i => lv[i]?))[k]? = some (some q) := by rw [hs, List.getElem?_map, hk]; rfl
  rw [List.getElem?_map] at h1
  cases hi : is[k]? with
  | none => rw [hi] at h1; cases h1
  | some i => rw [hi] at h1; exact List.mem_of_getElem? (Option.some.inj h1)
end ZPK
abbrev oDecl (va : Nat) : va_E := .inr (0, [.ref va])
abbrev zNV : Int32 := -2147483648
/-- Declaration.slotOf -/
def dsl (fd ln : Int32) : Int32 := if fd < 0 then -1 else if 20 ≤ fd then -1 else if ln < 0 then -1 else if ln < 10 then ln * 20 + fd else -1
theorem dsl_nI {a b : Nat} (ha : a < 20) (hb : b < 10) : dsl (nI a) (nI b) = nI (b * 20 + a) := by
  rw [dsl, if_neg (nI_pos (by omega)), if_neg (show ¬ (20 : Int32) ≤ nI a from nI_ge (b := 20) ha (by decide)), if_neg (nI_pos (by omega)), if_pos (show nI b < (10 : Int32) from nI_lt (b := 10) hb (by decide)), show (20 : Int32) = nI 20 from rfl, pk_mul, nI_add]
theorem dsl_cases (fd ln : Int32) : dsl fd ln = -1 ∨ ∃ a b : Nat, a < 20 ∧ b < 10 ∧ fd = nI a ∧ ln = nI b := by
  rcases pk_ix fd (n := 20) (by decide) with h | h | ⟨a, ha, rfl⟩
  · left; rw [dsl, if_pos h]
  · left
    by_cases h0 : fd < 0
    · rw [dsl, if_pos h0]
    · rw [dsl, if_neg h0, if_pos (show (20 : Int32) ≤ fd from h)]
  · rcases pk_ix ln (n := 10) (by decide) with h | h | ⟨b, hb, rfl⟩
    · left
      rw [dsl, if_neg (nI_pos (by omega)), if_neg (show ¬ (20 : Int32) ≤ nI a from nI_ge (b := 20) ha (by decide)), if_pos h]
    · left
      rw [dsl, if_neg (nI_pos (by omega)), if_neg (show ¬ (20 : Int32) ≤ nI a from nI_ge (b := 20) ha (by decide))]
      by_cases h0 : ln < 0
      · rw [if_pos h0]
      · rw [if_neg h0, if_neg (show ¬ ln < (10 : Int32) from Int32.not_lt.mpr h)]
    · right; exact ⟨a, b, ha, hb, rfl, rfl⟩
theorem dsl_in {fd ln : Int32} (h : ¬ dsl fd ln < 0) : vp_in (dsl fd ln) 200 := by
  rcases dsl_cases fd ln with q | ⟨a, b, ha, hb, rfl, rfl⟩
  · rw [q] at h
    exact absurd (by decide) h
  · rw [dsl_nI ha hb]
    exact vp_in_nI (by omega) (by decide)
/-- Declaration.valueOn -/
def dval (v : Nat → Int32) (fd ln : Int32) : Int32 := if dsl fd ln < 0 then (-2147483648 : Int32) else v (dsl fd ln).toNatClampNeg
/-- sums and counts over the lines 1 .. k -/
def dsum (v : Nat → Int32) (fd : Int32) : Nat → Int32
  | 0 => 0
  | k + 1 => dsum v fd k + (if dval v fd (nI (k + 1)) = (-2147483648 : Int32) then 0 else dval v fd (nI (k + 1)))
def dcnt (v : Nat → Int32) (fd : Int32) : Nat → Int32
  | 0 => 0
  | k + 1 => dcnt v fd k + (if dval v fd (nI (k + 1)) = (-2147483648 : Int32) then 0 else 1)
/-- the bit of a line, after its fields 0 .. j - 1 -/
def dbit (v : Nat → Int32) (ln : Nat) (bits : Int32) : Nat → Int32
  | 0 => bits
  | j + 1 => if dval v (nI j) (nI ln) = (-2147483648 : Int32) then dbit v ln bits j else dbit v ln bits j ||| (1 <<< (nI ln &&& 31))
def dbits (v : Nat → Int32) : Nat → Int32
  | 0 => 0
  | k + 1 => dbit v (k + 1) (dbits v k) 20
section
variable {l : Launch} {D : va_G} {ck : Nat → ClassId} {ad : (Nat → Nat) × (Nat → Nat)} {b0 N : Nat} {f : Nat → va_E}
theorem d_Decl_slotOf_0 : decode prog_2_method_2_code 0 = .ok (.iload_n 0, 1) := by decide +kernel
theorem d_Decl_slotOf_1 : decode prog_2_method_2_code 1 = .ok (.ifCond .lt 19, 3) := by decide +kernel
theorem d_Decl_slotOf_4 : decode prog_2_method_2_code 4 = .ok (.iload_n 0, 1) := by decide +kernel
theorem d_Decl_slotOf_5 : decode prog_2_method_2_code 5 = .ok (.bipush 20, 2) := by decide +kernel
theorem d_Decl_slotOf_7 : decode prog_2_method_2_code 7 = .ok (.if_icmp .ge 13, 3) := by decide +kernel
theorem d_Decl_slotOf_10 : decode prog_2_method_2_code 10 = .ok (.iload_n 1, 1) := by decide +kernel
theorem d_Decl_slotOf_11 : decode prog_2_method_2_code 11 = .ok (.ifCond .lt 9, 3) := by decide +kernel
theorem d_Decl_slotOf_14 : decode prog_2_method_2_code 14 = .ok (.iload_n 1, 1) := by decide +kernel
theorem d_Decl_slotOf_15 : decode prog_2_method_2_code 15 = .ok (.bipush 10, 2) := by decide +kernel
theorem d_Decl_slotOf_17 : decode prog_2_method_2_code 17 = .ok (.if_icmp .lt 5, 3) := by decide +kernel
theorem d_Decl_slotOf_20 : decode prog_2_method_2_code 20 = .ok (.iconst (-1), 1) := by decide +kernel
theorem d_Decl_slotOf_21 : decode prog_2_method_2_code 21 = .ok (.ireturn, 1) := by decide +kernel
theorem d_Decl_slotOf_22 : decode prog_2_method_2_code 22 = .ok (.iload_n 1, 1) := by decide +kernel
theorem d_Decl_slotOf_23 : decode prog_2_method_2_code 23 = .ok (.bipush 20, 2) := by decide +kernel
theorem d_Decl_slotOf_25 : decode prog_2_method_2_code 25 = .ok (.imul, 1) := by decide +kernel
theorem d_Decl_slotOf_26 : decode prog_2_method_2_code 26 = .ok (.iload_n 0, 1) := by decide +kernel
theorem d_Decl_slotOf_27 : decode prog_2_method_2_code 27 = .ok (.iadd, 1) := by decide +kernel
theorem d_Decl_slotOf_28 : decode prog_2_method_2_code 28 = .ok (.ireturn, 1) := by decide +kernel
set_option maxHeartbeats 4000000 in
set_option maxRecDepth 100000 in
theorem c_Decl_slotOf {fd ln : Int32} : zK l D ck ad b0 y_Decl_slotOf prog_2_method_2_code 2 ((some FieldType.int)) 0 0 0 [.int fd, .int ln] N f (fun r N' f' => r = some (.int (dsl fd ln)) ∧ N = N' ∧ f = f') := by
  refine zM.of zG_w (by decide) (Nat.le_of_ble_eq_true rfl) ?_
  intro zp ze zst zm zar zbe zme zc X hnm hb0
  refine z_iload_n X d_Decl_slotOf_0 rfl ?_
  refine z_if_lt X 20 d_Decl_slotOf_1 (by decide) (fun h1 => ?_) (fun h1 => ?_)
  · skip
    refine z_iconst X d_Decl_slotOf_20 (v := -1) (by decide) ?_
    exact z_iret X d_Decl_slotOf_21 ⟨by first | rw [dsl, if_pos h1] | rw [dsl, if_neg h1, if_pos h7] | rw [dsl, if_neg h1, if_neg h7, if_pos h11] | rw [dsl, if_neg h1, if_neg h7, if_neg h11, if_neg h17], rfl, rfl⟩
  · skip
    refine z_iload_n X d_Decl_slotOf_4 rfl ?_
    refine z_bipush X d_Decl_slotOf_5 (v := 20) (by decide) ?_
    refine z_icmp_ge X 20 d_Decl_slotOf_7 (by decide) (fun h7 => ?_) (fun h7 => ?_)
    · skip
      refine z_iconst X d_Decl_slotOf_20 (v := -1) (by decide) ?_
      exact z_iret X d_Decl_slotOf_21 ⟨by first | rw [dsl, if_pos h1] | rw [dsl, if_neg h1, if_pos h7] | rw [dsl, if_neg h1, if_neg h7, if_pos h11] | rw [dsl, if_neg h1, if_neg h7, if_neg h11, if_neg h17], rfl, rfl⟩
    · skip
      refine z_iload_n X d_Decl_slotOf_10 rfl ?_
      refine z_if_lt X 20 d_Decl_slotOf_11 (by decide) (fun h11 => ?_) (fun h11 => ?_)
      · skip
        refine z_iconst X d_Decl_slotOf_20 (v := -1) (by decide) ?_
        exact z_iret X d_Decl_slotOf_21 ⟨by first | rw [dsl, if_pos h1] | rw [dsl, if_neg h1, if_pos h7] | rw [dsl, if_neg h1, if_neg h7, if_pos h11] | rw [dsl, if_neg h1, if_neg h7, if_neg h11, if_neg h17], rfl, rfl⟩
      · skip
        refine z_iload_n X d_Decl_slotOf_14 rfl ?_
        refine z_bipush X d_Decl_slotOf_15 (v := 10) (by decide) ?_
        refine z_icmp_lt X 22 d_Decl_slotOf_17 (by decide) (fun h17 => ?_) (fun h17 => ?_)
        · skip
          refine z_iload_n X d_Decl_slotOf_22 rfl ?_
          refine z_bipush X d_Decl_slotOf_23 (v := 20) (by decide) ?_
          refine z_imul X d_Decl_slotOf_25 ?_
          refine z_iload_n X d_Decl_slotOf_26 rfl ?_
          refine z_iadd X d_Decl_slotOf_27 ?_
          exact z_iret X d_Decl_slotOf_28 ⟨by rw [dsl, if_neg h1, if_neg h7, if_neg h11, if_pos h17], rfl, rfl⟩
        · skip
          refine z_iconst X d_Decl_slotOf_20 (v := -1) (by decide) ?_
          exact z_iret X d_Decl_slotOf_21 ⟨by first | rw [dsl, if_pos h1] | rw [dsl, if_neg h1, if_pos h7] | rw [dsl, if_neg h1, if_neg h7, if_pos h11] | rw [dsl, if_neg h1, if_neg h7, if_neg h11, if_neg h17], rfl, rfl⟩
theorem d_Decl_valueOn_0 : decode prog_2_method_4_code 0 = .ok (.iload_n 1, 1) := by decide +kernel
theorem d_Decl_valueOn_1 : decode prog_2_method_4_code 1 = .ok (.iload_n 2, 1) := by decide +kernel
theorem d_Decl_valueOn_2 : decode prog_2_method_4_code 2 = .ok (.invokestatic 22, 3) := by decide +kernel
theorem d_Decl_valueOn_5 : decode prog_2_method_4_code 5 = .ok (.istore_n 3, 1) := by decide +kernel
theorem d_Decl_valueOn_6 : decode prog_2_method_4_code 6 = .ok (.iload_n 3, 1) := by decide +kernel
theorem d_Decl_valueOn_7 : decode prog_2_method_4_code 7 = .ok (.ifCond .lt 12, 3) := by decide +kernel
theorem d_Decl_valueOn_10 : decode prog_2_method_4_code 10 = .ok (.iload_n 3, 1) := by decide +kernel
theorem d_Decl_valueOn_11 : decode prog_2_method_4_code 11 = .ok (.aload_n 0, 1) := by decide +kernel
theorem d_Decl_valueOn_12 : decode prog_2_method_4_code 12 = .ok (.getfield 9, 3) := by decide +kernel
theorem d_Decl_valueOn_15 : decode prog_2_method_4_code 15 = .ok (.arraylength, 1) := by decide +kernel
theorem d_Decl_valueOn_16 : decode prog_2_method_4_code 16 = .ok (.if_icmp .lt 6, 3) := by decide +kernel
theorem d_Decl_valueOn_19 : decode prog_2_method_4_code 19 = .ok (.ldc 15, 2) := by decide +kernel
theorem d_Decl_valueOn_21 : decode prog_2_method_4_code 21 = .ok (.ireturn, 1) := by decide +kernel
theorem d_Decl_valueOn_22 : decode prog_2_method_4_code 22 = .ok (.aload_n 0, 1) := by decide +kernel
theorem d_Decl_valueOn_23 : decode prog_2_method_4_code 23 = .ok (.getfield 9, 3) := by decide +kernel
theorem d_Decl_valueOn_26 : decode prog_2_method_4_code 26 = .ok (.iload_n 3, 1) := by decide +kernel
theorem d_Decl_valueOn_27 : decode prog_2_method_4_code 27 = .ok (.iaload, 1) := by decide +kernel
theorem d_Decl_valueOn_28 : decode prog_2_method_4_code 28 = .ok (.ireturn, 1) := by decide +kernel
set_option maxHeartbeats 4000000 in
set_option maxRecDepth 100000 in
theorem c_Decl_valueOn {dc va : Nat} {v : Nat → Int32} (hP : zP b0 N f [(dc, oDecl va), (va, aI ck 200 v)]) {fd ln : Int32} : zK l D ck ad b0 y_Decl_valueOn prog_2_method_4_code 4 ((some FieldType.int)) 1 0 0 [.ref dc, .int fd, .int ln] N f (fun r N' f' => r = some (.int (dval v fd ln)) ∧ N = N' ∧ f = f') := by
  refine zM.of zG_w (by decide) (Nat.le_of_ble_eq_true rfl) ?_
  intro zp ze zst zm zar zbe zme zc X hnm hb0
  refine z_iload_n X d_Decl_valueOn_0 rfl ?_
  refine z_iload_n X d_Decl_valueOn_1 rfl ?_
  refine z_callS X zG_ok (c_Decl_slotOf (f := f)) d_Decl_valueOn_2 ⟨(z_cb (n := 2) X.2.2.2.2.1 ml_Decl_22 mc_Decl_slotOf ini_Decl (by decide +kernel) rfl rfl ⟨Nat.le_of_ble_eq_true rfl, Nat.le_of_ble_eq_true rfl⟩), X.2.2.2.2.1 _ st_Decl_slotOf⟩ rfl rfl (Nat.le_of_ble_eq_true rfl) ⟨Nat.le_of_ble_eq_true rfl, Nat.le_of_ble_eq_true rfl⟩ (fun r N1 f1 hp hN1 => ?_)
  obtain ⟨rfl, rfl, rfl⟩ := hp
  refine z_istore_n X d_Decl_valueOn_5 (by decide) rfl ?_
  refine z_iload_n X d_Decl_valueOn_6 rfl ?_
  refine z_if_lt X 19 d_Decl_valueOn_7 (by decide) (fun h7 => ?_) (fun h7 => ?_)
  · skip
    refine z_ldc X d_Decl_valueOn_19 k_Decl_15 ?_
    exact z_iret X d_Decl_valueOn_21 ⟨by rw [dval, if_pos h7], rfl, rfl⟩
  · skip
    refine z_iload_n X d_Decl_valueOn_10 rfl ?_
    refine z_aload_n X d_Decl_valueOn_11 rfl ?_
    refine z_get X d_Decl_valueOn_12 (hP.lo 0 rfl) (hP.at 0 rfl) cl_Decl in_Decl 0 (by decide) fl_Decl_9 rfl rfl ?_
    refine z_alen X d_Decl_valueOn_15 (hP.lo 1 rfl) (hP.at 1 rfl) (t0 := 0) rfl rfl ?_
    refine z_icmp_lt X 22 d_Decl_valueOn_16 (by decide) (fun h16 => ?_) (fun h16 => ?_)
    · skip
      refine z_aload_n X d_Decl_valueOn_22 rfl ?_
      refine z_get X d_Decl_valueOn_23 (hP.lo 0 rfl) (hP.at 0 rfl) cl_Decl in_Decl 0 (by decide) fl_Decl_9 rfl rfl ?_
      refine z_iload_n X d_Decl_valueOn_26 rfl ?_
      refine z_iald X d_Decl_valueOn_27 (hP.lo 1 rfl) (hP.at 1 rfl) (t0 := 0) rfl (dsl_in h7) ?_
      exact z_iret X d_Decl_valueOn_28 ⟨by rw [dval, if_neg h7], rfl, rfl⟩
    · skip
      exact absurd (by have q := vp_in_iff.mp (dsl_in h7); rw [Int32.lt_iff_toInt_lt]; exact q.2) h16
theorem d_Decl_put_0 : decode prog_2_method_3_code 0 = .ok (.iload_n 1, 1) := by decide +kernel
theorem d_Decl_put_1 : decode prog_2_method_3_code 1 = .ok (.iload_n 2, 1) := by decide +kernel
theorem d_Decl_put_2 : decode prog_2_method_3_code 2 = .ok (.invokestatic 22, 3) := by decide +kernel
theorem d_Decl_put_5 : decode prog_2_method_3_code 5 = .ok (.istore 4, 2) := by decide +kernel
theorem d_Decl_put_7 : decode prog_2_method_3_code 7 = .ok (.iload 4, 2) := by decide +kernel
theorem d_Decl_put_9 : decode prog_2_method_3_code 9 = .ok (.ifCond .lt 13, 3) := by decide +kernel
theorem d_Decl_put_12 : decode prog_2_method_3_code 12 = .ok (.iload 4, 2) := by decide +kernel
theorem d_Decl_put_14 : decode prog_2_method_3_code 14 = .ok (.aload_n 0, 1) := by decide +kernel
theorem d_Decl_put_15 : decode prog_2_method_3_code 15 = .ok (.getfield 9, 3) := by decide +kernel
theorem d_Decl_put_18 : decode prog_2_method_3_code 18 = .ok (.arraylength, 1) := by decide +kernel
theorem d_Decl_put_19 : decode prog_2_method_3_code 19 = .ok (.if_icmp .lt 5, 3) := by decide +kernel
theorem d_Decl_put_22 : decode prog_2_method_3_code 22 = .ok (.iconst 0, 1) := by decide +kernel
theorem d_Decl_put_23 : decode prog_2_method_3_code 23 = .ok (.ireturn, 1) := by decide +kernel
theorem d_Decl_put_24 : decode prog_2_method_3_code 24 = .ok (.aload_n 0, 1) := by decide +kernel
theorem d_Decl_put_25 : decode prog_2_method_3_code 25 = .ok (.getfield 9, 3) := by decide +kernel
theorem d_Decl_put_28 : decode prog_2_method_3_code 28 = .ok (.iload 4, 2) := by decide +kernel
theorem d_Decl_put_30 : decode prog_2_method_3_code 30 = .ok (.iload_n 3, 1) := by decide +kernel
theorem d_Decl_put_31 : decode prog_2_method_3_code 31 = .ok (.iastore, 1) := by decide +kernel
theorem d_Decl_put_32 : decode prog_2_method_3_code 32 = .ok (.iconst 1, 1) := by decide +kernel
theorem d_Decl_put_33 : decode prog_2_method_3_code 33 = .ok (.ireturn, 1) := by decide +kernel
set_option maxHeartbeats 4000000 in
set_option maxRecDepth 100000 in
theorem c_Decl_put {dc va : Nat} {v : Nat → Int32} (hP : zP b0 N f [(dc, oDecl va), (va, aI ck 200 v)]) {fd ln x : Int32} : zK l D ck ad b0 y_Decl_put prog_2_method_3_code 5 ((some FieldType.boolean)) 1 0 0 [.ref dc, .int fd, .int ln, .int x] N f (fun r N' f' => if dsl fd ln < 0 then (r = some (.int 0) ∧ N = N' ∧ f = f') else (r = some (.int 1) ∧ N = N' ∧ f' = va_up f va (aI ck 200 (upd v (dsl fd ln).toNatClampNeg x)))) := by
  refine zM.of zG_w (by decide) (Nat.le_of_ble_eq_true rfl) ?_
  intro zp ze zst zm zar zbe zme zc X hnm hb0
  refine z_iload_n X d_Decl_put_0 rfl ?_
  refine z_iload_n X d_Decl_put_1 rfl ?_
  refine z_callS X zG_ok (c_Decl_slotOf (f := f)) d_Decl_put_2 ⟨(z_cb (n := 2) X.2.2.2.2.1 ml_Decl_22 mc_Decl_slotOf ini_Decl (by decide +kernel) rfl rfl ⟨Nat.le_of_ble_eq_true rfl, Nat.le_of_ble_eq_true rfl⟩), X.2.2.2.2.1 _ st_Decl_slotOf⟩ rfl rfl (Nat.le_of_ble_eq_true rfl) ⟨Nat.le_of_ble_eq_true rfl, Nat.le_of_ble_eq_true rfl⟩ (fun r N1 f1 hp hN1 => ?_)
  obtain ⟨rfl, rfl, rfl⟩ := hp
  refine z_istore X d_Decl_put_5 (by decide) rfl ?_
  refine z_iload X d_Decl_put_7 rfl ?_
  refine z_if_lt X 22 d_Decl_put_9 (by decide) (fun h9 => ?_) (fun h9 => ?_)
  · skip
    refine z_iconst X d_Decl_put_22 (v := 0) (by decide) ?_
    exact z_zret X d_Decl_put_23 rfl (by rw [if_pos h9]; exact ⟨rfl, rfl, rfl⟩)
  · skip
    refine z_iload X d_Decl_put_12 rfl ?_
    refine z_aload_n X d_Decl_put_14 rfl ?_
    refine z_get X d_Decl_put_15 (hP.lo 0 rfl) (hP.at 0 rfl) cl_Decl in_Decl 0 (by decide) fl_Decl_9 rfl rfl ?_
    refine z_alen X d_Decl_put_18 (hP.lo 1 rfl) (hP.at 1 rfl) (t0 := 0) rfl rfl ?_
    refine z_icmp_lt X 24 d_Decl_put_19 (by decide) (fun h19 => ?_) (fun h19 => ?_)
    · skip
      refine z_aload_n X d_Decl_put_24 rfl ?_
      refine z_get X d_Decl_put_25 (hP.lo 0 rfl) (hP.at 0 rfl) cl_Decl in_Decl 0 (by decide) fl_Decl_9 rfl rfl ?_
      refine z_iload X d_Decl_put_28 rfl ?_
      refine z_iload_n X d_Decl_put_30 rfl ?_
      refine z_iastP X d_Decl_put_31 hP 1 rfl (t0 := 0) rfl (dsl_in h9) (fun hP => ?_)
      refine z_iconst X d_Decl_put_32 (v := 1) (by decide) ?_
      exact z_zret X d_Decl_put_33 rfl (by rw [if_neg h9]; exact ⟨rfl, rfl, rfl⟩)
    · skip
      exact absurd (by have q := vp_in_iff.mp (dsl_in h9); rw [Int32.lt_iff_toInt_lt]; exact q.2) h19
theorem d_Decl_sumOf_0 : decode prog_2_method_5_code 0 = .ok (.iconst 0, 1) := by decide +kernel
theorem d_Decl_sumOf_1 : decode prog_2_method_5_code 1 = .ok (.istore_n 2, 1) := by decide +kernel
theorem d_Decl_sumOf_2 : decode prog_2_method_5_code 2 = .ok (.iconst 1, 1) := by decide +kernel
theorem d_Decl_sumOf_3 : decode prog_2_method_5_code 3 = .ok (.istore_n 3, 1) := by decide +kernel
theorem d_Decl_sumOf_4 : decode prog_2_method_5_code 4 = .ok (.iload_n 3, 1) := by decide +kernel
theorem d_Decl_sumOf_5 : decode prog_2_method_5_code 5 = .ok (.bipush 10, 2) := by decide +kernel
theorem d_Decl_sumOf_7 : decode prog_2_method_5_code 7 = .ok (.if_icmp .ge 33, 3) := by decide +kernel
theorem d_Decl_sumOf_10 : decode prog_2_method_5_code 10 = .ok (.aload_n 0, 1) := by decide +kernel
theorem d_Decl_sumOf_11 : decode prog_2_method_5_code 11 = .ok (.iload_n 1, 1) := by decide +kernel
theorem d_Decl_sumOf_12 : decode prog_2_method_5_code 12 = .ok (.iload_n 3, 1) := by decide +kernel
theorem d_Decl_sumOf_13 : decode prog_2_method_5_code 13 = .ok (.invokevirtual 26, 3) := by decide +kernel
theorem d_Decl_sumOf_16 : decode prog_2_method_5_code 16 = .ok (.istore 4, 2) := by decide +kernel
theorem d_Decl_sumOf_18 : decode prog_2_method_5_code 18 = .ok (.iload_n 2, 1) := by decide +kernel
theorem d_Decl_sumOf_19 : decode prog_2_method_5_code 19 = .ok (.iload 4, 2) := by decide +kernel
theorem d_Decl_sumOf_21 : decode prog_2_method_5_code 21 = .ok (.ldc 15, 2) := by decide +kernel
theorem d_Decl_sumOf_23 : decode prog_2_method_5_code 23 = .ok (.if_icmp .ne 7, 3) := by decide +kernel
theorem d_Decl_sumOf_26 : decode prog_2_method_5_code 26 = .ok (.iconst 0, 1) := by decide +kernel
theorem d_Decl_sumOf_27 : decode prog_2_method_5_code 27 = .ok (.goto 5, 3) := by decide +kernel
theorem d_Decl_sumOf_30 : decode prog_2_method_5_code 30 = .ok (.iload 4, 2) := by decide +kernel
theorem d_Decl_sumOf_32 : decode prog_2_method_5_code 32 = .ok (.iadd, 1) := by decide +kernel
theorem d_Decl_sumOf_33 : decode prog_2_method_5_code 33 = .ok (.istore_n 2, 1) := by decide +kernel
theorem d_Decl_sumOf_34 : decode prog_2_method_5_code 34 = .ok (.iinc 3 1, 3) := by decide +kernel
theorem d_Decl_sumOf_37 : decode prog_2_method_5_code 37 = .ok (.goto (-33), 3) := by decide +kernel
theorem d_Decl_sumOf_40 : decode prog_2_method_5_code 40 = .ok (.iload_n 2, 1) := by decide +kernel
theorem d_Decl_sumOf_41 : decode prog_2_method_5_code 41 = .ok (.ireturn, 1) := by decide +kernel
set_option maxHeartbeats 4000000 in
set_option maxRecDepth 100000 in
theorem c_Decl_sumOf {dc va : Nat} {v : Nat → Int32} (hP : zP b0 N f [(dc, oDecl va), (va, aI ck 200 v)]) {fd : Int32} : zK l D ck ad b0 y_Decl_sumOf prog_2_method_5_code 5 ((some FieldType.int)) 2 0 0 [.ref dc, .int fd] N f (fun r N' f' => r = some (.int (dsum v fd 9)) ∧ N = N' ∧ f = f') := by
  refine zM.of zG_w (by decide) (Nat.le_of_ble_eq_true rfl) ?_
  intro zp ze zst zm zar zbe zme zc X hnm hb0
  have L4 : ∀ (nn : Nat) (k : Nat), (k ≤ 9 ∧ k + nn = 10) → zW zp l ze (zR 2 0 0) zst zm zar zbe zme zc D zcl b0 5 0 0 (MQ zbe (zQ D zcl b0 (fun r N' f' => r = some (.int (dsum v fd 9)) ∧ N = N' ∧ f = f')) zar zst 0 0 (zA b0)) N f 4 [(0, .ref dc), (1, .int fd), (2, .int (dsum v fd k)), (3, .int (nI (k + 1)))] [] := by
    intro nn
    induction nn with
    | zero =>
      intro k hk
      omega
    | succ nn ih =>
      intro k hk
      refine z_iload_n X d_Decl_sumOf_4 rfl ?_
      refine z_bipush X d_Decl_sumOf_5 (v := 10) (by decide) ?_
      refine z_icmp_ge X 40 d_Decl_sumOf_7 (by decide) (fun h7 => ?_) (fun h7 => ?_)
      · skip
        have hk9 : k = 9 := by have := (nI_leI (a := 10) (b := k + 1) (by decide) (by omega)).mp h7; omega
        subst hk9
        refine z_iload_n X d_Decl_sumOf_40 rfl ?_
        exact z_iret X d_Decl_sumOf_41 ⟨rfl, rfl, rfl⟩
      · skip
        have hk9 : k < 9 := by
          rcases Nat.lt_or_ge k 9 with q | q
          · exact q
          · exact absurd (nI_le (a := 10) (b := k + 1) (by omega) (by omega)) h7
        refine z_aload_n X d_Decl_sumOf_10 rfl ?_
        refine z_iload_n X d_Decl_sumOf_11 rfl ?_
        refine z_iload_n X d_Decl_sumOf_12 rfl ?_
        refine z_callV X zG_ok (c_Decl_valueOn hP) d_Decl_sumOf_13 ⟨(z_cb (n := 2) X.2.2.2.2.1 ml_Decl_26 mc_Decl_valueOn ini_Decl (by decide +kernel) rfl rfl ⟨Nat.le_of_ble_eq_true rfl, Nat.le_of_ble_eq_true rfl⟩), X.2.2.2.2.1 _ im_Decl_valueOn, X.2.2.2.2.1 _ sel_Decl_valueOn⟩ (hP.lo 0 rfl) (hP.at 0 rfl) cl_Decl rfl rfl (Nat.le_of_ble_eq_true rfl) ⟨Nat.le_of_ble_eq_true rfl, Nat.le_of_ble_eq_true rfl⟩ (fun r N1 f1 hp hN1 => ?_)
        obtain ⟨rfl, rfl, rfl⟩ := hp
        refine z_istore X d_Decl_sumOf_16 (by decide) rfl ?_
        refine z_iload_n X d_Decl_sumOf_18 rfl ?_
        refine z_iload X d_Decl_sumOf_19 rfl ?_
        refine z_ldc X d_Decl_sumOf_21 k_Decl_15 ?_
        refine z_icmp_ne X 30 d_Decl_sumOf_23 (by decide) (fun h23 => ?_) (fun h23 => ?_)
        · skip
          refine z_iload X d_Decl_sumOf_30 rfl ?_
          refine z_iadd X d_Decl_sumOf_32 ?_
          refine z_istore_n X d_Decl_sumOf_33 (by decide) rfl ?_
          refine z_iinc X d_Decl_sumOf_34 rfl (nI_1 _) (by decide) rfl ?_
          refine z_goto X 4 d_Decl_sumOf_37 (by decide) ?_
          refine zW.pick [0, 1, 2, 3] (lv' := [(0, .ref dc), (1, .int fd), (2, .int (dsum v fd (k + 1))), (3, .int (nI (k + 2)))]) (by first | (rw [dsum, if_pos h23]; rfl) | (rw [dsum, if_neg h23]; rfl)) ?_
          exact ih (k + 1) (by omega)
        · skip
          refine z_iconst X d_Decl_sumOf_26 (v := 0) (by decide) ?_
          refine z_goto X 32 d_Decl_sumOf_27 (by decide) ?_
          refine z_iadd X d_Decl_sumOf_32 ?_
          refine z_istore_n X d_Decl_sumOf_33 (by decide) rfl ?_
          refine z_iinc X d_Decl_sumOf_34 rfl (nI_1 _) (by decide) rfl ?_
          refine z_goto X 4 d_Decl_sumOf_37 (by decide) ?_
          refine zW.pick [0, 1, 2, 3] (lv' := [(0, .ref dc), (1, .int fd), (2, .int (dsum v fd (k + 1))), (3, .int (nI (k + 2)))]) (by first | (rw [dsum, if_pos h23]; rfl) | (rw [dsum, if_neg h23]; rfl)) ?_
          exact ih (k + 1) (by omega)
  refine z_iconst X d_Decl_sumOf_0 (v := 0) (by decide) ?_
  refine z_istore_n X d_Decl_sumOf_1 (by decide) rfl ?_
  refine z_iconst X d_Decl_sumOf_2 (v := 1) (by decide) ?_
  refine z_istore_n X d_Decl_sumOf_3 (by decide) rfl ?_
  exact L4 10 0 (by omega)
theorem d_Decl_countOf_0 : decode prog_2_method_6_code 0 = .ok (.iconst 0, 1) := by decide +kernel
theorem d_Decl_countOf_1 : decode prog_2_method_6_code 1 = .ok (.istore_n 2, 1) := by decide +kernel
theorem d_Decl_countOf_2 : decode prog_2_method_6_code 2 = .ok (.iconst 1, 1) := by decide +kernel
theorem d_Decl_countOf_3 : decode prog_2_method_6_code 3 = .ok (.istore_n 3, 1) := by decide +kernel
theorem d_Decl_countOf_4 : decode prog_2_method_6_code 4 = .ok (.iload_n 3, 1) := by decide +kernel
theorem d_Decl_countOf_5 : decode prog_2_method_6_code 5 = .ok (.bipush 10, 2) := by decide +kernel
theorem d_Decl_countOf_7 : decode prog_2_method_6_code 7 = .ok (.if_icmp .ge 28, 3) := by decide +kernel
theorem d_Decl_countOf_10 : decode prog_2_method_6_code 10 = .ok (.iload_n 2, 1) := by decide +kernel
theorem d_Decl_countOf_11 : decode prog_2_method_6_code 11 = .ok (.aload_n 0, 1) := by decide +kernel
theorem d_Decl_countOf_12 : decode prog_2_method_6_code 12 = .ok (.iload_n 1, 1) := by decide +kernel
theorem d_Decl_countOf_13 : decode prog_2_method_6_code 13 = .ok (.iload_n 3, 1) := by decide +kernel
theorem d_Decl_countOf_14 : decode prog_2_method_6_code 14 = .ok (.invokevirtual 26, 3) := by decide +kernel
theorem d_Decl_countOf_17 : decode prog_2_method_6_code 17 = .ok (.ldc 15, 2) := by decide +kernel
theorem d_Decl_countOf_19 : decode prog_2_method_6_code 19 = .ok (.if_icmp .ne 7, 3) := by decide +kernel
theorem d_Decl_countOf_22 : decode prog_2_method_6_code 22 = .ok (.iconst 0, 1) := by decide +kernel
theorem d_Decl_countOf_23 : decode prog_2_method_6_code 23 = .ok (.goto 4, 3) := by decide +kernel
theorem d_Decl_countOf_26 : decode prog_2_method_6_code 26 = .ok (.iconst 1, 1) := by decide +kernel
theorem d_Decl_countOf_27 : decode prog_2_method_6_code 27 = .ok (.iadd, 1) := by decide +kernel
theorem d_Decl_countOf_28 : decode prog_2_method_6_code 28 = .ok (.istore_n 2, 1) := by decide +kernel
theorem d_Decl_countOf_29 : decode prog_2_method_6_code 29 = .ok (.iinc 3 1, 3) := by decide +kernel
theorem d_Decl_countOf_32 : decode prog_2_method_6_code 32 = .ok (.goto (-28), 3) := by decide +kernel
theorem d_Decl_countOf_35 : decode prog_2_method_6_code 35 = .ok (.iload_n 2, 1) := by decide +kernel
theorem d_Decl_countOf_36 : decode prog_2_method_6_code 36 = .ok (.ireturn, 1) := by decide +kernel
set_option maxHeartbeats 4000000 in
set_option maxRecDepth 100000 in
theorem c_Decl_countOf {dc va : Nat} {v : Nat → Int32} (hP : zP b0 N f [(dc, oDecl va), (va, aI ck 200 v)]) {fd : Int32} : zK l D ck ad b0 y_Decl_countOf prog_2_method_6_code 4 ((some FieldType.int)) 2 0 0 [.ref dc, .int fd] N f (fun r N' f' => r = some (.int (dcnt v fd 9)) ∧ N = N' ∧ f = f') := by
  refine zM.of zG_w (by decide) (Nat.le_of_ble_eq_true rfl) ?_
  intro zp ze zst zm zar zbe zme zc X hnm hb0
  have L4 : ∀ (nn : Nat) (k : Nat), (k ≤ 9 ∧ k + nn = 10) → zW zp l ze (zR 2 0 0) zst zm zar zbe zme zc D zcl b0 4 0 0 (MQ zbe (zQ D zcl b0 (fun r N' f' => r = some (.int (dcnt v fd 9)) ∧ N = N' ∧ f = f')) zar zst 0 0 (zA b0)) N f 4 [(0, .ref dc), (1, .int fd), (2, .int (dcnt v fd k)), (3, .int (nI (k + 1)))] [] := by
    intro nn
    induction nn with
    | zero =>
      intro k hk
      omega
    | succ nn ih =>
      intro k hk
      refine z_iload_n X d_Decl_countOf_4 rfl ?_
      refine z_bipush X d_Decl_countOf_5 (v := 10) (by decide) ?_
      refine z_icmp_ge X 35 d_Decl_countOf_7 (by decide) (fun h7 => ?_) (fun h7 => ?_)
      · skip
        have hk9 : k = 9 := by have := (nI_leI (a := 10) (b := k + 1) (by decide) (by omega)).mp h7; omega
        subst hk9
        refine z_iload_n X d_Decl_countOf_35 rfl ?_
        exact z_iret X d_Decl_countOf_36 ⟨rfl, rfl, rfl⟩
      · skip
        have hk9 : k < 9 := by
          rcases Nat.lt_or_ge k 9 with q | q
          · exact q
          · exact absurd (nI_le (a := 10) (b := k + 1) (by omega) (by omega)) h7
        refine z_iload_n X d_Decl_countOf_10 rfl ?_
        refine z_aload_n X d_Decl_countOf_11 rfl ?_
        refine z_iload_n X d_Decl_countOf_12 rfl ?_
        refine z_iload_n X d_Decl_countOf_13 rfl ?_
        refine z_callV X zG_ok (c_Decl_valueOn hP) d_Decl_countOf_14 ⟨(z_cb (n := 2) X.2.2.2.2.1 ml_Decl_26 mc_Decl_valueOn ini_Decl (by decide +kernel) rfl rfl ⟨Nat.le_of_ble_eq_true rfl, Nat.le_of_ble_eq_true rfl⟩), X.2.2.2.2.1 _ im_Decl_valueOn, X.2.2.2.2.1 _ sel_Decl_valueOn⟩ (hP.lo 0 rfl) (hP.at 0 rfl) cl_Decl rfl rfl (Nat.le_of_ble_eq_true rfl) ⟨Nat.le_of_ble_eq_true rfl, Nat.le_of_ble_eq_true rfl⟩ (fun r N1 f1 hp hN1 => ?_)
        obtain ⟨rfl, rfl, rfl⟩ := hp
        refine z_ldc X d_Decl_countOf_17 k_Decl_15 ?_
        refine z_icmp_ne X 26 d_Decl_countOf_19 (by decide) (fun h19 => ?_) (fun h19 => ?_)
        · skip
          refine z_iconst X d_Decl_countOf_26 (v := 1) (by decide) ?_
          refine z_iadd X d_Decl_countOf_27 ?_
          refine z_istore_n X d_Decl_countOf_28 (by decide) rfl ?_
          refine z_iinc X d_Decl_countOf_29 rfl (nI_1 _) (by decide) rfl ?_
          refine z_goto X 4 d_Decl_countOf_32 (by decide) ?_
          refine zW.pick [0, 1, 2, 3] (lv' := [(0, .ref dc), (1, .int fd), (2, .int (dcnt v fd (k + 1))), (3, .int (nI (k + 2)))]) (by first | (rw [dcnt, if_pos h19]; rfl) | (rw [dcnt, if_neg h19]; rfl)) ?_
          exact ih (k + 1) (by omega)
        · skip
          refine z_iconst X d_Decl_countOf_22 (v := 0) (by decide) ?_
          refine z_goto X 27 d_Decl_countOf_23 (by decide) ?_
          refine z_iadd X d_Decl_countOf_27 ?_
          refine z_istore_n X d_Decl_countOf_28 (by decide) rfl ?_
          refine z_iinc X d_Decl_countOf_29 rfl (nI_1 _) (by decide) rfl ?_
          refine z_goto X 4 d_Decl_countOf_32 (by decide) ?_
          refine zW.pick [0, 1, 2, 3] (lv' := [(0, .ref dc), (1, .int fd), (2, .int (dcnt v fd (k + 1))), (3, .int (nI (k + 2)))]) (by first | (rw [dcnt, if_pos h19]; rfl) | (rw [dcnt, if_neg h19]; rfl)) ?_
          exact ih (k + 1) (by omega)
  refine z_iconst X d_Decl_countOf_0 (v := 0) (by decide) ?_
  refine z_istore_n X d_Decl_countOf_1 (by decide) rfl ?_
  refine z_iconst X d_Decl_countOf_2 (v := 1) (by decide) ?_
  refine z_istore_n X d_Decl_countOf_3 (by decide) rfl ?_
  exact L4 10 0 (by omega)
theorem d_Decl_lineBits_0 : decode prog_2_method_7_code 0 = .ok (.iconst 0, 1) := by decide +kernel
theorem d_Decl_lineBits_1 : decode prog_2_method_7_code 1 = .ok (.istore_n 1, 1) := by decide +kernel
theorem d_Decl_lineBits_2 : decode prog_2_method_7_code 2 = .ok (.iconst 1, 1) := by decide +kernel
theorem d_Decl_lineBits_3 : decode prog_2_method_7_code 3 = .ok (.istore_n 2, 1) := by decide +kernel
theorem d_Decl_lineBits_4 : decode prog_2_method_7_code 4 = .ok (.iload_n 2, 1) := by decide +kernel
theorem d_Decl_lineBits_5 : decode prog_2_method_7_code 5 = .ok (.bipush 10, 2) := by decide +kernel
theorem d_Decl_lineBits_7 : decode prog_2_method_7_code 7 = .ok (.if_icmp .ge 40, 3) := by decide +kernel
theorem d_Decl_lineBits_10 : decode prog_2_method_7_code 10 = .ok (.iconst 0, 1) := by decide +kernel
theorem d_Decl_lineBits_11 : decode prog_2_method_7_code 11 = .ok (.istore_n 3, 1) := by decide +kernel
theorem d_Decl_lineBits_12 : decode prog_2_method_7_code 12 = .ok (.iload_n 3, 1) := by decide +kernel
theorem d_Decl_lineBits_13 : decode prog_2_method_7_code 13 = .ok (.bipush 20, 2) := by decide +kernel
theorem d_Decl_lineBits_15 : decode prog_2_method_7_code 15 = .ok (.if_icmp .ge 26, 3) := by decide +kernel
theorem d_Decl_lineBits_18 : decode prog_2_method_7_code 18 = .ok (.aload_n 0, 1) := by decide +kernel
theorem d_Decl_lineBits_19 : decode prog_2_method_7_code 19 = .ok (.iload_n 3, 1) := by decide +kernel
theorem d_Decl_lineBits_20 : decode prog_2_method_7_code 20 = .ok (.iload_n 2, 1) := by decide +kernel
theorem d_Decl_lineBits_21 : decode prog_2_method_7_code 21 = .ok (.invokevirtual 26, 3) := by decide +kernel
theorem d_Decl_lineBits_24 : decode prog_2_method_7_code 24 = .ok (.ldc 15, 2) := by decide +kernel
theorem d_Decl_lineBits_26 : decode prog_2_method_7_code 26 = .ok (.if_icmp .eq 9, 3) := by decide +kernel
theorem d_Decl_lineBits_29 : decode prog_2_method_7_code 29 = .ok (.iload_n 1, 1) := by decide +kernel
theorem d_Decl_lineBits_30 : decode prog_2_method_7_code 30 = .ok (.iconst 1, 1) := by decide +kernel
theorem d_Decl_lineBits_31 : decode prog_2_method_7_code 31 = .ok (.iload_n 2, 1) := by decide +kernel
theorem d_Decl_lineBits_32 : decode prog_2_method_7_code 32 = .ok (.ishl, 1) := by decide +kernel
theorem d_Decl_lineBits_33 : decode prog_2_method_7_code 33 = .ok (.ior, 1) := by decide +kernel
theorem d_Decl_lineBits_34 : decode prog_2_method_7_code 34 = .ok (.istore_n 1, 1) := by decide +kernel
theorem d_Decl_lineBits_35 : decode prog_2_method_7_code 35 = .ok (.iinc 3 1, 3) := by decide +kernel
theorem d_Decl_lineBits_38 : decode prog_2_method_7_code 38 = .ok (.goto (-26), 3) := by decide +kernel
theorem d_Decl_lineBits_41 : decode prog_2_method_7_code 41 = .ok (.iinc 2 1, 3) := by decide +kernel
theorem d_Decl_lineBits_44 : decode prog_2_method_7_code 44 = .ok (.goto (-40), 3) := by decide +kernel
theorem d_Decl_lineBits_47 : decode prog_2_method_7_code 47 = .ok (.iload_n 1, 1) := by decide +kernel
theorem d_Decl_lineBits_48 : decode prog_2_method_7_code 48 = .ok (.ireturn, 1) := by decide +kernel
set_option maxHeartbeats 4000000 in
set_option maxRecDepth 100000 in
theorem c_Decl_lineBits {dc va : Nat} {v : Nat → Int32} (hP : zP b0 N f [(dc, oDecl va), (va, aI ck 200 v)]) : zK l D ck ad b0 y_Decl_lineBits prog_2_method_7_code 4 ((some FieldType.int)) 2 0 0 [.ref dc] N f (fun r N' f' => r = some (.int (dbits v 9)) ∧ N = N' ∧ f = f') := by
  refine zM.of zG_w (by decide) (Nat.le_of_ble_eq_true rfl) ?_
  intro zp ze zst zm zar zbe zme zc X hnm hb0
  have L12 : ∀ (nn : Nat) (j ln : Nat) (bits : Int32), (j ≤ 20 ∧ j + nn = 21) → (zW zp l ze (zR 2 0 0) zst zm zar zbe zme zc D zcl b0 4 0 0 (MQ zbe (zQ D zcl b0 (fun r N' f' => r = some (.int (dbits v 9)) ∧ N = N' ∧ f = f')) zar zst 0 0 (zA b0)) N f 41 [(0, .ref dc), (1, .int (dbit v ln bits 20)), (2, .int (nI ln)), (3, .int (nI 20))] []) → zW zp l ze (zR 2 0 0) zst zm zar zbe zme zc D zcl b0 4 0 0 (MQ zbe (zQ D zcl b0 (fun r N' f' => r = some (.int (dbits v 9)) ∧ N = N' ∧ f = f')) zar zst 0 0 (zA b0)) N f 12 [(0, .ref dc), (1, .int (dbit v ln bits j)), (2, .int (nI ln)), (3, .int (nI j))] [] := by
    intro nn
    induction nn with
    | zero =>
      intro j ln bits hj0 hex
      omega
    | succ nn ih =>
      intro j ln bits hj0 hex
      refine z_iload_n X d_Decl_lineBits_12 rfl ?_
      refine z_bipush X d_Decl_lineBits_13 (v := 20) (by decide) ?_
      refine z_icmp_ge X 41 d_Decl_lineBits_15 (by decide) (fun h15 => ?_) (fun h15 => ?_)
      · skip
        have hj : j = 20 := by have := (nI_leI (a := 20) (b := j) (by decide) (by omega)).mp h15; omega
        subst hj
        exact hex
      · skip
        have hj : j < 20 := by
          rcases Nat.lt_or_ge j 20 with q | q
          · exact q
          · exact absurd (nI_le (a := 20) (b := j) (by omega) (by omega)) h15
        refine z_aload_n X d_Decl_lineBits_18 rfl ?_
        refine z_iload_n X d_Decl_lineBits_19 rfl ?_
        refine z_iload_n X d_Decl_lineBits_20 rfl ?_
        refine z_callV X zG_ok (c_Decl_valueOn hP) d_Decl_lineBits_21 ⟨(z_cb (n := 2) X.2.2.2.2.1 ml_Decl_26 mc_Decl_valueOn ini_Decl (by decide +kernel) rfl rfl ⟨Nat.le_of_ble_eq_true rfl, Nat.le_of_ble_eq_true rfl⟩), X.2.2.2.2.1 _ im_Decl_valueOn, X.2.2.2.2.1 _ sel_Decl_valueOn⟩ (hP.lo 0 rfl) (hP.at 0 rfl) cl_Decl rfl rfl (Nat.le_of_ble_eq_true rfl) ⟨Nat.le_of_ble_eq_true rfl, Nat.le_of_ble_eq_true rfl⟩ (fun r N1 f1 hp hN1 => ?_)
        obtain ⟨rfl, rfl, rfl⟩ := hp
        refine z_ldc X d_Decl_lineBits_24 k_Decl_15 ?_
        refine z_icmp_eq X 35 d_Decl_lineBits_26 (by decide) (fun h26 => ?_) (fun h26 => ?_)
        · skip
          refine z_iinc X d_Decl_lineBits_35 rfl (nI_1 _) (by decide) rfl ?_
          refine z_goto X 12 d_Decl_lineBits_38 (by decide) ?_
          refine zW.pick [0, 1, 2, 3] (lv' := [(0, .ref dc), (1, .int (dbit v ln bits (j + 1))), (2, .int (nI ln)), (3, .int (nI (j + 1)))]) (by first | (rw [dbit, if_pos h26]; rfl) | (rw [dbit, if_neg h26]; rfl)) ?_
          exact ih (j + 1) ln bits (by omega) hex
        · skip
          refine z_iload_n X d_Decl_lineBits_29 rfl ?_
          refine z_iconst X d_Decl_lineBits_30 (v := 1) (by decide) ?_
          refine z_iload_n X d_Decl_lineBits_31 rfl ?_
          refine z_ishl X d_Decl_lineBits_32 ?_
          refine z_ior X d_Decl_lineBits_33 ?_
          refine z_istore_n X d_Decl_lineBits_34 (by decide) rfl ?_
          refine z_iinc X d_Decl_lineBits_35 rfl (nI_1 _) (by decide) rfl ?_
          refine z_goto X 12 d_Decl_lineBits_38 (by decide) ?_
          refine zW.pick [0, 1, 2, 3] (lv' := [(0, .ref dc), (1, .int (dbit v ln bits (j + 1))), (2, .int (nI ln)), (3, .int (nI (j + 1)))]) (by first | (rw [dbit, if_pos h26]; rfl) | (rw [dbit, if_neg h26]; rfl)) ?_
          exact ih (j + 1) ln bits (by omega) hex
  have L4 : ∀ (nn : Nat) (k : Nat), (k ≤ 9 ∧ k + nn = 10) → zW zp l ze (zR 2 0 0) zst zm zar zbe zme zc D zcl b0 4 0 0 (MQ zbe (zQ D zcl b0 (fun r N' f' => r = some (.int (dbits v 9)) ∧ N = N' ∧ f = f')) zar zst 0 0 (zA b0)) N f 4 [(0, .ref dc), (1, .int (dbits v k)), (2, .int (nI (k + 1)))] [] := by
    intro nn
    induction nn with
    | zero =>
      intro k hk
      omega
    | succ nn ih =>
      intro k hk
      refine z_iload_n X d_Decl_lineBits_4 rfl ?_
      refine z_bipush X d_Decl_lineBits_5 (v := 10) (by decide) ?_
      refine z_icmp_ge X 47 d_Decl_lineBits_7 (by decide) (fun h7 => ?_) (fun h7 => ?_)
      · skip
        have hk9 : k = 9 := by have := (nI_leI (a := 10) (b := k + 1) (by decide) (by omega)).mp h7; omega
        subst hk9
        refine z_iload_n X d_Decl_lineBits_47 rfl ?_
        exact z_iret X d_Decl_lineBits_48 ⟨rfl, rfl, rfl⟩
      · skip
        have hk9 : k < 9 := by
          rcases Nat.lt_or_ge k 9 with q | q
          · exact q
          · exact absurd (nI_le (a := 10) (b := k + 1) (by omega) (by omega)) h7
        refine z_iconst X d_Decl_lineBits_10 (v := 0) (by decide) ?_
        refine z_istore_n X d_Decl_lineBits_11 (by decide) rfl ?_
        refine L12 21 0 (k + 1) (dbits v k) (by omega) ?_
        refine z_iinc X d_Decl_lineBits_41 rfl (nI_1 _) (by decide) rfl ?_
        refine z_goto X 4 d_Decl_lineBits_44 (by decide) ?_
        refine zW.pick [0, 1, 2] (lv' := [(0, .ref dc), (1, .int (dbits v (k + 1))), (2, .int (nI (k + 2)))]) rfl ?_
        exact ih (k + 1) (by omega)
  refine z_iconst X d_Decl_lineBits_0 (v := 0) (by decide) ?_
  refine z_istore_n X d_Decl_lineBits_1 (by decide) rfl ?_
  refine z_iconst X d_Decl_lineBits_2 (v := 1) (by decide) ?_
  refine z_istore_n X d_Decl_lineBits_3 (by decide) rfl ?_
  exact L4 10 0 (by omega)
end
end
section
theorem zP.eq {b0 N : Nat} {f : Nat → va_E} {ws ws' : va_W} (h : zP b0 N f ws) (e : ws = ws') : zP b0 N f ws' := e ▸ h
theorem zb_t {c : Prop} [Decidable c] (h : ¬ (if c then (1 : Int32) else 0) = 0) : c := by
  by_cases q : c
  · exact q
  · rw [if_neg q] at h; exact absurd rfl h
theorem zb_f {c : Prop} [Decidable c] (h : (if c then (1 : Int32) else 0) = 0) : ¬ c := by
  intro q
  rw [if_pos q] at h
  exact absurd h (by decide)
theorem zin {i : Int32} {u n : Nat} (h0 : ¬ i < 0) (h1 : ¬ nI u ≤ i) (hu : u ≤ n) (hn : n < 2 ^ 31) : vp_in i n := by
  rw [vp_in_iff]
  have a1 := Int32.not_lt.mp h0
  rw [Int32.le_iff_toInt_le] at a1
  have a2 := Int32.not_le.mp h1
  rw [Int32.lt_iff_toInt_lt, nI_toInt (by omega)] at a2
  simp at a1
  omega
theorem sgv_nI {g : Nat → Int32} {u j : Nat} (h : j < u) (hu : u < 2 ^ 31) : sgv g u (nI j) = g j := by
  rw [sgv, if_neg (nI_pos (by omega)), if_neg (nI_ge h hu), nI_clamp (by omega)]
theorem sgv_out {g : Nat → Int32} {u j : Nat} (h : u ≤ j) (hu : j < 2 ^ 31) : sgv g u (nI j) = -1 := by
  rw [sgv, if_neg (nI_pos (by omega)), if_pos (nI_le h hu)]
theorem sgv_m1 {g : Nat → Int32} {u : Nat} : sgv g u (-1) = -1 := by rw [sgv, if_pos (by decide)]
abbrev oTre (ka va ra : Nat) (u : Nat) : va_E := .inr (5, [.ref ka, .ref va, .ref ra, .int (nI u)])
/-- a tree's cells: the object, kinds, values, rights; n places, u of them used -/
abbrev wTre (ck : Nat → ClassId) (tr ka va ra n : Nat) (K V R : Nat → Int32) (u : Nat) : va_W := [(tr, oTre ka va ra u), (ka, aI ck n K), (va, aI ck n V), (ra, aI ck n R)]
/-- Tree.has -/
def thas (u : Nat) (i : Int32) : Bool := !decide (i < 0) && !decide (nI u ≤ i)
theorem thas_iff {u : Nat} {i : Int32} : thas u i = true ↔ ¬ i < 0 ∧ ¬ nI u ≤ i := by simp [thas]
theorem thas_no {u : Nat} {i : Int32} (h : ¬ thas u i = true) (g : Nat → Int32) : sgv g u i = -1 := by
  rw [thas_iff] at h
  by_cases q : i < 0
  · rw [sgv, if_pos q]
  · by_cases q2 : nI u ≤ i
    · rw [sgv, if_neg q, if_pos q2]
    · exact absurd ⟨q, q2⟩ h
theorem thas_yes {u : Nat} {i : Int32} (h : thas u i = true) (g : Nat → Int32) : sgv g u i = g i.toNatClampNeg := by
  obtain ⟨q, q2⟩ := thas_iff.mp h
  rw [sgv, if_neg q, if_neg q2]
def tleft (K : Nat → Int32) (u : Nat) (i : Int32) : Int32 := if thas u i = true then (if 10 < K i.toNatClampNeg then -1 else i + 1) else -1
/-- Tree.names, over the first k nodes -/
def tnames (K V : Nat → Int32) (fd : Int32) : Nat → Bool
  | 0 => false
  | k + 1 => tnames K V fd k || (!decide (K k < 12) && decide (V k = fd))
theorem tnames_up {K V : Nat → Int32} {fd : Int32} {j u : Nat} (h : tnames K V fd j = true) (hu : j ≤ u) : tnames K V fd u = true := by
  induction u with
  | zero => rw [show j = 0 by omega] at h; exact h
  | succ u ih =>
    by_cases e : j = u + 1
    · rw [← e]; exact h
    · simp [tnames, ih (by omega)]
/-- what an insertion at p makes of the rows: while it moves them (down to q), and at its end -/
def shK (K : Nat → Int32) (x : Int32) (u q : Nat) : Nat → Int32 := fun j => if q < j ∧ j ≤ u then K (j - 1) else if j = u then x else K j
def shR (R : Nat → Int32) (u q : Nat) : Nat → Int32 := fun j => if q < j ∧ j ≤ u then (if R (j - 1) = -1 then -1 else R (j - 1) + 1) else if j = u then -1 else R j
theorem shK_0 (K : Nat → Int32) (x : Int32) (u : Nat) : upd K u x = shK K x u u := by
  funext j
  by_cases h : j = u
  · subst h; simp [shK, upd]
  · simp [shK, upd, h]; intro a b; omega
theorem shR_0 (R : Nat → Int32) (u : Nat) : upd R u (-1) = shR R u u := by
  funext j
  by_cases h : j = u
  · subst h; simp [shR, upd]
  · simp [shR, upd, h]; intro a b; omega
theorem shK_s (K : Nat → Int32) (x : Int32) {u q : Nat} (h : q + 1 ≤ u) : upd (shK K x u (q + 1)) (q + 1) (shK K x u (q + 1) q) = shK K x u q := by
  funext j
  by_cases hj : j = q + 1
  · subst hj
    simp only [upd, if_true, shK]
    rw [if_neg (by omega), if_neg (by omega), if_pos (by omega)]
    rfl
  · simp only [upd, if_neg hj, shK]
    by_cases a : q < j ∧ j ≤ u
    · rw [if_pos a, if_pos (by omega)]
    · rw [if_neg a, if_neg (by omega)]
theorem shR_s (R : Nat → Int32) {u q : Nat} (h : q + 1 ≤ u) : upd (shR R u (q + 1)) (q + 1) (if shR R u (q + 1) q = -1 then -1 else shR R u (q + 1) q + 1) = shR R u q := by
  have e : shR R u (q + 1) q = R q := by
    simp only [shR]
    rw [if_neg (by omega), if_neg (by omega)]
  rw [e]
  funext j
  by_cases hj : j = q + 1
  · subst hj
    simp only [upd, if_true, shR]
    rw [if_pos (show q < q + 1 ∧ q + 1 ≤ u by omega)]
    rfl
  · simp only [upd, if_neg hj, shR]
    by_cases a : q < j ∧ j ≤ u
    · rw [if_pos a, if_pos (by omega)]
    · rw [if_neg a, if_neg (by omega)]
def insK (K : Nat → Int32) (u p : Nat) (x : Int32) : Nat → Int32 := upd (shK K x u p) p x
def insR (R : Nat → Int32) (u p : Nat) : Nat → Int32 := upd (shR R u p) p (nI (u + 1))
section
variable {l : Launch} {D : va_G} {ck : Nat → ClassId} {ad : (Nat → Nat) × (Nat → Nat)} {b0 N : Nat} {f : Nat → va_E}
theorem d_Tre_clear_0 : decode prog_7_method_4_code 0 = .ok (.aload_n 0, 1) := by decide +kernel
theorem d_Tre_clear_1 : decode prog_7_method_4_code 1 = .ok (.iconst 0, 1) := by decide +kernel
theorem d_Tre_clear_2 : decode prog_7_method_4_code 2 = .ok (.putfield 21, 3) := by decide +kernel
theorem d_Tre_clear_5 : decode prog_7_method_4_code 5 = .ok (.return_, 1) := by decide +kernel
set_option maxHeartbeats 4000000 in
set_option maxRecDepth 100000 in
theorem c_Tre_clear {tr ka va ra n u : Nat} {K V R : Nat → Int32} (hP : zP b0 N f (wTre ck tr ka va ra n K V R u)) : zK l D ck ad b0 y_Tre_clear prog_7_method_4_code 1 (none) 0 0 0 [.ref tr] N f (fun r N' f' => r = none ∧ N = N' ∧ f' = va_up f tr (oTre ka va ra 0)) := by
  refine zM.of zG_w (by decide) (Nat.le_of_ble_eq_true rfl) ?_
  intro zp ze zst zm zar zbe zme zc X hnm hb0
  refine z_aload_n X d_Tre_clear_0 rfl ?_
  refine z_iconst X d_Tre_clear_1 (v := 0) (by decide) ?_
  refine z_putP X t_Tre ty_Tre n_Tre d_Tre_clear_2 hP 0 rfl cl_Tre in_Tre 3 (by decide) fl_Tre_21 rfl rfl rfl rfl rfl (Nat.le_of_ble_eq_true rfl) (fun hP => ?_)
  exact z_vret X d_Tre_clear_5 ⟨rfl, rfl, rfl⟩
theorem d_Tre_size_0 : decode prog_7_method_5_code 0 = .ok (.aload_n 0, 1) := by decide +kernel
theorem d_Tre_size_1 : decode prog_7_method_5_code 1 = .ok (.getfield 21, 3) := by decide +kernel
theorem d_Tre_size_4 : decode prog_7_method_5_code 4 = .ok (.ireturn, 1) := by decide +kernel
set_option maxHeartbeats 4000000 in
set_option maxRecDepth 100000 in
theorem c_Tre_size {tr ka va ra n u : Nat} {K V R : Nat → Int32} (hP : zP b0 N f (wTre ck tr ka va ra n K V R u)) : zK l D ck ad b0 y_Tre_size prog_7_method_5_code 1 ((some FieldType.int)) 0 0 0 [.ref tr] N f (fun r N' f' => r = some (.int (nI u)) ∧ N = N' ∧ f = f') := by
  refine zM.of zG_w (by decide) (Nat.le_of_ble_eq_true rfl) ?_
  intro zp ze zst zm zar zbe zme zc X hnm hb0
  refine z_aload_n X d_Tre_size_0 rfl ?_
  refine z_get X d_Tre_size_1 (hP.lo 0 rfl) (hP.at 0 rfl) cl_Tre in_Tre 3 (by decide) fl_Tre_21 rfl rfl ?_
  exact z_iret X d_Tre_size_4 ⟨rfl, rfl, rfl⟩
theorem d_Tre_has_0 : decode prog_7_method_9_code 0 = .ok (.iload_n 1, 1) := by decide +kernel
theorem d_Tre_has_1 : decode prog_7_method_9_code 1 = .ok (.ifCond .lt 24, 3) := by decide +kernel
theorem d_Tre_has_4 : decode prog_7_method_9_code 4 = .ok (.iload_n 1, 1) := by decide +kernel
theorem d_Tre_has_5 : decode prog_7_method_9_code 5 = .ok (.aload_n 0, 1) := by decide +kernel
theorem d_Tre_has_6 : decode prog_7_method_9_code 6 = .ok (.getfield 21, 3) := by decide +kernel
theorem d_Tre_has_9 : decode prog_7_method_9_code 9 = .ok (.if_icmp .ge 16, 3) := by decide +kernel
theorem d_Tre_has_12 : decode prog_7_method_9_code 12 = .ok (.iload_n 1, 1) := by decide +kernel
theorem d_Tre_has_13 : decode prog_7_method_9_code 13 = .ok (.aload_n 0, 1) := by decide +kernel
theorem d_Tre_has_14 : decode prog_7_method_9_code 14 = .ok (.getfield 9, 3) := by decide +kernel
theorem d_Tre_has_17 : decode prog_7_method_9_code 17 = .ok (.arraylength, 1) := by decide +kernel
theorem d_Tre_has_18 : decode prog_7_method_9_code 18 = .ok (.if_icmp .ge 7, 3) := by decide +kernel
theorem d_Tre_has_21 : decode prog_7_method_9_code 21 = .ok (.iconst 1, 1) := by decide +kernel
theorem d_Tre_has_22 : decode prog_7_method_9_code 22 = .ok (.goto 4, 3) := by decide +kernel
theorem d_Tre_has_25 : decode prog_7_method_9_code 25 = .ok (.iconst 0, 1) := by decide +kernel
theorem d_Tre_has_26 : decode prog_7_method_9_code 26 = .ok (.ireturn, 1) := by decide +kernel
set_option maxHeartbeats 4000000 in
set_option maxRecDepth 100000 in
theorem c_Tre_has {tr ka va ra n u : Nat} {K V R : Nat → Int32} (hP : zP b0 N f (wTre ck tr ka va ra n K V R u)) (hu : u ≤ n) (hn : n ≤ 40) {i : Int32} : zK l D ck ad b0 y_Tre_has prog_7_method_9_code 2 ((some FieldType.boolean)) 0 0 0 [.ref tr, .int i] N f (fun r N' f' => r = some (.int (if thas u i = true then 1 else 0)) ∧ N = N' ∧ f = f') := by
  refine zM.of zG_w (by decide) (Nat.le_of_ble_eq_true rfl) ?_
  intro zp ze zst zm zar zbe zme zc X hnm hb0
  refine z_iload_n X d_Tre_has_0 rfl ?_
  refine z_if_lt X 25 d_Tre_has_1 (by decide) (fun h1 => ?_) (fun h1 => ?_)
  · skip
    refine z_iconst X d_Tre_has_25 (v := 0) (by decide) ?_
    exact z_zret X d_Tre_has_26 rfl ⟨by first | rw [if_pos (thas_iff.mpr ⟨h1, h9⟩)] | rw [if_neg (fun q => (thas_iff.mp q).1 h1)] | rw [if_neg (fun q => (thas_iff.mp q).2 h9)], rfl, rfl⟩
  · skip
    refine z_iload_n X d_Tre_has_4 rfl ?_
    refine z_aload_n X d_Tre_has_5 rfl ?_
    refine z_get X d_Tre_has_6 (hP.lo 0 rfl) (hP.at 0 rfl) cl_Tre in_Tre 3 (by decide) fl_Tre_21 rfl rfl ?_
    refine z_icmp_ge X 25 d_Tre_has_9 (by decide) (fun h9 => ?_) (fun h9 => ?_)
    · skip
      refine z_iconst X d_Tre_has_25 (v := 0) (by decide) ?_
      exact z_zret X d_Tre_has_26 rfl ⟨by first | rw [if_pos (thas_iff.mpr ⟨h1, h9⟩)] | rw [if_neg (fun q => (thas_iff.mp q).1 h1)] | rw [if_neg (fun q => (thas_iff.mp q).2 h9)], rfl, rfl⟩
    · skip
      refine z_iload_n X d_Tre_has_12 rfl ?_
      refine z_aload_n X d_Tre_has_13 rfl ?_
      refine z_get X d_Tre_has_14 (hP.lo 0 rfl) (hP.at 0 rfl) cl_Tre in_Tre 0 (by decide) fl_Tre_9 rfl rfl ?_
      refine z_alen X d_Tre_has_17 (hP.lo 1 rfl) (hP.at 1 rfl) (t0 := 0) rfl rfl ?_
      refine z_icmp_ge X 25 d_Tre_has_18 (by decide) (fun h18 => ?_) (fun h18 => ?_)
      · skip
        exact absurd (Int32.le_trans (nI_le hu (by omega)) h18) h9
      · skip
        refine z_iconst X d_Tre_has_21 (v := 1) (by decide) ?_
        refine z_goto X 26 d_Tre_has_22 (by decide) ?_
        exact z_zret X d_Tre_has_26 rfl ⟨by first | rw [if_pos (thas_iff.mpr ⟨h1, h9⟩)] | rw [if_neg (fun q => (thas_iff.mp q).1 h1)] | rw [if_neg (fun q => (thas_iff.mp q).2 h9)], rfl, rfl⟩
theorem d_Tre_kindOf_0 : decode prog_7_method_10_code 0 = .ok (.aload_n 0, 1) := by decide +kernel
theorem d_Tre_kindOf_1 : decode prog_7_method_10_code 1 = .ok (.iload_n 1, 1) := by decide +kernel
theorem d_Tre_kindOf_2 : decode prog_7_method_10_code 2 = .ok (.invokevirtual 38, 3) := by decide +kernel
theorem d_Tre_kindOf_5 : decode prog_7_method_10_code 5 = .ok (.ifCond .eq 12, 3) := by decide +kernel
theorem d_Tre_kindOf_8 : decode prog_7_method_10_code 8 = .ok (.aload_n 0, 1) := by decide +kernel
theorem d_Tre_kindOf_9 : decode prog_7_method_10_code 9 = .ok (.getfield 9, 3) := by decide +kernel
theorem d_Tre_kindOf_12 : decode prog_7_method_10_code 12 = .ok (.iload_n 1, 1) := by decide +kernel
theorem d_Tre_kindOf_13 : decode prog_7_method_10_code 13 = .ok (.iaload, 1) := by decide +kernel
theorem d_Tre_kindOf_14 : decode prog_7_method_10_code 14 = .ok (.goto 4, 3) := by decide +kernel
theorem d_Tre_kindOf_17 : decode prog_7_method_10_code 17 = .ok (.iconst (-1), 1) := by decide +kernel
theorem d_Tre_kindOf_18 : decode prog_7_method_10_code 18 = .ok (.ireturn, 1) := by decide +kernel
set_option maxHeartbeats 4000000 in
set_option maxRecDepth 100000 in
theorem c_Tre_kindOf {tr ka va ra n u : Nat} {K V R : Nat → Int32} (hP : zP b0 N f (wTre ck tr ka va ra n K V R u)) (hu : u ≤ n) (hn : n ≤ 40) {i : Int32} : zK l D ck ad b0 y_Tre_kindOf prog_7_method_10_code 2 ((some FieldType.int)) 1 0 0 [.ref tr, .int i] N f (fun r N' f' => r = some (.int (sgv K u i)) ∧ N = N' ∧ f = f') := by
  refine zM.of zG_w (by decide) (Nat.le_of_ble_eq_true rfl) ?_
  intro zp ze zst zm zar zbe zme zc X hnm hb0
  refine z_aload_n X d_Tre_kindOf_0 rfl ?_
  refine z_iload_n X d_Tre_kindOf_1 rfl ?_
  refine z_callV X zG_ok (c_Tre_has hP hu hn) d_Tre_kindOf_2 ⟨(z_cb (n := 1) X.2.2.2.2.1 ml_Tre_38 mc_Tre_has ini_Tre (by decide +kernel) rfl rfl ⟨Nat.le_of_ble_eq_true rfl, Nat.le_of_ble_eq_true rfl⟩), X.2.2.2.2.1 _ im_Tre_has, X.2.2.2.2.1 _ sel_Tre_has⟩ (hP.lo 0 rfl) (hP.at 0 rfl) cl_Tre rfl rfl (Nat.le_of_ble_eq_true rfl) ⟨Nat.le_of_ble_eq_true rfl, Nat.le_of_ble_eq_true rfl⟩ (fun r N1 f1 hp hN1 => ?_)
  obtain ⟨rfl, rfl, rfl⟩ := hp
  refine z_if_eq X 17 d_Tre_kindOf_5 (by decide) (fun h5 => ?_) (fun h5 => ?_)
  · skip
    refine z_iconst X d_Tre_kindOf_17 (v := -1) (by decide) ?_
    exact z_iret X d_Tre_kindOf_18 ⟨by first | rw [thas_yes (zb_t h5)] | rw [thas_no (zb_f h5)], rfl, rfl⟩
  · skip
    refine z_aload_n X d_Tre_kindOf_8 rfl ?_
    refine z_get X d_Tre_kindOf_9 (hP.lo 0 rfl) (hP.at 0 rfl) cl_Tre in_Tre 0 (by decide) fl_Tre_9 rfl rfl ?_
    refine z_iload_n X d_Tre_kindOf_12 rfl ?_
    refine z_iald X d_Tre_kindOf_13 (hP.lo 1 rfl) (hP.at 1 rfl) (t0 := 0) rfl (zin (thas_iff.mp (zb_t h5)).1 (thas_iff.mp (zb_t h5)).2 hu (by omega)) ?_
    refine z_goto X 18 d_Tre_kindOf_14 (by decide) ?_
    exact z_iret X d_Tre_kindOf_18 ⟨by first | rw [thas_yes (zb_t h5)] | rw [thas_no (zb_f h5)], rfl, rfl⟩
theorem d_Tre_valueOf_0 : decode prog_7_method_11_code 0 = .ok (.aload_n 0, 1) := by decide +kernel
theorem d_Tre_valueOf_1 : decode prog_7_method_11_code 1 = .ok (.iload_n 1, 1) := by decide +kernel
theorem d_Tre_valueOf_2 : decode prog_7_method_11_code 2 = .ok (.invokevirtual 38, 3) := by decide +kernel
theorem d_Tre_valueOf_5 : decode prog_7_method_11_code 5 = .ok (.ifCond .eq 12, 3) := by decide +kernel
theorem d_Tre_valueOf_8 : decode prog_7_method_11_code 8 = .ok (.aload_n 0, 1) := by decide +kernel
theorem d_Tre_valueOf_9 : decode prog_7_method_11_code 9 = .ok (.getfield 15, 3) := by decide +kernel
theorem d_Tre_valueOf_12 : decode prog_7_method_11_code 12 = .ok (.iload_n 1, 1) := by decide +kernel
theorem d_Tre_valueOf_13 : decode prog_7_method_11_code 13 = .ok (.iaload, 1) := by decide +kernel
theorem d_Tre_valueOf_14 : decode prog_7_method_11_code 14 = .ok (.goto 4, 3) := by decide +kernel
theorem d_Tre_valueOf_17 : decode prog_7_method_11_code 17 = .ok (.iconst (-1), 1) := by decide +kernel
theorem d_Tre_valueOf_18 : decode prog_7_method_11_code 18 = .ok (.ireturn, 1) := by decide +kernel
set_option maxHeartbeats 4000000 in
set_option maxRecDepth 100000 in
theorem c_Tre_valueOf {tr ka va ra n u : Nat} {K V R : Nat → Int32} (hP : zP b0 N f (wTre ck tr ka va ra n K V R u)) (hu : u ≤ n) (hn : n ≤ 40) {i : Int32} : zK l D ck ad b0 y_Tre_valueOf prog_7_method_11_code 2 ((some FieldType.int)) 1 0 0 [.ref tr, .int i] N f (fun r N' f' => r = some (.int (sgv V u i)) ∧ N = N' ∧ f = f') := by
  refine zM.of zG_w (by decide) (Nat.le_of_ble_eq_true rfl) ?_
  intro zp ze zst zm zar zbe zme zc X hnm hb0
  refine z_aload_n X d_Tre_valueOf_0 rfl ?_
  refine z_iload_n X d_Tre_valueOf_1 rfl ?_
  refine z_callV X zG_ok (c_Tre_has hP hu hn) d_Tre_valueOf_2 ⟨(z_cb (n := 1) X.2.2.2.2.1 ml_Tre_38 mc_Tre_has ini_Tre (by decide +kernel) rfl rfl ⟨Nat.le_of_ble_eq_true rfl, Nat.le_of_ble_eq_true rfl⟩), X.2.2.2.2.1 _ im_Tre_has, X.2.2.2.2.1 _ sel_Tre_has⟩ (hP.lo 0 rfl) (hP.at 0 rfl) cl_Tre rfl rfl (Nat.le_of_ble_eq_true rfl) ⟨Nat.le_of_ble_eq_true rfl, Nat.le_of_ble_eq_true rfl⟩ (fun r N1 f1 hp hN1 => ?_)
  obtain ⟨rfl, rfl, rfl⟩ := hp
  refine z_if_eq X 17 d_Tre_valueOf_5 (by decide) (fun h5 => ?_) (fun h5 => ?_)
  · skip
    refine z_iconst X d_Tre_valueOf_17 (v := -1) (by decide) ?_
    exact z_iret X d_Tre_valueOf_18 ⟨by first | rw [thas_yes (zb_t h5)] | rw [thas_no (zb_f h5)], rfl, rfl⟩
  · skip
    refine z_aload_n X d_Tre_valueOf_8 rfl ?_
    refine z_get X d_Tre_valueOf_9 (hP.lo 0 rfl) (hP.at 0 rfl) cl_Tre in_Tre 1 (by decide) fl_Tre_15 rfl rfl ?_
    refine z_iload_n X d_Tre_valueOf_12 rfl ?_
    refine z_iald X d_Tre_valueOf_13 (hP.lo 2 rfl) (hP.at 2 rfl) (t0 := 0) rfl (zin (thas_iff.mp (zb_t h5)).1 (thas_iff.mp (zb_t h5)).2 hu (by omega)) ?_
    refine z_goto X 18 d_Tre_valueOf_14 (by decide) ?_
    exact z_iret X d_Tre_valueOf_18 ⟨by first | rw [thas_yes (zb_t h5)] | rw [thas_no (zb_f h5)], rfl, rfl⟩
theorem d_Tre_rightOf_0 : decode prog_7_method_13_code 0 = .ok (.aload_n 0, 1) := by decide +kernel
theorem d_Tre_rightOf_1 : decode prog_7_method_13_code 1 = .ok (.iload_n 1, 1) := by decide +kernel
theorem d_Tre_rightOf_2 : decode prog_7_method_13_code 2 = .ok (.invokevirtual 38, 3) := by decide +kernel
theorem d_Tre_rightOf_5 : decode prog_7_method_13_code 5 = .ok (.ifCond .eq 12, 3) := by decide +kernel
theorem d_Tre_rightOf_8 : decode prog_7_method_13_code 8 = .ok (.aload_n 0, 1) := by decide +kernel
theorem d_Tre_rightOf_9 : decode prog_7_method_13_code 9 = .ok (.getfield 18, 3) := by decide +kernel
theorem d_Tre_rightOf_12 : decode prog_7_method_13_code 12 = .ok (.iload_n 1, 1) := by decide +kernel
theorem d_Tre_rightOf_13 : decode prog_7_method_13_code 13 = .ok (.iaload, 1) := by decide +kernel
theorem d_Tre_rightOf_14 : decode prog_7_method_13_code 14 = .ok (.goto 4, 3) := by decide +kernel
theorem d_Tre_rightOf_17 : decode prog_7_method_13_code 17 = .ok (.iconst (-1), 1) := by decide +kernel
theorem d_Tre_rightOf_18 : decode prog_7_method_13_code 18 = .ok (.ireturn, 1) := by decide +kernel
set_option maxHeartbeats 4000000 in
set_option maxRecDepth 100000 in
theorem c_Tre_rightOf {tr ka va ra n u : Nat} {K V R : Nat → Int32} (hP : zP b0 N f (wTre ck tr ka va ra n K V R u)) (hu : u ≤ n) (hn : n ≤ 40) {i : Int32} : zK l D ck ad b0 y_Tre_rightOf prog_7_method_13_code 2 ((some FieldType.int)) 1 0 0 [.ref tr, .int i] N f (fun r N' f' => r = some (.int (sgv R u i)) ∧ N = N' ∧ f = f') := by
  refine zM.of zG_w (by decide) (Nat.le_of_ble_eq_true rfl) ?_
  intro zp ze zst zm zar zbe zme zc X hnm hb0
  refine z_aload_n X d_Tre_rightOf_0 rfl ?_
  refine z_iload_n X d_Tre_rightOf_1 rfl ?_
  refine z_callV X zG_ok (c_Tre_has hP hu hn) d_Tre_rightOf_2 ⟨(z_cb (n := 1) X.2.2.2.2.1 ml_Tre_38 mc_Tre_has ini_Tre (by decide +kernel) rfl rfl ⟨Nat.le_of_ble_eq_true rfl, Nat.le_of_ble_eq_true rfl⟩), X.2.2.2.2.1 _ im_Tre_has, X.2.2.2.2.1 _ sel_Tre_has⟩ (hP.lo 0 rfl) (hP.at 0 rfl) cl_Tre rfl rfl (Nat.le_of_ble_eq_true rfl) ⟨Nat.le_of_ble_eq_true rfl, Nat.le_of_ble_eq_true rfl⟩ (fun r N1 f1 hp hN1 => ?_)
  obtain ⟨rfl, rfl, rfl⟩ := hp
  refine z_if_eq X 17 d_Tre_rightOf_5 (by decide) (fun h5 => ?_) (fun h5 => ?_)
  · skip
    refine z_iconst X d_Tre_rightOf_17 (v := -1) (by decide) ?_
    exact z_iret X d_Tre_rightOf_18 ⟨by first | rw [thas_yes (zb_t h5)] | rw [thas_no (zb_f h5)], rfl, rfl⟩
  · skip
    refine z_aload_n X d_Tre_rightOf_8 rfl ?_
    refine z_get X d_Tre_rightOf_9 (hP.lo 0 rfl) (hP.at 0 rfl) cl_Tre in_Tre 2 (by decide) fl_Tre_18 rfl rfl ?_
    refine z_iload_n X d_Tre_rightOf_12 rfl ?_
    refine z_iald X d_Tre_rightOf_13 (hP.lo 3 rfl) (hP.at 3 rfl) (t0 := 0) rfl (zin (thas_iff.mp (zb_t h5)).1 (thas_iff.mp (zb_t h5)).2 hu (by omega)) ?_
    refine z_goto X 18 d_Tre_rightOf_14 (by decide) ?_
    exact z_iret X d_Tre_rightOf_18 ⟨by first | rw [thas_yes (zb_t h5)] | rw [thas_no (zb_f h5)], rfl, rfl⟩
theorem d_Tre_leftOf_0 : decode prog_7_method_12_code 0 = .ok (.aload_n 0, 1) := by decide +kernel
theorem d_Tre_leftOf_1 : decode prog_7_method_12_code 1 = .ok (.iload_n 1, 1) := by decide +kernel
theorem d_Tre_leftOf_2 : decode prog_7_method_12_code 2 = .ok (.invokevirtual 38, 3) := by decide +kernel
theorem d_Tre_leftOf_5 : decode prog_7_method_12_code 5 = .ok (.ifCond .eq 20, 3) := by decide +kernel
theorem d_Tre_leftOf_8 : decode prog_7_method_12_code 8 = .ok (.aload_n 0, 1) := by decide +kernel
theorem d_Tre_leftOf_9 : decode prog_7_method_12_code 9 = .ok (.getfield 9, 3) := by decide +kernel
theorem d_Tre_leftOf_12 : decode prog_7_method_12_code 12 = .ok (.iload_n 1, 1) := by decide +kernel
theorem d_Tre_leftOf_13 : decode prog_7_method_12_code 13 = .ok (.iaload, 1) := by decide +kernel
theorem d_Tre_leftOf_14 : decode prog_7_method_12_code 14 = .ok (.bipush 10, 2) := by decide +kernel
theorem d_Tre_leftOf_16 : decode prog_7_method_12_code 16 = .ok (.if_icmp .gt 9, 3) := by decide +kernel
theorem d_Tre_leftOf_19 : decode prog_7_method_12_code 19 = .ok (.iload_n 1, 1) := by decide +kernel
theorem d_Tre_leftOf_20 : decode prog_7_method_12_code 20 = .ok (.iconst 1, 1) := by decide +kernel
theorem d_Tre_leftOf_21 : decode prog_7_method_12_code 21 = .ok (.iadd, 1) := by decide +kernel
theorem d_Tre_leftOf_22 : decode prog_7_method_12_code 22 = .ok (.goto 4, 3) := by decide +kernel
theorem d_Tre_leftOf_25 : decode prog_7_method_12_code 25 = .ok (.iconst (-1), 1) := by decide +kernel
theorem d_Tre_leftOf_26 : decode prog_7_method_12_code 26 = .ok (.ireturn, 1) := by decide +kernel
set_option maxHeartbeats 4000000 in
set_option maxRecDepth 100000 in
theorem c_Tre_leftOf {tr ka va ra n u : Nat} {K V R : Nat → Int32} (hP : zP b0 N f (wTre ck tr ka va ra n K V R u)) (hu : u ≤ n) (hn : n ≤ 40) {i : Int32} : zK l D ck ad b0 y_Tre_leftOf prog_7_method_12_code 2 ((some FieldType.int)) 1 0 0 [.ref tr, .int i] N f (fun r N' f' => r = some (.int (tleft K u i)) ∧ N = N' ∧ f = f') := by
  refine zM.of zG_w (by decide) (Nat.le_of_ble_eq_true rfl) ?_
  intro zp ze zst zm zar zbe zme zc X hnm hb0
  refine z_aload_n X d_Tre_leftOf_0 rfl ?_
  refine z_iload_n X d_Tre_leftOf_1 rfl ?_
  refine z_callV X zG_ok (c_Tre_has hP hu hn) d_Tre_leftOf_2 ⟨(z_cb (n := 1) X.2.2.2.2.1 ml_Tre_38 mc_Tre_has ini_Tre (by decide +kernel) rfl rfl ⟨Nat.le_of_ble_eq_true rfl, Nat.le_of_ble_eq_true rfl⟩), X.2.2.2.2.1 _ im_Tre_has, X.2.2.2.2.1 _ sel_Tre_has⟩ (hP.lo 0 rfl) (hP.at 0 rfl) cl_Tre rfl rfl (Nat.le_of_ble_eq_true rfl) ⟨Nat.le_of_ble_eq_true rfl, Nat.le_of_ble_eq_true rfl⟩ (fun r N1 f1 hp hN1 => ?_)
  obtain ⟨rfl, rfl, rfl⟩ := hp
  refine z_if_eq X 25 d_Tre_leftOf_5 (by decide) (fun h5 => ?_) (fun h5 => ?_)
  · skip
    refine z_iconst X d_Tre_leftOf_25 (v := -1) (by decide) ?_
    exact z_iret X d_Tre_leftOf_26 ⟨by first | rw [tleft, if_pos (zb_t h5), if_pos h16] | rw [tleft, if_pos (zb_t h5), if_neg h16] | rw [tleft, if_neg (zb_f h5)], rfl, rfl⟩
  · skip
    refine z_aload_n X d_Tre_leftOf_8 rfl ?_
    refine z_get X d_Tre_leftOf_9 (hP.lo 0 rfl) (hP.at 0 rfl) cl_Tre in_Tre 0 (by decide) fl_Tre_9 rfl rfl ?_
    refine z_iload_n X d_Tre_leftOf_12 rfl ?_
    refine z_iald X d_Tre_leftOf_13 (hP.lo 1 rfl) (hP.at 1 rfl) (t0 := 0) rfl (zin (thas_iff.mp (zb_t h5)).1 (thas_iff.mp (zb_t h5)).2 hu (by omega)) ?_
    refine z_bipush X d_Tre_leftOf_14 (v := 10) (by decide) ?_
    refine z_icmp_gt X 25 d_Tre_leftOf_16 (by decide) (fun h16 => ?_) (fun h16 => ?_)
    · skip
      refine z_iconst X d_Tre_leftOf_25 (v := -1) (by decide) ?_
      exact z_iret X d_Tre_leftOf_26 ⟨by first | rw [tleft, if_pos (zb_t h5), if_pos h16] | rw [tleft, if_pos (zb_t h5), if_neg h16] | rw [tleft, if_neg (zb_f h5)], rfl, rfl⟩
    · skip
      refine z_iload_n X d_Tre_leftOf_19 rfl ?_
      refine z_iconst X d_Tre_leftOf_20 (v := 1) (by decide) ?_
      refine z_iadd X d_Tre_leftOf_21 ?_
      refine z_goto X 26 d_Tre_leftOf_22 (by decide) ?_
      exact z_iret X d_Tre_leftOf_26 ⟨by first | rw [tleft, if_pos (zb_t h5), if_pos h16] | rw [tleft, if_pos (zb_t h5), if_neg h16] | rw [tleft, if_neg (zb_f h5)], rfl, rfl⟩
theorem d_Tre_setLastValue_0 : decode prog_7_method_8_code 0 = .ok (.aload_n 0, 1) := by decide +kernel
theorem d_Tre_setLastValue_1 : decode prog_7_method_8_code 1 = .ok (.getfield 21, 3) := by decide +kernel
theorem d_Tre_setLastValue_4 : decode prog_7_method_8_code 4 = .ok (.ifCond .le 27, 3) := by decide +kernel
theorem d_Tre_setLastValue_7 : decode prog_7_method_8_code 7 = .ok (.aload_n 0, 1) := by decide +kernel
theorem d_Tre_setLastValue_8 : decode prog_7_method_8_code 8 = .ok (.getfield 21, 3) := by decide +kernel
theorem d_Tre_setLastValue_11 : decode prog_7_method_8_code 11 = .ok (.aload_n 0, 1) := by decide +kernel
theorem d_Tre_setLastValue_12 : decode prog_7_method_8_code 12 = .ok (.getfield 15, 3) := by decide +kernel
theorem d_Tre_setLastValue_15 : decode prog_7_method_8_code 15 = .ok (.arraylength, 1) := by decide +kernel
theorem d_Tre_setLastValue_16 : decode prog_7_method_8_code 16 = .ok (.if_icmp .gt 15, 3) := by decide +kernel
theorem d_Tre_setLastValue_19 : decode prog_7_method_8_code 19 = .ok (.aload_n 0, 1) := by decide +kernel
theorem d_Tre_setLastValue_20 : decode prog_7_method_8_code 20 = .ok (.getfield 15, 3) := by decide +kernel
theorem d_Tre_setLastValue_23 : decode prog_7_method_8_code 23 = .ok (.aload_n 0, 1) := by decide +kernel
theorem d_Tre_setLastValue_24 : decode prog_7_method_8_code 24 = .ok (.getfield 21, 3) := by decide +kernel
theorem d_Tre_setLastValue_27 : decode prog_7_method_8_code 27 = .ok (.iconst 1, 1) := by decide +kernel
theorem d_Tre_setLastValue_28 : decode prog_7_method_8_code 28 = .ok (.isub, 1) := by decide +kernel
theorem d_Tre_setLastValue_29 : decode prog_7_method_8_code 29 = .ok (.iload_n 1, 1) := by decide +kernel
theorem d_Tre_setLastValue_30 : decode prog_7_method_8_code 30 = .ok (.iastore, 1) := by decide +kernel
theorem d_Tre_setLastValue_31 : decode prog_7_method_8_code 31 = .ok (.return_, 1) := by decide +kernel
set_option maxHeartbeats 4000000 in
set_option maxRecDepth 100000 in
theorem c_Tre_setLastValue {tr ka va ra n u : Nat} {K V R : Nat → Int32} (hP : zP b0 N f (wTre ck tr ka va ra n K V R u)) (hu : u ≤ n) (hn : n ≤ 40) (h0 : 0 < u) {x : Int32} : zK l D ck ad b0 y_Tre_setLastValue prog_7_method_8_code 2 (none) 0 0 0 [.ref tr, .int x] N f (fun r N' f' => r = none ∧ N = N' ∧ f' = va_up f va (aI ck n (upd V (u - 1) x))) := by
  refine zM.of zG_w (by decide) (Nat.le_of_ble_eq_true rfl) ?_
  intro zp ze zst zm zar zbe zme zc X hnm hb0
  refine z_aload_n X d_Tre_setLastValue_0 rfl ?_
  refine z_get X d_Tre_setLastValue_1 (hP.lo 0 rfl) (hP.at 0 rfl) cl_Tre in_Tre 3 (by decide) fl_Tre_21 rfl rfl ?_
  refine z_if_le X 31 d_Tre_setLastValue_4 (by decide) (fun h4 => ?_) (fun h4 => ?_)
  · skip
    exact absurd h4 (nI_nle h0 (by omega))
  · skip
    refine z_aload_n X d_Tre_setLastValue_7 rfl ?_
    refine z_get X d_Tre_setLastValue_8 (hP.lo 0 rfl) (hP.at 0 rfl) cl_Tre in_Tre 3 (by decide) fl_Tre_21 rfl rfl ?_
    refine z_aload_n X d_Tre_setLastValue_11 rfl ?_
    refine z_get X d_Tre_setLastValue_12 (hP.lo 0 rfl) (hP.at 0 rfl) cl_Tre in_Tre 1 (by decide) fl_Tre_15 rfl rfl ?_
    refine z_alen X d_Tre_setLastValue_15 (hP.lo 2 rfl) (hP.at 2 rfl) (t0 := 0) rfl rfl ?_
    refine z_icmp_gt X 31 d_Tre_setLastValue_16 (by decide) (fun h16 => ?_) (fun h16 => ?_)
    · skip
      exact absurd h16 (nI_nlt hu (by omega))
    · skip
      refine z_aload_n X d_Tre_setLastValue_19 rfl ?_
      refine z_get X d_Tre_setLastValue_20 (hP.lo 0 rfl) (hP.at 0 rfl) cl_Tre in_Tre 1 (by decide) fl_Tre_15 rfl rfl ?_
      refine z_aload_n X d_Tre_setLastValue_23 rfl ?_
      refine z_get X d_Tre_setLastValue_24 (hP.lo 0 rfl) (hP.at 0 rfl) cl_Tre in_Tre 3 (by decide) fl_Tre_21 rfl rfl ?_
      refine z_iconst X d_Tre_setLastValue_27 (v := 1) (by decide) ?_
      refine z_isub X d_Tre_setLastValue_28 ?_
      refine z_iload_n X d_Tre_setLastValue_29 rfl ?_
      refine z_iastP X d_Tre_setLastValue_30 hP 2 rfl (t0 := 0) rfl (by rw [show nI u - 1 = nI (u - 1) from pk_sub (b := 1) (by omega)]; exact vp_in_nI (by omega) (by omega)) (fun hP => ?_)
      exact z_vret X d_Tre_setLastValue_31 ⟨rfl, rfl, by rw [show nI u - 1 = nI (u - 1) from pk_sub (b := 1) (by omega), nI_clamp (by omega)]⟩
theorem d_Tre_append_0 : decode prog_7_method_6_code 0 = .ok (.aload_n 0, 1) := by decide +kernel
theorem d_Tre_append_1 : decode prog_7_method_6_code 1 = .ok (.getfield 21, 3) := by decide +kernel
theorem d_Tre_append_4 : decode prog_7_method_6_code 4 = .ok (.ifCond .lt 15, 3) := by decide +kernel
theorem d_Tre_append_7 : decode prog_7_method_6_code 7 = .ok (.aload_n 0, 1) := by decide +kernel
theorem d_Tre_append_8 : decode prog_7_method_6_code 8 = .ok (.getfield 21, 3) := by decide +kernel
theorem d_Tre_append_11 : decode prog_7_method_6_code 11 = .ok (.aload_n 0, 1) := by decide +kernel
theorem d_Tre_append_12 : decode prog_7_method_6_code 12 = .ok (.getfield 9, 3) := by decide +kernel
theorem d_Tre_append_15 : decode prog_7_method_6_code 15 = .ok (.arraylength, 1) := by decide +kernel
theorem d_Tre_append_16 : decode prog_7_method_6_code 16 = .ok (.if_icmp .lt 5, 3) := by decide +kernel
theorem d_Tre_append_19 : decode prog_7_method_6_code 19 = .ok (.iconst 0, 1) := by decide +kernel
theorem d_Tre_append_20 : decode prog_7_method_6_code 20 = .ok (.ireturn, 1) := by decide +kernel
theorem d_Tre_append_21 : decode prog_7_method_6_code 21 = .ok (.aload_n 0, 1) := by decide +kernel
theorem d_Tre_append_22 : decode prog_7_method_6_code 22 = .ok (.getfield 9, 3) := by decide +kernel
theorem d_Tre_append_25 : decode prog_7_method_6_code 25 = .ok (.aload_n 0, 1) := by decide +kernel
theorem d_Tre_append_26 : decode prog_7_method_6_code 26 = .ok (.getfield 21, 3) := by decide +kernel
theorem d_Tre_append_29 : decode prog_7_method_6_code 29 = .ok (.iload_n 1, 1) := by decide +kernel
theorem d_Tre_append_30 : decode prog_7_method_6_code 30 = .ok (.iastore, 1) := by decide +kernel
theorem d_Tre_append_31 : decode prog_7_method_6_code 31 = .ok (.aload_n 0, 1) := by decide +kernel
theorem d_Tre_append_32 : decode prog_7_method_6_code 32 = .ok (.getfield 15, 3) := by decide +kernel
theorem d_Tre_append_35 : decode prog_7_method_6_code 35 = .ok (.aload_n 0, 1) := by decide +kernel
theorem d_Tre_append_36 : decode prog_7_method_6_code 36 = .ok (.getfield 21, 3) := by decide +kernel
theorem d_Tre_append_39 : decode prog_7_method_6_code 39 = .ok (.iload_n 2, 1) := by decide +kernel
theorem d_Tre_append_40 : decode prog_7_method_6_code 40 = .ok (.iastore, 1) := by decide +kernel
theorem d_Tre_append_41 : decode prog_7_method_6_code 41 = .ok (.aload_n 0, 1) := by decide +kernel
theorem d_Tre_append_42 : decode prog_7_method_6_code 42 = .ok (.getfield 18, 3) := by decide +kernel
theorem d_Tre_append_45 : decode prog_7_method_6_code 45 = .ok (.aload_n 0, 1) := by decide +kernel
theorem d_Tre_append_46 : decode prog_7_method_6_code 46 = .ok (.getfield 21, 3) := by decide +kernel
theorem d_Tre_append_49 : decode prog_7_method_6_code 49 = .ok (.iconst (-1), 1) := by decide +kernel
theorem d_Tre_append_50 : decode prog_7_method_6_code 50 = .ok (.iastore, 1) := by decide +kernel
theorem d_Tre_append_51 : decode prog_7_method_6_code 51 = .ok (.aload_n 0, 1) := by decide +kernel
theorem d_Tre_append_52 : decode prog_7_method_6_code 52 = .ok (.dup, 1) := by decide +kernel
theorem d_Tre_append_53 : decode prog_7_method_6_code 53 = .ok (.getfield 21, 3) := by decide +kernel
theorem d_Tre_append_56 : decode prog_7_method_6_code 56 = .ok (.iconst 1, 1) := by decide +kernel
theorem d_Tre_append_57 : decode prog_7_method_6_code 57 = .ok (.iadd, 1) := by decide +kernel
theorem d_Tre_append_58 : decode prog_7_method_6_code 58 = .ok (.putfield 21, 3) := by decide +kernel
theorem d_Tre_append_61 : decode prog_7_method_6_code 61 = .ok (.iconst 1, 1) := by decide +kernel
theorem d_Tre_append_62 : decode prog_7_method_6_code 62 = .ok (.ireturn, 1) := by decide +kernel
set_option maxHeartbeats 4000000 in
set_option maxRecDepth 100000 in
theorem c_Tre_append {tr ka va ra n u : Nat} {K V R : Nat → Int32} (hP : zP b0 N f (wTre ck tr ka va ra n K V R u)) (hu : u ≤ n) (hn : n ≤ 40) {kd x : Int32} : zK l D ck ad b0 y_Tre_append prog_7_method_6_code 3 ((some FieldType.boolean)) 0 0 0 [.ref tr, .int kd, .int x] N f (fun r N' f' => r = some (.int (if u < n then 1 else 0)) ∧ N = N' ∧ (u < n → zP b0 N f' (wTre ck tr ka va ra n (upd K u kd) (upd V u x) (upd R u (-1)) (u + 1)) ∧ zF N f f' [tr, ka, va, ra]) ∧ (¬ u < n → f = f')) := by
  refine zM.of zG_w (by decide) (Nat.le_of_ble_eq_true rfl) ?_
  intro zp ze zst zm zar zbe zme zc X hnm hb0
  have hF : zF N f f [tr, ka, va, ra] := zF.rf
  refine z_aload_n X d_Tre_append_0 rfl ?_
  refine z_get X d_Tre_append_1 (hP.lo 0 rfl) (hP.at 0 rfl) cl_Tre in_Tre 3 (by decide) fl_Tre_21 rfl rfl ?_
  refine z_if_lt X 19 d_Tre_append_4 (by decide) (fun h4 => ?_) (fun h4 => ?_)
  · skip
    exact absurd h4 (nI_pos (by omega))
  · skip
    refine z_aload_n X d_Tre_append_7 rfl ?_
    refine z_get X d_Tre_append_8 (hP.lo 0 rfl) (hP.at 0 rfl) cl_Tre in_Tre 3 (by decide) fl_Tre_21 rfl rfl ?_
    refine z_aload_n X d_Tre_append_11 rfl ?_
    refine z_get X d_Tre_append_12 (hP.lo 0 rfl) (hP.at 0 rfl) cl_Tre in_Tre 0 (by decide) fl_Tre_9 rfl rfl ?_
    refine z_alen X d_Tre_append_15 (hP.lo 1 rfl) (hP.at 1 rfl) (t0 := 0) rfl rfl ?_
    refine z_icmp_lt X 21 d_Tre_append_16 (by decide) (fun h16 => ?_) (fun h16 => ?_)
    · skip
      have hun : u < n := (nI_ltI (b := n) (by omega) (by omega)).mp h16
      refine z_aload_n X d_Tre_append_21 rfl ?_
      refine z_get X d_Tre_append_22 (hP.lo 0 rfl) (hP.at 0 rfl) cl_Tre in_Tre 0 (by decide) fl_Tre_9 rfl rfl ?_
      refine z_aload_n X d_Tre_append_25 rfl ?_
      refine z_get X d_Tre_append_26 (hP.lo 0 rfl) (hP.at 0 rfl) cl_Tre in_Tre 3 (by decide) fl_Tre_21 rfl rfl ?_
      refine z_iload_n X d_Tre_append_29 rfl ?_
      refine z_iastP X d_Tre_append_30 hP 1 rfl (t0 := 0) rfl (vp_in_nI hun (by omega)) (fun hP => ?_)
      have hF := hF.by (by simp) hP
      refine z_aload_n X d_Tre_append_31 rfl ?_
      refine z_get X d_Tre_append_32 (hP.lo 0 rfl) (hP.at 0 rfl) cl_Tre in_Tre 1 (by decide) fl_Tre_15 rfl rfl ?_
      refine z_aload_n X d_Tre_append_35 rfl ?_
      refine z_get X d_Tre_append_36 (hP.lo 0 rfl) (hP.at 0 rfl) cl_Tre in_Tre 3 (by decide) fl_Tre_21 rfl rfl ?_
      refine z_iload_n X d_Tre_append_39 rfl ?_
      refine z_iastP X d_Tre_append_40 hP 2 rfl (t0 := 0) rfl (vp_in_nI hun (by omega)) (fun hP => ?_)
      have hF := hF.by (by simp) hP
      refine z_aload_n X d_Tre_append_41 rfl ?_
      refine z_get X d_Tre_append_42 (hP.lo 0 rfl) (hP.at 0 rfl) cl_Tre in_Tre 2 (by decide) fl_Tre_18 rfl rfl ?_
      refine z_aload_n X d_Tre_append_45 rfl ?_
      refine z_get X d_Tre_append_46 (hP.lo 0 rfl) (hP.at 0 rfl) cl_Tre in_Tre 3 (by decide) fl_Tre_21 rfl rfl ?_
      refine z_iconst X d_Tre_append_49 (v := -1) (by decide) ?_
      refine z_iastP X d_Tre_append_50 hP 3 rfl (t0 := 0) rfl (vp_in_nI hun (by omega)) (fun hP => ?_)
      have hF := hF.by (by simp) hP
      refine z_aload_n X d_Tre_append_51 rfl ?_
      refine z_dup X d_Tre_append_52 rfl ?_
      refine z_get X d_Tre_append_53 (hP.lo 0 rfl) (hP.at 0 rfl) cl_Tre in_Tre 3 (by decide) fl_Tre_21 rfl rfl ?_
      refine z_iconst X d_Tre_append_56 (v := 1) (by decide) ?_
      refine z_iadd X d_Tre_append_57 ?_
      refine z_putP X t_Tre ty_Tre n_Tre d_Tre_append_58 hP 0 rfl cl_Tre in_Tre 3 (by decide) fl_Tre_21 rfl rfl rfl rfl rfl (Nat.le_of_ble_eq_true rfl) (fun hP => ?_)
      have hF := hF.by (by simp) hP
      refine z_iconst X d_Tre_append_61 (v := 1) (by decide) ?_
      exact z_zret X d_Tre_append_62 rfl ⟨by rw [if_pos hun], rfl, fun _ => ⟨hP.eq (by rw [nI_clamp (n := u) (by omega), show nI u + 1 = nI (u + 1) from nI_1 u]; rfl), hF⟩, fun q => absurd hun q⟩
    · skip
      have hun : ¬ u < n := fun q => h16 (nI_lt q (by omega))
      refine z_iconst X d_Tre_append_19 (v := 0) (by decide) ?_
      exact z_zret X d_Tre_append_20 rfl ⟨by rw [if_neg hun], rfl, fun q => absurd q hun, fun _ => rfl⟩
theorem d_Tre_insert_0 : decode prog_7_method_7_code 0 = .ok (.iload_n 1, 1) := by decide +kernel
theorem d_Tre_insert_1 : decode prog_7_method_7_code 1 = .ok (.ifCond .lt 20, 3) := by decide +kernel
theorem d_Tre_insert_4 : decode prog_7_method_7_code 4 = .ok (.iload_n 1, 1) := by decide +kernel
theorem d_Tre_insert_5 : decode prog_7_method_7_code 5 = .ok (.aload_n 0, 1) := by decide +kernel
theorem d_Tre_insert_6 : decode prog_7_method_7_code 6 = .ok (.getfield 21, 3) := by decide +kernel
theorem d_Tre_insert_9 : decode prog_7_method_7_code 9 = .ok (.if_icmp .gt 12, 3) := by decide +kernel
theorem d_Tre_insert_12 : decode prog_7_method_7_code 12 = .ok (.aload_n 0, 1) := by decide +kernel
theorem d_Tre_insert_13 : decode prog_7_method_7_code 13 = .ok (.iload_n 2, 1) := by decide +kernel
theorem d_Tre_insert_14 : decode prog_7_method_7_code 14 = .ok (.iconst (-1), 1) := by decide +kernel
theorem d_Tre_insert_15 : decode prog_7_method_7_code 15 = .ok (.invokevirtual 34, 3) := by decide +kernel
theorem d_Tre_insert_18 : decode prog_7_method_7_code 18 = .ok (.ifCond .ne 5, 3) := by decide +kernel
theorem d_Tre_insert_21 : decode prog_7_method_7_code 21 = .ok (.iconst 0, 1) := by decide +kernel
theorem d_Tre_insert_22 : decode prog_7_method_7_code 22 = .ok (.ireturn, 1) := by decide +kernel
theorem d_Tre_insert_23 : decode prog_7_method_7_code 23 = .ok (.aload_n 0, 1) := by decide +kernel
theorem d_Tre_insert_24 : decode prog_7_method_7_code 24 = .ok (.getfield 21, 3) := by decide +kernel
theorem d_Tre_insert_27 : decode prog_7_method_7_code 27 = .ok (.iconst 1, 1) := by decide +kernel
theorem d_Tre_insert_28 : decode prog_7_method_7_code 28 = .ok (.isub, 1) := by decide +kernel
theorem d_Tre_insert_29 : decode prog_7_method_7_code 29 = .ok (.istore_n 3, 1) := by decide +kernel
theorem d_Tre_insert_30 : decode prog_7_method_7_code 30 = .ok (.iload_n 3, 1) := by decide +kernel
theorem d_Tre_insert_31 : decode prog_7_method_7_code 31 = .ok (.iload_n 1, 1) := by decide +kernel
theorem d_Tre_insert_32 : decode prog_7_method_7_code 32 = .ok (.if_icmp .le 69, 3) := by decide +kernel
theorem d_Tre_insert_35 : decode prog_7_method_7_code 35 = .ok (.aload_n 0, 1) := by decide +kernel
theorem d_Tre_insert_36 : decode prog_7_method_7_code 36 = .ok (.getfield 9, 3) := by decide +kernel
theorem d_Tre_insert_39 : decode prog_7_method_7_code 39 = .ok (.iload_n 3, 1) := by decide +kernel
theorem d_Tre_insert_40 : decode prog_7_method_7_code 40 = .ok (.aload_n 0, 1) := by decide +kernel
theorem d_Tre_insert_41 : decode prog_7_method_7_code 41 = .ok (.getfield 9, 3) := by decide +kernel
theorem d_Tre_insert_44 : decode prog_7_method_7_code 44 = .ok (.iload_n 3, 1) := by decide +kernel
theorem d_Tre_insert_45 : decode prog_7_method_7_code 45 = .ok (.iconst 1, 1) := by decide +kernel
theorem d_Tre_insert_46 : decode prog_7_method_7_code 46 = .ok (.isub, 1) := by decide +kernel
theorem d_Tre_insert_47 : decode prog_7_method_7_code 47 = .ok (.iaload, 1) := by decide +kernel
theorem d_Tre_insert_48 : decode prog_7_method_7_code 48 = .ok (.iastore, 1) := by decide +kernel
theorem d_Tre_insert_49 : decode prog_7_method_7_code 49 = .ok (.aload_n 0, 1) := by decide +kernel
theorem d_Tre_insert_50 : decode prog_7_method_7_code 50 = .ok (.getfield 15, 3) := by decide +kernel
theorem d_Tre_insert_53 : decode prog_7_method_7_code 53 = .ok (.iload_n 3, 1) := by decide +kernel
theorem d_Tre_insert_54 : decode prog_7_method_7_code 54 = .ok (.aload_n 0, 1) := by decide +kernel
theorem d_Tre_insert_55 : decode prog_7_method_7_code 55 = .ok (.getfield 15, 3) := by decide +kernel
theorem d_Tre_insert_58 : decode prog_7_method_7_code 58 = .ok (.iload_n 3, 1) := by decide +kernel
theorem d_Tre_insert_59 : decode prog_7_method_7_code 59 = .ok (.iconst 1, 1) := by decide +kernel
theorem d_Tre_insert_60 : decode prog_7_method_7_code 60 = .ok (.isub, 1) := by decide +kernel
theorem d_Tre_insert_61 : decode prog_7_method_7_code 61 = .ok (.iaload, 1) := by decide +kernel
theorem d_Tre_insert_62 : decode prog_7_method_7_code 62 = .ok (.iastore, 1) := by decide +kernel
theorem d_Tre_insert_63 : decode prog_7_method_7_code 63 = .ok (.aload_n 0, 1) := by decide +kernel
theorem d_Tre_insert_64 : decode prog_7_method_7_code 64 = .ok (.getfield 18, 3) := by decide +kernel
theorem d_Tre_insert_67 : decode prog_7_method_7_code 67 = .ok (.iload_n 3, 1) := by decide +kernel
theorem d_Tre_insert_68 : decode prog_7_method_7_code 68 = .ok (.aload_n 0, 1) := by decide +kernel
theorem d_Tre_insert_69 : decode prog_7_method_7_code 69 = .ok (.getfield 18, 3) := by decide +kernel
theorem d_Tre_insert_72 : decode prog_7_method_7_code 72 = .ok (.iload_n 3, 1) := by decide +kernel
theorem d_Tre_insert_73 : decode prog_7_method_7_code 73 = .ok (.iconst 1, 1) := by decide +kernel
theorem d_Tre_insert_74 : decode prog_7_method_7_code 74 = .ok (.isub, 1) := by decide +kernel
theorem d_Tre_insert_75 : decode prog_7_method_7_code 75 = .ok (.iaload, 1) := by decide +kernel
theorem d_Tre_insert_76 : decode prog_7_method_7_code 76 = .ok (.iconst (-1), 1) := by decide +kernel
theorem d_Tre_insert_77 : decode prog_7_method_7_code 77 = .ok (.if_icmp .ne 7, 3) := by decide +kernel
theorem d_Tre_insert_80 : decode prog_7_method_7_code 80 = .ok (.iconst (-1), 1) := by decide +kernel
theorem d_Tre_insert_81 : decode prog_7_method_7_code 81 = .ok (.goto 13, 3) := by decide +kernel
theorem d_Tre_insert_84 : decode prog_7_method_7_code 84 = .ok (.aload_n 0, 1) := by decide +kernel
theorem d_Tre_insert_85 : decode prog_7_method_7_code 85 = .ok (.getfield 18, 3) := by decide +kernel
theorem d_Tre_insert_88 : decode prog_7_method_7_code 88 = .ok (.iload_n 3, 1) := by decide +kernel
theorem d_Tre_insert_89 : decode prog_7_method_7_code 89 = .ok (.iconst 1, 1) := by decide +kernel
theorem d_Tre_insert_90 : decode prog_7_method_7_code 90 = .ok (.isub, 1) := by decide +kernel
theorem d_Tre_insert_91 : decode prog_7_method_7_code 91 = .ok (.iaload, 1) := by decide +kernel
theorem d_Tre_insert_92 : decode prog_7_method_7_code 92 = .ok (.iconst 1, 1) := by decide +kernel
theorem d_Tre_insert_93 : decode prog_7_method_7_code 93 = .ok (.iadd, 1) := by decide +kernel
theorem d_Tre_insert_94 : decode prog_7_method_7_code 94 = .ok (.iastore, 1) := by decide +kernel
theorem d_Tre_insert_95 : decode prog_7_method_7_code 95 = .ok (.iinc 3 (-1), 3) := by decide +kernel
theorem d_Tre_insert_98 : decode prog_7_method_7_code 98 = .ok (.goto (-68), 3) := by decide +kernel
theorem d_Tre_insert_101 : decode prog_7_method_7_code 101 = .ok (.aload_n 0, 1) := by decide +kernel
theorem d_Tre_insert_102 : decode prog_7_method_7_code 102 = .ok (.getfield 9, 3) := by decide +kernel
theorem d_Tre_insert_105 : decode prog_7_method_7_code 105 = .ok (.iload_n 1, 1) := by decide +kernel
theorem d_Tre_insert_106 : decode prog_7_method_7_code 106 = .ok (.iload_n 2, 1) := by decide +kernel
theorem d_Tre_insert_107 : decode prog_7_method_7_code 107 = .ok (.iastore, 1) := by decide +kernel
theorem d_Tre_insert_108 : decode prog_7_method_7_code 108 = .ok (.aload_n 0, 1) := by decide +kernel
theorem d_Tre_insert_109 : decode prog_7_method_7_code 109 = .ok (.getfield 15, 3) := by decide +kernel
theorem d_Tre_insert_112 : decode prog_7_method_7_code 112 = .ok (.iload_n 1, 1) := by decide +kernel
theorem d_Tre_insert_113 : decode prog_7_method_7_code 113 = .ok (.iconst (-1), 1) := by decide +kernel
theorem d_Tre_insert_114 : decode prog_7_method_7_code 114 = .ok (.iastore, 1) := by decide +kernel
theorem d_Tre_insert_115 : decode prog_7_method_7_code 115 = .ok (.aload_n 0, 1) := by decide +kernel
theorem d_Tre_insert_116 : decode prog_7_method_7_code 116 = .ok (.getfield 18, 3) := by decide +kernel
theorem d_Tre_insert_119 : decode prog_7_method_7_code 119 = .ok (.iload_n 1, 1) := by decide +kernel
theorem d_Tre_insert_120 : decode prog_7_method_7_code 120 = .ok (.aload_n 0, 1) := by decide +kernel
theorem d_Tre_insert_121 : decode prog_7_method_7_code 121 = .ok (.getfield 21, 3) := by decide +kernel
theorem d_Tre_insert_124 : decode prog_7_method_7_code 124 = .ok (.iastore, 1) := by decide +kernel
theorem d_Tre_insert_125 : decode prog_7_method_7_code 125 = .ok (.iconst 1, 1) := by decide +kernel
theorem d_Tre_insert_126 : decode prog_7_method_7_code 126 = .ok (.ireturn, 1) := by decide +kernel
set_option maxHeartbeats 4000000 in
set_option maxRecDepth 100000 in
theorem c_Tre_insert {tr ka va ra n u : Nat} {K V R : Nat → Int32} (hP : zP b0 N f (wTre ck tr ka va ra n K V R u)) (hu : u ≤ n) (hn : n ≤ 40) {q : Nat} (hq : q ≤ u) {kd : Int32} : zK l D ck ad b0 y_Tre_insert prog_7_method_7_code 4 ((some FieldType.boolean)) 1 0 0 [.ref tr, .int (nI q), .int kd] N f (fun r N' f' => r = some (.int (if u < n then 1 else 0)) ∧ N = N' ∧ (u < n → zP b0 N f' (wTre ck tr ka va ra n (insK K u q kd) (insK V u q (-1)) (insR R u q) (u + 1)) ∧ zF N f f' [tr, ka, va, ra]) ∧ (¬ u < n → f = f')) := by
  refine zM.of zG_w (by decide) (Nat.le_of_ble_eq_true rfl) ?_
  intro zp ze zst zm zar zbe zme zc X hnm hb0
  have hF : zF N f f [tr, ka, va, ra] := zF.rf
  have L30 : ∀ (nn : Nat) (t : Nat) (f1 : Nat → va_E), (q ≤ t ∧ t ≤ u ∧ t - q < nn) → u < n → zP b0 N f1 (wTre ck tr ka va ra n (shK K kd u t) (shK V (-1) u t) (shR R u t) (u + 1)) → zF N f f1 [tr, ka, va, ra] → zW zp l ze (zR 1 0 0) zst zm zar zbe zme zc D zcl b0 4 0 0 (MQ zbe (zQ D zcl b0 (fun r N' f' => r = some (.int (if u < n then 1 else 0)) ∧ N = N' ∧ (u < n → zP b0 N f' (wTre ck tr ka va ra n (insK K u q kd) (insK V u q (-1)) (insR R u q) (u + 1)) ∧ zF N f f' [tr, ka, va, ra]) ∧ (¬ u < n → f = f'))) zar zst 0 0 (zA b0)) N f1 30 [(0, .ref tr), (1, .int (nI q)), (2, .int kd), (3, .int (nI t))] [] := by
    intro nn
    induction nn with
    | zero =>
      intro t f1 ht hun hP hF
      omega
    | succ nn ih =>
      intro t f1 ht hun hP hF
      refine z_iload_n X d_Tre_insert_30 rfl ?_
      refine z_iload_n X d_Tre_insert_31 rfl ?_
      refine z_icmp_le X 101 d_Tre_insert_32 (by decide) (fun h32 => ?_) (fun h32 => ?_)
      · skip
        have htq : t = q := by have := (nI_leI (a := t) (b := q) (by omega) (by omega)).mp h32; omega
        subst htq
        refine z_aload_n X d_Tre_insert_101 rfl ?_
        refine z_get X d_Tre_insert_102 (hP.lo 0 rfl) (hP.at 0 rfl) cl_Tre in_Tre 0 (by decide) fl_Tre_9 rfl rfl ?_
        refine z_iload_n X d_Tre_insert_105 rfl ?_
        refine z_iload_n X d_Tre_insert_106 rfl ?_
        refine z_iastP X d_Tre_insert_107 hP 1 rfl (t0 := 0) rfl (vp_in_nI (by omega) (by omega)) (fun hP => ?_)
        have hF := hF.by (by simp) hP
        refine z_aload_n X d_Tre_insert_108 rfl ?_
        refine z_get X d_Tre_insert_109 (hP.lo 0 rfl) (hP.at 0 rfl) cl_Tre in_Tre 1 (by decide) fl_Tre_15 rfl rfl ?_
        refine z_iload_n X d_Tre_insert_112 rfl ?_
        refine z_iconst X d_Tre_insert_113 (v := -1) (by decide) ?_
        refine z_iastP X d_Tre_insert_114 hP 2 rfl (t0 := 0) rfl (vp_in_nI (by omega) (by omega)) (fun hP => ?_)
        have hF := hF.by (by simp) hP
        refine z_aload_n X d_Tre_insert_115 rfl ?_
        refine z_get X d_Tre_insert_116 (hP.lo 0 rfl) (hP.at 0 rfl) cl_Tre in_Tre 2 (by decide) fl_Tre_18 rfl rfl ?_
        refine z_iload_n X d_Tre_insert_119 rfl ?_
        refine z_aload_n X d_Tre_insert_120 rfl ?_
        refine z_get X d_Tre_insert_121 (hP.lo 0 rfl) (hP.at 0 rfl) cl_Tre in_Tre 3 (by decide) fl_Tre_21 rfl rfl ?_
        refine z_iastP X d_Tre_insert_124 hP 3 rfl (t0 := 0) rfl (vp_in_nI (by omega) (by omega)) (fun hP => ?_)
        have hF := hF.by (by simp) hP
        refine z_iconst X d_Tre_insert_125 (v := 1) (by decide) ?_
        exact z_zret X d_Tre_insert_126 rfl ⟨by rw [if_pos hun], rfl, fun _ => ⟨hP.eq (by rw [nI_clamp (by omega)]; rfl), hF⟩, fun z => absurd hun z⟩
      · skip
        obtain ⟨t, rfl⟩ : ∃ t1, t = t1 + 1 := ⟨t - 1, by have : q < t := (by rcases Nat.lt_or_ge q t with z | z; exact z; exact absurd (nI_le z (by omega)) h32); omega⟩
        have htq : q < t + 1 := by rcases Nat.lt_or_ge q (t + 1) with z | z; exact z; exact absurd (nI_le z (by omega)) h32
        refine z_aload_n X d_Tre_insert_35 rfl ?_
        refine z_get X d_Tre_insert_36 (hP.lo 0 rfl) (hP.at 0 rfl) cl_Tre in_Tre 0 (by decide) fl_Tre_9 rfl rfl ?_
        refine z_iload_n X d_Tre_insert_39 rfl ?_
        refine z_aload_n X d_Tre_insert_40 rfl ?_
        refine z_get X d_Tre_insert_41 (hP.lo 0 rfl) (hP.at 0 rfl) cl_Tre in_Tre 0 (by decide) fl_Tre_9 rfl rfl ?_
        refine z_iload_n X d_Tre_insert_44 rfl ?_
        refine z_iconst X d_Tre_insert_45 (v := 1) (by decide) ?_
        refine z_isub X d_Tre_insert_46 ?_
        refine z_iald X d_Tre_insert_47 (hP.lo 1 rfl) (hP.at 1 rfl) (t0 := 0) rfl (by rw [show nI (t + 1) - 1 = nI t from nI_pred t]; exact vp_in_nI (by omega) (by omega)) ?_
        refine z_iastP X d_Tre_insert_48 hP 1 rfl (t0 := 0) rfl (vp_in_nI (by omega) (by omega)) (fun hP => ?_)
        have hF := hF.by (by simp) hP
        refine z_aload_n X d_Tre_insert_49 rfl ?_
        refine z_get X d_Tre_insert_50 (hP.lo 0 rfl) (hP.at 0 rfl) cl_Tre in_Tre 1 (by decide) fl_Tre_15 rfl rfl ?_
        refine z_iload_n X d_Tre_insert_53 rfl ?_
        refine z_aload_n X d_Tre_insert_54 rfl ?_
        refine z_get X d_Tre_insert_55 (hP.lo 0 rfl) (hP.at 0 rfl) cl_Tre in_Tre 1 (by decide) fl_Tre_15 rfl rfl ?_
        refine z_iload_n X d_Tre_insert_58 rfl ?_
        refine z_iconst X d_Tre_insert_59 (v := 1) (by decide) ?_
        refine z_isub X d_Tre_insert_60 ?_
        refine z_iald X d_Tre_insert_61 (hP.lo 2 rfl) (hP.at 2 rfl) (t0 := 0) rfl (by rw [show nI (t + 1) - 1 = nI t from nI_pred t]; exact vp_in_nI (by omega) (by omega)) ?_
        refine z_iastP X d_Tre_insert_62 hP 2 rfl (t0 := 0) rfl (vp_in_nI (by omega) (by omega)) (fun hP => ?_)
        have hF := hF.by (by simp) hP
        refine z_aload_n X d_Tre_insert_63 rfl ?_
        refine z_get X d_Tre_insert_64 (hP.lo 0 rfl) (hP.at 0 rfl) cl_Tre in_Tre 2 (by decide) fl_Tre_18 rfl rfl ?_
        refine z_iload_n X d_Tre_insert_67 rfl ?_
        refine z_aload_n X d_Tre_insert_68 rfl ?_
        refine z_get X d_Tre_insert_69 (hP.lo 0 rfl) (hP.at 0 rfl) cl_Tre in_Tre 2 (by decide) fl_Tre_18 rfl rfl ?_
        refine z_iload_n X d_Tre_insert_72 rfl ?_
        refine z_iconst X d_Tre_insert_73 (v := 1) (by decide) ?_
        refine z_isub X d_Tre_insert_74 ?_
        refine z_iald X d_Tre_insert_75 (hP.lo 3 rfl) (hP.at 3 rfl) (t0 := 0) rfl (by rw [show nI (t + 1) - 1 = nI t from nI_pred t]; exact vp_in_nI (by omega) (by omega)) ?_
        refine z_iconst X d_Tre_insert_76 (v := -1) (by decide) ?_
        refine z_icmp_ne X 84 d_Tre_insert_77 (by decide) (fun h77 => ?_) (fun h77 => ?_)
        · skip
          refine z_aload_n X d_Tre_insert_84 rfl ?_
          refine z_get X d_Tre_insert_85 (hP.lo 0 rfl) (hP.at 0 rfl) cl_Tre in_Tre 2 (by decide) fl_Tre_18 rfl rfl ?_
          refine z_iload_n X d_Tre_insert_88 rfl ?_
          refine z_iconst X d_Tre_insert_89 (v := 1) (by decide) ?_
          refine z_isub X d_Tre_insert_90 ?_
          refine z_iald X d_Tre_insert_91 (hP.lo 3 rfl) (hP.at 3 rfl) (t0 := 0) rfl (by rw [show nI (t + 1) - 1 = nI t from nI_pred t]; exact vp_in_nI (by omega) (by omega)) ?_
          refine z_iconst X d_Tre_insert_92 (v := 1) (by decide) ?_
          refine z_iadd X d_Tre_insert_93 ?_
          refine z_iastP X d_Tre_insert_94 hP 3 rfl (t0 := 0) rfl (vp_in_nI (by omega) (by omega)) (fun hP => ?_)
          have hF := hF.by (by simp) hP
          refine z_iinc X d_Tre_insert_95 rfl (pk_m1 t) (by decide) rfl ?_
          refine z_goto X 30 d_Tre_insert_98 (by decide) ?_
          have e8 := shR_s R (u := u) (q := t) (by omega)
          rw [show nI (t + 1) - 1 = nI t from nI_pred t, nI_clamp (n := t) (by omega)] at h77
          first | rw [if_pos h77] at e8 | rw [if_neg h77] at e8
          exact ih t _ (by omega) hun (hP.eq (by rw [nI_clamp (n := t + 1) (by omega), show nI (t + 1) - 1 = nI t from nI_pred t, nI_clamp (n := t) (by omega)]; rw [← shK_s K kd (u := u) (q := t) (by omega), ← shK_s V (-1) (u := u) (q := t) (by omega), ← e8]; rfl)) hF
        · skip
          refine z_iconst X d_Tre_insert_80 (v := -1) (by decide) ?_
          refine z_goto X 94 d_Tre_insert_81 (by decide) ?_
          refine z_iastP X d_Tre_insert_94 hP 3 rfl (t0 := 0) rfl (vp_in_nI (by omega) (by omega)) (fun hP => ?_)
          have hF := hF.by (by simp) hP
          refine z_iinc X d_Tre_insert_95 rfl (pk_m1 t) (by decide) rfl ?_
          refine z_goto X 30 d_Tre_insert_98 (by decide) ?_
          have e8 := shR_s R (u := u) (q := t) (by omega)
          rw [show nI (t + 1) - 1 = nI t from nI_pred t, nI_clamp (n := t) (by omega)] at h77
          first | rw [if_pos h77] at e8 | rw [if_neg h77] at e8
          exact ih t _ (by omega) hun (hP.eq (by rw [nI_clamp (n := t + 1) (by omega), show nI (t + 1) - 1 = nI t from nI_pred t, nI_clamp (n := t) (by omega)]; rw [← shK_s K kd (u := u) (q := t) (by omega), ← shK_s V (-1) (u := u) (q := t) (by omega), ← e8]; rfl)) hF
  refine z_iload_n X d_Tre_insert_0 rfl ?_
  refine z_if_lt X 21 d_Tre_insert_1 (by decide) (fun h1 => ?_) (fun h1 => ?_)
  · skip
    exact absurd h1 (nI_pos (by omega))
  · skip
    refine z_iload_n X d_Tre_insert_4 rfl ?_
    refine z_aload_n X d_Tre_insert_5 rfl ?_
    refine z_get X d_Tre_insert_6 (hP.lo 0 rfl) (hP.at 0 rfl) cl_Tre in_Tre 3 (by decide) fl_Tre_21 rfl rfl ?_
    refine z_icmp_gt X 21 d_Tre_insert_9 (by decide) (fun h9 => ?_) (fun h9 => ?_)
    · skip
      exact absurd h9 (nI_nlt hq (by omega))
    · skip
      refine z_aload_n X d_Tre_insert_12 rfl ?_
      refine z_iload_n X d_Tre_insert_13 rfl ?_
      refine z_iconst X d_Tre_insert_14 (v := -1) (by decide) ?_
      refine z_callV X zG_ok (c_Tre_append hP hu hn) d_Tre_insert_15 ⟨(z_cb (n := 2) X.2.2.2.2.1 ml_Tre_34 mc_Tre_append ini_Tre (by decide +kernel) rfl rfl ⟨Nat.le_of_ble_eq_true rfl, Nat.le_of_ble_eq_true rfl⟩), X.2.2.2.2.1 _ im_Tre_append, X.2.2.2.2.1 _ sel_Tre_append⟩ (hP.lo 0 rfl) (hP.at 0 rfl) cl_Tre rfl rfl (Nat.le_of_ble_eq_true rfl) ⟨Nat.le_of_ble_eq_true rfl, Nat.le_of_ble_eq_true rfl⟩ (fun r N1 f1 hp hN1 => ?_)
      obtain ⟨rfl, rfl, ha1, ha2⟩ := hp
      refine z_if_ne X 23 d_Tre_insert_18 (by decide) (fun h18 => ?_) (fun h18 => ?_)
      · skip
        have hun := zb_t h18
        obtain ⟨hP, hF⟩ := ha1 hun
        refine z_aload_n X d_Tre_insert_23 rfl ?_
        refine z_get X d_Tre_insert_24 (hP.lo 0 rfl) (hP.at 0 rfl) cl_Tre in_Tre 3 (by decide) fl_Tre_21 rfl rfl ?_
        refine z_iconst X d_Tre_insert_27 (v := 1) (by decide) ?_
        refine z_isub X d_Tre_insert_28 ?_
        refine z_istore_n X d_Tre_insert_29 (by decide) rfl ?_
        refine zW.pick [0, 1, 2, 3] (lv' := [(0, .ref tr), (1, .int (nI q)), (2, .int kd), (3, .int (nI u))]) (by rw [show nI (u + 1) - 1 = nI u from nI_pred u]; rfl) ?_
        exact L30 (u - q + 1) u _ (by omega) hun (hP.eq (by rw [shK_0, shK_0, shR_0])) hF
      · skip
        have hun := zb_f h18
        refine z_iconst X d_Tre_insert_21 (v := 0) (by decide) ?_
        exact z_zret X d_Tre_insert_22 rfl ⟨by rw [if_neg hun], rfl, fun z => absurd z hun, fun _ => ha2 hun⟩
theorem d_Tre_names_0 : decode prog_7_method_14_code 0 = .ok (.iconst 0, 1) := by decide +kernel
theorem d_Tre_names_1 : decode prog_7_method_14_code 1 = .ok (.istore_n 2, 1) := by decide +kernel
theorem d_Tre_names_2 : decode prog_7_method_14_code 2 = .ok (.iload_n 2, 1) := by decide +kernel
theorem d_Tre_names_3 : decode prog_7_method_14_code 3 = .ok (.aload_n 0, 1) := by decide +kernel
theorem d_Tre_names_4 : decode prog_7_method_14_code 4 = .ok (.getfield 21, 3) := by decide +kernel
theorem d_Tre_names_7 : decode prog_7_method_14_code 7 = .ok (.if_icmp .ge 30, 3) := by decide +kernel
theorem d_Tre_names_10 : decode prog_7_method_14_code 10 = .ok (.aload_n 0, 1) := by decide +kernel
theorem d_Tre_names_11 : decode prog_7_method_14_code 11 = .ok (.iload_n 2, 1) := by decide +kernel
theorem d_Tre_names_12 : decode prog_7_method_14_code 12 = .ok (.invokevirtual 42, 3) := by decide +kernel
theorem d_Tre_names_15 : decode prog_7_method_14_code 15 = .ok (.bipush 12, 2) := by decide +kernel
theorem d_Tre_names_17 : decode prog_7_method_14_code 17 = .ok (.if_icmp .lt 14, 3) := by decide +kernel
theorem d_Tre_names_20 : decode prog_7_method_14_code 20 = .ok (.aload_n 0, 1) := by decide +kernel
theorem d_Tre_names_21 : decode prog_7_method_14_code 21 = .ok (.iload_n 2, 1) := by decide +kernel
theorem d_Tre_names_22 : decode prog_7_method_14_code 22 = .ok (.invokevirtual 46, 3) := by decide +kernel
theorem d_Tre_names_25 : decode prog_7_method_14_code 25 = .ok (.iload_n 1, 1) := by decide +kernel
theorem d_Tre_names_26 : decode prog_7_method_14_code 26 = .ok (.if_icmp .ne 5, 3) := by decide +kernel
theorem d_Tre_names_29 : decode prog_7_method_14_code 29 = .ok (.iconst 1, 1) := by decide +kernel
theorem d_Tre_names_30 : decode prog_7_method_14_code 30 = .ok (.ireturn, 1) := by decide +kernel
theorem d_Tre_names_31 : decode prog_7_method_14_code 31 = .ok (.iinc 2 1, 3) := by decide +kernel
theorem d_Tre_names_34 : decode prog_7_method_14_code 34 = .ok (.goto (-32), 3) := by decide +kernel
theorem d_Tre_names_37 : decode prog_7_method_14_code 37 = .ok (.iconst 0, 1) := by decide +kernel
theorem d_Tre_names_38 : decode prog_7_method_14_code 38 = .ok (.ireturn, 1) := by decide +kernel
set_option maxHeartbeats 4000000 in
set_option maxRecDepth 100000 in
theorem c_Tre_names {tr ka va ra n u : Nat} {K V R : Nat → Int32} (hP : zP b0 N f (wTre ck tr ka va ra n K V R u)) (hu : u ≤ n) (hn : n ≤ 40) {fd : Int32} : zK l D ck ad b0 y_Tre_names prog_7_method_14_code 3 ((some FieldType.boolean)) 2 0 0 [.ref tr, .int fd] N f (fun r N' f' => r = some (.int (if tnames K V fd u = true then 1 else 0)) ∧ N = N' ∧ f = f') := by
  refine zM.of zG_w (by decide) (Nat.le_of_ble_eq_true rfl) ?_
  intro zp ze zst zm zar zbe zme zc X hnm hb0
  have L2 : ∀ (nn : Nat) (j : Nat), (j ≤ u ∧ j + nn = u + 1) → tnames K V fd j = false → zW zp l ze (zR 2 0 0) zst zm zar zbe zme zc D zcl b0 3 0 0 (MQ zbe (zQ D zcl b0 (fun r N' f' => r = some (.int (if tnames K V fd u = true then 1 else 0)) ∧ N = N' ∧ f = f')) zar zst 0 0 (zA b0)) N f 2 [(0, .ref tr), (1, .int fd), (2, .int (nI j))] [] := by
    intro nn
    induction nn with
    | zero =>
      intro j hj hnj
      omega
    | succ nn ih =>
      intro j hj hnj
      refine z_iload_n X d_Tre_names_2 rfl ?_
      refine z_aload_n X d_Tre_names_3 rfl ?_
      refine z_get X d_Tre_names_4 (hP.lo 0 rfl) (hP.at 0 rfl) cl_Tre in_Tre 3 (by decide) fl_Tre_21 rfl rfl ?_
      refine z_icmp_ge X 37 d_Tre_names_7 (by decide) (fun h7 => ?_) (fun h7 => ?_)
      · skip
        have hju : j = u := by have := (nI_leI (a := u) (b := j) (by omega) (by omega)).mp h7; omega
        subst hju
        refine z_iconst X d_Tre_names_37 (v := 0) (by decide) ?_
        exact z_zret X d_Tre_names_38 rfl ⟨by rw [if_neg (by rw [hnj]; decide)], rfl, rfl⟩
      · skip
        have hju : j < u := by
          rcases Nat.lt_or_ge j u with z | z
          · exact z
          · exact absurd (nI_le z (by omega)) h7
        refine z_aload_n X d_Tre_names_10 rfl ?_
        refine z_iload_n X d_Tre_names_11 rfl ?_
        refine z_callV X zG_ok (c_Tre_kindOf hP hu hn) d_Tre_names_12 ⟨(z_cb (n := 1) X.2.2.2.2.1 ml_Tre_42 mc_Tre_kindOf ini_Tre (by decide +kernel) rfl rfl ⟨Nat.le_of_ble_eq_true rfl, Nat.le_of_ble_eq_true rfl⟩), X.2.2.2.2.1 _ im_Tre_kindOf, X.2.2.2.2.1 _ sel_Tre_kindOf⟩ (hP.lo 0 rfl) (hP.at 0 rfl) cl_Tre rfl rfl (Nat.le_of_ble_eq_true rfl) ⟨Nat.le_of_ble_eq_true rfl, Nat.le_of_ble_eq_true rfl⟩ (fun r N1 f1 hp hN1 => ?_)
        obtain ⟨rfl, rfl, rfl⟩ := hp
        refine z_bipush X d_Tre_names_15 (v := 12) (by decide) ?_
        refine z_icmp_lt X 31 d_Tre_names_17 (by decide) (fun h17 => ?_) (fun h17 => ?_)
        · skip
          refine z_iinc X d_Tre_names_31 rfl (nI_1 _) (by decide) rfl ?_
          refine z_goto X 2 d_Tre_names_34 (by decide) ?_
          refine ih (j + 1) (by omega) ?_
          rw [sgv_nI hju (by omega)] at h17
          first
            | (simp [tnames, hnj, h17]; done)
            | (rw [sgv_nI hju (by omega)] at h26; simp [tnames, hnj, h26]; done)
        · skip
          refine z_aload_n X d_Tre_names_20 rfl ?_
          refine z_iload_n X d_Tre_names_21 rfl ?_
          refine z_callV X zG_ok (c_Tre_valueOf hP hu hn) d_Tre_names_22 ⟨(z_cb (n := 1) X.2.2.2.2.1 ml_Tre_46 mc_Tre_valueOf ini_Tre (by decide +kernel) rfl rfl ⟨Nat.le_of_ble_eq_true rfl, Nat.le_of_ble_eq_true rfl⟩), X.2.2.2.2.1 _ im_Tre_valueOf, X.2.2.2.2.1 _ sel_Tre_valueOf⟩ (hP.lo 0 rfl) (hP.at 0 rfl) cl_Tre rfl rfl (Nat.le_of_ble_eq_true rfl) ⟨Nat.le_of_ble_eq_true rfl, Nat.le_of_ble_eq_true rfl⟩ (fun r N1 f1 hp hN1 => ?_)
          obtain ⟨rfl, rfl, rfl⟩ := hp
          refine z_iload_n X d_Tre_names_25 rfl ?_
          refine z_icmp_ne X 31 d_Tre_names_26 (by decide) (fun h26 => ?_) (fun h26 => ?_)
          · skip
            refine z_iinc X d_Tre_names_31 rfl (nI_1 _) (by decide) rfl ?_
            refine z_goto X 2 d_Tre_names_34 (by decide) ?_
            refine ih (j + 1) (by omega) ?_
            rw [sgv_nI hju (by omega)] at h17
            first
              | (simp [tnames, hnj, h17]; done)
              | (rw [sgv_nI hju (by omega)] at h26; simp [tnames, hnj, h26]; done)
          · skip
            refine z_iconst X d_Tre_names_29 (v := 1) (by decide) ?_
            exact z_zret X d_Tre_names_30 rfl ⟨by rw [sgv_nI hju (by omega)] at h17 h26; rw [if_pos (tnames_up (j := j + 1) (by simp [tnames, h17, h26]) (by omega))], rfl, rfl⟩
  refine z_iconst X d_Tre_names_0 (v := 0) (by decide) ?_
  refine z_istore_n X d_Tre_names_1 (by decide) rfl ?_
  exact L2 (u + 1) 0 (by omega) rfl
end
end
section
/-! switches, by their lists of targets; booleans -/
section ZSW
variable {p : Program} {l : Launch} {e : Env} {R : Room} {s : State} {m : MethodId} {args : Array Value} {below : List Frame} {meth : Method} {c : Code} {cells slots : Nat} {Q : State → Prop} {D : va_G} {cl : List vw_C} {tys : List (ClassId × FieldType)} {b0 : Nat} {G : State → Prop} {cc : ByteArray} {nL : Nat} {own : String} {Ts : List Cond} {ret : Option FieldType} {N : Nat} {f : Nat → va_E} {pc : Nat} {lv : List (Nat × Value)} {st : List Value}
theorem zW.topc {pc' : Nat} (h : pc = pc') (kk : zW p l e R s m args below meth c D cl b0 nL cells slots Q N f pc' lv st) : zW p l e R s m args below meth c D cl b0 nL cells slots Q N f pc lv st := h ▸ kk
theorem z_tableL (X : zX p s m args meth c D cl tys b0 G cc nL own Ts ret) {dflt lo hi : Int} {offs : Array Int} {len : Nat} {x : Int32} (dt : Nat) (ts : List Nat) (hdg : decode cc pc = .ok (.tableswitch dflt lo hi offs, len)) (hd : (pc : Int) + dflt = (dt : Int)) (hts : offs.toList.map (fun o => (pc : Int) + o) = ts.map (fun (t : Nat) => (t : Int))) (hsz : hi + 1 = lo + (ts.length : Int))
    (kk : ∀ i : Nat, i < ts.length → x = Int32.ofInt (lo + (i : Int)) → zW p l e R s m args below meth c D cl b0 nL cells slots Q N f (ts.getD i 0) lv st) (kd : (∀ i : Nat, i < ts.length → ¬ x = Int32.ofInt (lo + (i : Int))) → zW p l e R s m args below meth c D cl b0 nL cells slots Q N f dt lv st) (hlo : -2147483648 ≤ lo ∧ hi ≤ 2147483647) : zW p l e R s m args below meth c D cl b0 nL cells slots Q N f pc lv (.int x :: st) := by
  by_cases h : x.toInt < lo ∨ hi < x.toInt
  · refine z_tableOut X dt hdg h hd (kd (fun i hi2 e => ?_))
    have e2 : x.toInt = lo + (i : Int) := by
      rw [e]
      exact Int32.toInt_ofInt_of_le (by omega) (by omega)
    omega
  · have h1 : ¬ x.toInt < lo := fun q => h (Or.inl q)
    have h2 : ¬ hi < x.toInt := fun q => h (Or.inr q)
    obtain ⟨i, hi2⟩ : ∃ i : Nat, (x.toInt - lo).toNat = i := ⟨_, rfl⟩
    have hix : x.toInt = lo + (i : Int) := by omega
    have hl : i < ts.length := by omega
    have hl2 : ts.length = offs.toList.length := by
      have := congrArg List.length hts
      simpa using this.symm
    have ho : offs[i]? = some (offs.toList[i]'(by omega)) := by
      rw [← Array.getElem?_toList]
      exact List.getElem?_eq_getElem (by omega)
    refine z_tableIn X (ts.getD i 0) hdg h1 h2 (off := offs.toList[i]'(by omega)) (by rw [hi2]; exact ho) ?_ (kk i hl ?_)
    · have e1 : (offs.toList.map (fun o => (pc : Int) + o))[i]? = some ((pc : Int) + offs.toList[i]'(by omega)) := by
        rw [List.getElem?_map, List.getElem?_eq_getElem (by omega)]
        rfl
      rw [hts, List.getElem?_map, List.getElem?_eq_getElem hl] at e1
      rw [List.getD_eq_getElem?_getD, List.getElem?_eq_getElem hl]
      exact (Option.some.inj e1).symm
    · rw [← hix]
      exact (Int32.ofInt_toInt x).symm
/-- a lookupswitch, by its pairs -/
theorem z_lookL (X : zX p s m args meth c D cl tys b0 G cc nL own Ts ret) {dflt : Int} {x : Int32} (dt : Nat) : ∀ (qs : List (Int × Int)) (ks : List (Int32 × Nat)), qs.map (fun q => (q.1, (pc : Int) + q.2)) = ks.map (fun k => (k.1.toInt, (k.2 : Int))) → (pc : Int) + dflt = (dt : Int) →
    (∀ i : Nat, i < ks.length → x = (ks.getD i (0, 0)).1 → zW p l e R s m args below meth c D cl b0 nL cells slots Q N f (ks.getD i (0, 0)).2 lv st) → ((∀ i : Nat, i < ks.length → ¬ x = (ks.getD i (0, 0)).1) → zW p l e R s m args below meth c D cl b0 nL cells slots Q N f dt lv st) →
    ∃ (off : Int) (tgt : Nat), Op.lookupswitch.offset qs dflt x.toInt = off ∧ (pc : Int) + off = (tgt : Int) ∧ zW p l e R s m args below meth c D cl b0 nL cells slots Q N f tgt lv st
  | [], [], _, hd, _, kd => ⟨dflt, dt, rfl, hd, kd (fun i h => absurd h (by simp))⟩
  | [], k :: ks, h, _, _, _ => by simp at h
  | q :: qs, [], h, _, _, _ => by simp at h
  | q :: qs, k :: ks, h, hd, kk, kd => by
    rw [List.map_cons, List.map_cons] at h
    obtain ⟨h1, h2⟩ := List.cons.inj h
    have hk1 : q.1 = k.1.toInt := congrArg Prod.fst h1
    have hk2 : (pc : Int) + q.2 = (k.2 : Int) := congrArg Prod.snd h1
    by_cases e : x = k.1
    · refine ⟨q.2, k.2, ?_, hk2, kk 0 (by simp) e⟩
      rw [Op.lookupswitch.offset_cons, if_pos (by rw [hk1, e])]
    · obtain ⟨off, tgt, a1, a2, a3⟩ := z_lookL X (x := x) dt qs ks h2 hd (fun i hi hx => kk (i + 1) (by simpa using hi) (by simpa using hx)) (fun hn => kd (fun i hi => by
        cases i with
        | zero => simpa using e
        | succ i => simpa using hn i (by simpa using hi)))
      refine ⟨off, tgt, ?_, a2, a3⟩
      rw [Op.lookupswitch.offset_cons, if_neg (by rw [hk1]; exact fun z => e (Int32.toInt_inj.mp z.symm) )]
      exact a1
theorem z_lookS (X : zX p s m args meth c D cl tys b0 G cc nL own Ts ret) {dflt : Int} {ps : Array (Int × Int)} {len : Nat} {x : Int32} (dt : Nat) (ks : List (Int32 × Nat)) (hdg : decode cc pc = .ok (.lookupswitch dflt ps, len)) (hp : (ps.toList.zip (ps.toList.drop 1)).all (fun (a, next) => a.1 < next.1) = true) (hks : ps.toList.map (fun q => (q.1, (pc : Int) + q.2)) = ks.map (fun k => (k.1.toInt, (k.2 : Int)))) (hd : (pc : Int) + dflt = (dt : Int))
    (kk : ∀ i : Nat, i < ks.length → x = (ks.getD i (0, 0)).1 → zW p l e R s m args below meth c D cl b0 nL cells slots Q N f (ks.getD i (0, 0)).2 lv st) (kd : (∀ i : Nat, i < ks.length → ¬ x = (ks.getD i (0, 0)).1) → zW p l e R s m args below meth c D cl b0 nL cells slots Q N f dt lv st) : zW p l e R s m args below meth c D cl b0 nL cells slots Q N f pc lv (.int x :: st) := by
  obtain ⟨off, tgt, a1, a2, a3⟩ := z_lookL X (x := x) (dflt := dflt) dt ps.toList ks hks hd kk kd
  exact z_lookup X tgt hdg hp a1 a2 a3
end ZSW
/-- booleans as the machine has them -/
def zb (b : Bool) : Int32 := if b = true then 1 else 0
theorem zb_n (b : Bool) : narrow .boolean (.int (zb b)) = .int (zb b) := by cases b <;> rfl
theorem zb_fit (b : Bool) : fits .boolean (.int (zb b)) = true := by cases b <;> rfl
theorem zb_0 {b : Bool} : zb b = 0 ↔ b = false := by cases b <;> decide
theorem zb_1 {b : Bool} : zb b = 1 ↔ b = true := by cases b <;> decide
theorem zb_i {b b' : Bool} : zb b = zb b' ↔ b = b' := by cases b <;> cases b' <;> decide
theorem zb_v (b : Bool) : vp_nar .boolean (zb b) = zb b := by cases b <;> rfl
end
section
abbrev oRul (tr : Nat) (g : Int32) (h : Bool) (d lt : Int32) (mt an fa : Bool) : va_E := .inr (3, [.ref tr, .int g, .int (zb h), .int d, .int lt, .int (zb mt), .int (zb an), .int (zb fa)])
/-- what a check leaves with a rule: answered, met, faulty -/
def ruA (lt : Int32) (an : Bool) (x : Int32) : Bool := if x = lt then an else false
def ruM (mt : Bool) (x : Int32) : Bool := if x = 1 then true else mt
def ruF (lt : Int32) (an : Bool) (x : Int32) : Bool := if x = 1 then false else !ruA lt an x
section
variable {l : Launch} {D : va_G} {ck : Nat → ClassId} {ad : (Nat → Nat) × (Nat → Nat)} {b0 N : Nat} {f : Nat → va_E}
theorem d_Rul_isBad_0 : decode prog_5_method_3_code 0 = .ok (.aload_n 0, 1) := by decide +kernel
theorem d_Rul_isBad_1 : decode prog_5_method_3_code 1 = .ok (.getfield 31, 3) := by decide +kernel
theorem d_Rul_isBad_4 : decode prog_5_method_3_code 4 = .ok (.ifCond .eq 15, 3) := by decide +kernel
theorem d_Rul_isBad_7 : decode prog_5_method_3_code 7 = .ok (.aload_n 0, 1) := by decide +kernel
theorem d_Rul_isBad_8 : decode prog_5_method_3_code 8 = .ok (.getfield 15, 3) := by decide +kernel
theorem d_Rul_isBad_11 : decode prog_5_method_3_code 11 = .ok (.iload_n 1, 1) := by decide +kernel
theorem d_Rul_isBad_12 : decode prog_5_method_3_code 12 = .ok (.if_icmp .ne 7, 3) := by decide +kernel
theorem d_Rul_isBad_15 : decode prog_5_method_3_code 15 = .ok (.iconst 1, 1) := by decide +kernel
theorem d_Rul_isBad_16 : decode prog_5_method_3_code 16 = .ok (.goto 4, 3) := by decide +kernel
theorem d_Rul_isBad_19 : decode prog_5_method_3_code 19 = .ok (.iconst 0, 1) := by decide +kernel
theorem d_Rul_isBad_20 : decode prog_5_method_3_code 20 = .ok (.ireturn, 1) := by decide +kernel
set_option maxHeartbeats 4000000 in
set_option maxRecDepth 100000 in
theorem c_Rul_isBad {ru tr : Nat} {g d lt : Int32} {h mt an fa : Bool} (hP : zP b0 N f [(ru, oRul tr g h d lt mt an fa)]) {q : Bool} : zK l D ck ad b0 y_Rul_isBad prog_5_method_3_code 2 ((some FieldType.boolean)) 0 0 0 [.ref ru, .int (zb q)] N f (fun r N' f' => r = some (.int (zb (fa && (h == q)))) ∧ N = N' ∧ f = f') := by
  refine zM.of zG_w (by decide) (Nat.le_of_ble_eq_true rfl) ?_
  intro zp ze zst zm zar zbe zme zc X hnm hb0
  refine z_aload_n X d_Rul_isBad_0 rfl ?_
  refine z_get X d_Rul_isBad_1 (hP.lo 0 rfl) (hP.at 0 rfl) cl_Rul in_Rul 7 (by decide) fl_Rul_31 rfl rfl ?_
  refine z_if_eq X 19 d_Rul_isBad_4 (by decide) (fun h4 => ?_) (fun h4 => ?_)
  · skip
    refine z_iconst X d_Rul_isBad_19 (v := 0) (by decide) ?_
    exact z_zret X d_Rul_isBad_20 rfl ⟨by first | rw [zb_0.mp h4]; rfl | (rw [zb_i] at h12; cases fa <;> cases h <;> cases q <;> simp_all [zb]), rfl, rfl⟩
  · skip
    refine z_aload_n X d_Rul_isBad_7 rfl ?_
    refine z_get X d_Rul_isBad_8 (hP.lo 0 rfl) (hP.at 0 rfl) cl_Rul in_Rul 2 (by decide) fl_Rul_15 rfl rfl ?_
    refine z_iload_n X d_Rul_isBad_11 rfl ?_
    refine z_icmp_ne X 19 d_Rul_isBad_12 (by decide) (fun h12 => ?_) (fun h12 => ?_)
    · skip
      refine z_iconst X d_Rul_isBad_19 (v := 0) (by decide) ?_
      exact z_zret X d_Rul_isBad_20 rfl ⟨by first | rw [zb_0.mp h4]; rfl | (rw [zb_i] at h12; cases fa <;> cases h <;> cases q <;> simp_all [zb]), rfl, rfl⟩
    · skip
      refine z_iconst X d_Rul_isBad_15 (v := 1) (by decide) ?_
      refine z_goto X 20 d_Rul_isBad_16 (by decide) ?_
      exact z_zret X d_Rul_isBad_20 rfl ⟨by first | rw [zb_0.mp h4]; rfl | (rw [zb_i] at h12; cases fa <;> cases h <;> cases q <;> simp_all [zb]), rfl, rfl⟩
theorem d_Rul_takeResult_0 : decode prog_5_method_2_code 0 = .ok (.iload_n 1, 1) := by decide +kernel
theorem d_Rul_takeResult_1 : decode prog_5_method_2_code 1 = .ok (.aload_n 0, 1) := by decide +kernel
theorem d_Rul_takeResult_2 : decode prog_5_method_2_code 2 = .ok (.getfield 22, 3) := by decide +kernel
theorem d_Rul_takeResult_5 : decode prog_5_method_2_code 5 = .ok (.if_icmp .eq 8, 3) := by decide +kernel
theorem d_Rul_takeResult_8 : decode prog_5_method_2_code 8 = .ok (.aload_n 0, 1) := by decide +kernel
theorem d_Rul_takeResult_9 : decode prog_5_method_2_code 9 = .ok (.iconst 0, 1) := by decide +kernel
theorem d_Rul_takeResult_10 : decode prog_5_method_2_code 10 = .ok (.putfield 28, 3) := by decide +kernel
theorem d_Rul_takeResult_13 : decode prog_5_method_2_code 13 = .ok (.aload_n 0, 1) := by decide +kernel
theorem d_Rul_takeResult_14 : decode prog_5_method_2_code 14 = .ok (.iload_n 1, 1) := by decide +kernel
theorem d_Rul_takeResult_15 : decode prog_5_method_2_code 15 = .ok (.putfield 22, 3) := by decide +kernel
theorem d_Rul_takeResult_18 : decode prog_5_method_2_code 18 = .ok (.iload_n 1, 1) := by decide +kernel
theorem d_Rul_takeResult_19 : decode prog_5_method_2_code 19 = .ok (.iconst 1, 1) := by decide +kernel
theorem d_Rul_takeResult_20 : decode prog_5_method_2_code 20 = .ok (.if_icmp .ne 8, 3) := by decide +kernel
theorem d_Rul_takeResult_23 : decode prog_5_method_2_code 23 = .ok (.aload_n 0, 1) := by decide +kernel
theorem d_Rul_takeResult_24 : decode prog_5_method_2_code 24 = .ok (.iconst 1, 1) := by decide +kernel
theorem d_Rul_takeResult_25 : decode prog_5_method_2_code 25 = .ok (.putfield 25, 3) := by decide +kernel
theorem d_Rul_takeResult_28 : decode prog_5_method_2_code 28 = .ok (.aload_n 0, 1) := by decide +kernel
theorem d_Rul_takeResult_29 : decode prog_5_method_2_code 29 = .ok (.iload_n 1, 1) := by decide +kernel
theorem d_Rul_takeResult_30 : decode prog_5_method_2_code 30 = .ok (.iconst 1, 1) := by decide +kernel
theorem d_Rul_takeResult_31 : decode prog_5_method_2_code 31 = .ok (.if_icmp .eq 14, 3) := by decide +kernel
theorem d_Rul_takeResult_34 : decode prog_5_method_2_code 34 = .ok (.aload_n 0, 1) := by decide +kernel
theorem d_Rul_takeResult_35 : decode prog_5_method_2_code 35 = .ok (.getfield 28, 3) := by decide +kernel
theorem d_Rul_takeResult_38 : decode prog_5_method_2_code 38 = .ok (.ifCond .ne 7, 3) := by decide +kernel
theorem d_Rul_takeResult_41 : decode prog_5_method_2_code 41 = .ok (.iconst 1, 1) := by decide +kernel
theorem d_Rul_takeResult_42 : decode prog_5_method_2_code 42 = .ok (.goto 4, 3) := by decide +kernel
theorem d_Rul_takeResult_45 : decode prog_5_method_2_code 45 = .ok (.iconst 0, 1) := by decide +kernel
theorem d_Rul_takeResult_46 : decode prog_5_method_2_code 46 = .ok (.putfield 31, 3) := by decide +kernel
theorem d_Rul_takeResult_49 : decode prog_5_method_2_code 49 = .ok (.return_, 1) := by decide +kernel
set_option maxHeartbeats 4000000 in
set_option maxRecDepth 100000 in
theorem c_Rul_takeResult {ru tr : Nat} {g d lt : Int32} {h mt an fa : Bool} (hP : zP b0 N f [(ru, oRul tr g h d lt mt an fa)]) {x : Int32} : zK l D ck ad b0 y_Rul_takeResult prog_5_method_2_code 2 (none) 0 0 0 [.ref ru, .int x] N f (fun r N' f' => r = none ∧ N = N' ∧ zP b0 N f' [(ru, oRul tr g h d x (ruM mt x) (ruA lt an x) (ruF lt an x))] ∧ zF N f f' [ru]) := by
  refine zM.of zG_w (by decide) (Nat.le_of_ble_eq_true rfl) ?_
  intro zp ze zst zm zar zbe zme zc X hnm hb0
  have hF : zF N f f [ru] := zF.rf
  refine z_iload_n X d_Rul_takeResult_0 rfl ?_
  refine z_aload_n X d_Rul_takeResult_1 rfl ?_
  refine z_get X d_Rul_takeResult_2 (hP.lo 0 rfl) (hP.at 0 rfl) cl_Rul in_Rul 4 (by decide) fl_Rul_22 rfl rfl ?_
  refine z_icmp_eq X 13 d_Rul_takeResult_5 (by decide) (fun h5 => ?_) (fun h5 => ?_)
  · skip
    refine z_aload_n X d_Rul_takeResult_13 rfl ?_
    refine z_iload_n X d_Rul_takeResult_14 rfl ?_
    refine z_putP X t_Rul ty_Rul n_Rul d_Rul_takeResult_15 hP 0 rfl cl_Rul in_Rul 4 (by decide) fl_Rul_22 rfl rfl rfl rfl rfl (Nat.le_of_ble_eq_true rfl) (fun hP => ?_)
    have hF := hF.by (by simp) hP
    refine z_iload_n X d_Rul_takeResult_18 rfl ?_
    refine z_iconst X d_Rul_takeResult_19 (v := 1) (by decide) ?_
    refine z_icmp_ne X 28 d_Rul_takeResult_20 (by decide) (fun h20 => ?_) (fun h20 => ?_)
    · skip
      refine z_aload_n X d_Rul_takeResult_28 rfl ?_
      refine z_iload_n X d_Rul_takeResult_29 rfl ?_
      refine z_iconst X d_Rul_takeResult_30 (v := 1) (by decide) ?_
      refine z_icmp_eq X 45 d_Rul_takeResult_31 (by decide) (fun h31 => ?_) (fun h31 => ?_)
      · skip
        refine z_iconst X d_Rul_takeResult_45 (v := 0) (by decide) ?_
        refine z_putP X t_Rul ty_Rul n_Rul d_Rul_takeResult_46 hP 0 rfl cl_Rul in_Rul 7 (by decide) fl_Rul_31 rfl rfl rfl rfl rfl (Nat.le_of_ble_eq_true rfl) (fun hP => ?_)
        have hF := hF.by (by simp) hP
        exact z_vret X d_Rul_takeResult_49 ⟨rfl, rfl, hP.eq (by
    clear hP hF
    cases an <;> first | exact absurd h20 h31 | exact absurd h31 h20 | exact absurd h38 (by decide) | exact absurd rfl h38 | (subst h5; simp [ruA, ruM, ruF, zb, h20]; done) | (subst h5; subst h20; simp [ruA, ruM, ruF, zb]; done) | (subst h20; simp [ruA, ruM, ruF, zb, h5]; done) | (simp [ruA, ruM, ruF, zb, h5, h20]; done)), hF⟩
      · skip
        refine z_aload_n X d_Rul_takeResult_34 rfl ?_
        refine z_get X d_Rul_takeResult_35 (hP.lo 0 rfl) (hP.at 0 rfl) cl_Rul in_Rul 6 (by decide) fl_Rul_28 rfl rfl ?_
        refine z_if_ne X 45 d_Rul_takeResult_38 (by decide) (fun h38 => ?_) (fun h38 => ?_)
        · skip
          refine z_iconst X d_Rul_takeResult_45 (v := 0) (by decide) ?_
          refine z_putP X t_Rul ty_Rul n_Rul d_Rul_takeResult_46 hP 0 rfl cl_Rul in_Rul 7 (by decide) fl_Rul_31 rfl rfl rfl rfl rfl (Nat.le_of_ble_eq_true rfl) (fun hP => ?_)
          have hF := hF.by (by simp) hP
          exact z_vret X d_Rul_takeResult_49 ⟨rfl, rfl, hP.eq (by
    clear hP hF
    cases an <;> first | exact absurd h20 h31 | exact absurd h31 h20 | exact absurd h38 (by decide) | exact absurd rfl h38 | (subst h5; simp [ruA, ruM, ruF, zb, h20]; done) | (subst h5; subst h20; simp [ruA, ruM, ruF, zb]; done) | (subst h20; simp [ruA, ruM, ruF, zb, h5]; done) | (simp [ruA, ruM, ruF, zb, h5, h20]; done)), hF⟩
        · skip
          refine z_iconst X d_Rul_takeResult_41 (v := 1) (by decide) ?_
          refine z_goto X 46 d_Rul_takeResult_42 (by decide) ?_
          refine z_putP X t_Rul ty_Rul n_Rul d_Rul_takeResult_46 hP 0 rfl cl_Rul in_Rul 7 (by decide) fl_Rul_31 rfl rfl rfl rfl rfl (Nat.le_of_ble_eq_true rfl) (fun hP => ?_)
          have hF := hF.by (by simp) hP
          exact z_vret X d_Rul_takeResult_49 ⟨rfl, rfl, hP.eq (by
    clear hP hF
    cases an <;> first | exact absurd h20 h31 | exact absurd h31 h20 | exact absurd h38 (by decide) | exact absurd rfl h38 | (subst h5; simp [ruA, ruM, ruF, zb, h20]; done) | (subst h5; subst h20; simp [ruA, ruM, ruF, zb]; done) | (subst h20; simp [ruA, ruM, ruF, zb, h5]; done) | (simp [ruA, ruM, ruF, zb, h5, h20]; done)), hF⟩
    · skip
      refine z_aload_n X d_Rul_takeResult_23 rfl ?_
      refine z_iconst X d_Rul_takeResult_24 (v := 1) (by decide) ?_
      refine z_putP X t_Rul ty_Rul n_Rul d_Rul_takeResult_25 hP 0 rfl cl_Rul in_Rul 5 (by decide) fl_Rul_25 rfl rfl rfl rfl rfl (Nat.le_of_ble_eq_true rfl) (fun hP => ?_)
      have hF := hF.by (by simp) hP
      refine z_aload_n X d_Rul_takeResult_28 rfl ?_
      refine z_iload_n X d_Rul_takeResult_29 rfl ?_
      refine z_iconst X d_Rul_takeResult_30 (v := 1) (by decide) ?_
      refine z_icmp_eq X 45 d_Rul_takeResult_31 (by decide) (fun h31 => ?_) (fun h31 => ?_)
      · skip
        refine z_iconst X d_Rul_takeResult_45 (v := 0) (by decide) ?_
        refine z_putP X t_Rul ty_Rul n_Rul d_Rul_takeResult_46 hP 0 rfl cl_Rul in_Rul 7 (by decide) fl_Rul_31 rfl rfl rfl rfl rfl (Nat.le_of_ble_eq_true rfl) (fun hP => ?_)
        have hF := hF.by (by simp) hP
        exact z_vret X d_Rul_takeResult_49 ⟨rfl, rfl, hP.eq (by
    clear hP hF
    cases an <;> first | exact absurd h20 h31 | exact absurd h31 h20 | exact absurd h38 (by decide) | exact absurd rfl h38 | (subst h5; simp [ruA, ruM, ruF, zb, h20]; done) | (subst h5; subst h20; simp [ruA, ruM, ruF, zb]; done) | (subst h20; simp [ruA, ruM, ruF, zb, h5]; done) | (simp [ruA, ruM, ruF, zb, h5, h20]; done)), hF⟩
      · skip
        refine z_aload_n X d_Rul_takeResult_34 rfl ?_
        refine z_get X d_Rul_takeResult_35 (hP.lo 0 rfl) (hP.at 0 rfl) cl_Rul in_Rul 6 (by decide) fl_Rul_28 rfl rfl ?_
        refine z_if_ne X 45 d_Rul_takeResult_38 (by decide) (fun h38 => ?_) (fun h38 => ?_)
        · skip
          refine z_iconst X d_Rul_takeResult_45 (v := 0) (by decide) ?_
          refine z_putP X t_Rul ty_Rul n_Rul d_Rul_takeResult_46 hP 0 rfl cl_Rul in_Rul 7 (by decide) fl_Rul_31 rfl rfl rfl rfl rfl (Nat.le_of_ble_eq_true rfl) (fun hP => ?_)
          have hF := hF.by (by simp) hP
          exact z_vret X d_Rul_takeResult_49 ⟨rfl, rfl, hP.eq (by
    clear hP hF
    cases an <;> first | exact absurd h20 h31 | exact absurd h31 h20 | exact absurd h38 (by decide) | exact absurd rfl h38 | (subst h5; simp [ruA, ruM, ruF, zb, h20]; done) | (subst h5; subst h20; simp [ruA, ruM, ruF, zb]; done) | (subst h20; simp [ruA, ruM, ruF, zb, h5]; done) | (simp [ruA, ruM, ruF, zb, h5, h20]; done)), hF⟩
        · skip
          refine z_iconst X d_Rul_takeResult_41 (v := 1) (by decide) ?_
          refine z_goto X 46 d_Rul_takeResult_42 (by decide) ?_
          refine z_putP X t_Rul ty_Rul n_Rul d_Rul_takeResult_46 hP 0 rfl cl_Rul in_Rul 7 (by decide) fl_Rul_31 rfl rfl rfl rfl rfl (Nat.le_of_ble_eq_true rfl) (fun hP => ?_)
          have hF := hF.by (by simp) hP
          exact z_vret X d_Rul_takeResult_49 ⟨rfl, rfl, hP.eq (by
    clear hP hF
    cases an <;> first | exact absurd h20 h31 | exact absurd h31 h20 | exact absurd h38 (by decide) | exact absurd rfl h38 | (subst h5; simp [ruA, ruM, ruF, zb, h20]; done) | (subst h5; subst h20; simp [ruA, ruM, ruF, zb]; done) | (subst h20; simp [ruA, ruM, ruF, zb, h5]; done) | (simp [ruA, ruM, ruF, zb, h5, h20]; done)), hF⟩
  · skip
    refine z_aload_n X d_Rul_takeResult_8 rfl ?_
    refine z_iconst X d_Rul_takeResult_9 (v := 0) (by decide) ?_
    refine z_putP X t_Rul ty_Rul n_Rul d_Rul_takeResult_10 hP 0 rfl cl_Rul in_Rul 6 (by decide) fl_Rul_28 rfl rfl rfl rfl rfl (Nat.le_of_ble_eq_true rfl) (fun hP => ?_)
    have hF := hF.by (by simp) hP
    refine z_aload_n X d_Rul_takeResult_13 rfl ?_
    refine z_iload_n X d_Rul_takeResult_14 rfl ?_
    refine z_putP X t_Rul ty_Rul n_Rul d_Rul_takeResult_15 hP 0 rfl cl_Rul in_Rul 4 (by decide) fl_Rul_22 rfl rfl rfl rfl rfl (Nat.le_of_ble_eq_true rfl) (fun hP => ?_)
    have hF := hF.by (by simp) hP
    refine z_iload_n X d_Rul_takeResult_18 rfl ?_
    refine z_iconst X d_Rul_takeResult_19 (v := 1) (by decide) ?_
    refine z_icmp_ne X 28 d_Rul_takeResult_20 (by decide) (fun h20 => ?_) (fun h20 => ?_)
    · skip
      refine z_aload_n X d_Rul_takeResult_28 rfl ?_
      refine z_iload_n X d_Rul_takeResult_29 rfl ?_
      refine z_iconst X d_Rul_takeResult_30 (v := 1) (by decide) ?_
      refine z_icmp_eq X 45 d_Rul_takeResult_31 (by decide) (fun h31 => ?_) (fun h31 => ?_)
      · skip
        refine z_iconst X d_Rul_takeResult_45 (v := 0) (by decide) ?_
        refine z_putP X t_Rul ty_Rul n_Rul d_Rul_takeResult_46 hP 0 rfl cl_Rul in_Rul 7 (by decide) fl_Rul_31 rfl rfl rfl rfl rfl (Nat.le_of_ble_eq_true rfl) (fun hP => ?_)
        have hF := hF.by (by simp) hP
        exact z_vret X d_Rul_takeResult_49 ⟨rfl, rfl, hP.eq (by
    clear hP hF
    cases an <;> first | exact absurd h20 h31 | exact absurd h31 h20 | exact absurd h38 (by decide) | exact absurd rfl h38 | (subst h5; simp [ruA, ruM, ruF, zb, h20]; done) | (subst h5; subst h20; simp [ruA, ruM, ruF, zb]; done) | (subst h20; simp [ruA, ruM, ruF, zb, h5]; done) | (simp [ruA, ruM, ruF, zb, h5, h20]; done)), hF⟩
      · skip
        refine z_aload_n X d_Rul_takeResult_34 rfl ?_
        refine z_get X d_Rul_takeResult_35 (hP.lo 0 rfl) (hP.at 0 rfl) cl_Rul in_Rul 6 (by decide) fl_Rul_28 rfl rfl ?_
        refine z_if_ne X 45 d_Rul_takeResult_38 (by decide) (fun h38 => ?_) (fun h38 => ?_)
        · skip
          refine z_iconst X d_Rul_takeResult_45 (v := 0) (by decide) ?_
          refine z_putP X t_Rul ty_Rul n_Rul d_Rul_takeResult_46 hP 0 rfl cl_Rul in_Rul 7 (by decide) fl_Rul_31 rfl rfl rfl rfl rfl (Nat.le_of_ble_eq_true rfl) (fun hP => ?_)
          have hF := hF.by (by simp) hP
          exact z_vret X d_Rul_takeResult_49 ⟨rfl, rfl, hP.eq (by
    clear hP hF
    cases an <;> first | exact absurd h20 h31 | exact absurd h31 h20 | exact absurd h38 (by decide) | exact absurd rfl h38 | (subst h5; simp [ruA, ruM, ruF, zb, h20]; done) | (subst h5; subst h20; simp [ruA, ruM, ruF, zb]; done) | (subst h20; simp [ruA, ruM, ruF, zb, h5]; done) | (simp [ruA, ruM, ruF, zb, h5, h20]; done)), hF⟩
        · skip
          refine z_iconst X d_Rul_takeResult_41 (v := 1) (by decide) ?_
          refine z_goto X 46 d_Rul_takeResult_42 (by decide) ?_
          refine z_putP X t_Rul ty_Rul n_Rul d_Rul_takeResult_46 hP 0 rfl cl_Rul in_Rul 7 (by decide) fl_Rul_31 rfl rfl rfl rfl rfl (Nat.le_of_ble_eq_true rfl) (fun hP => ?_)
          have hF := hF.by (by simp) hP
          exact z_vret X d_Rul_takeResult_49 ⟨rfl, rfl, hP.eq (by
    clear hP hF
    cases an <;> first | exact absurd h20 h31 | exact absurd h31 h20 | exact absurd h38 (by decide) | exact absurd rfl h38 | (subst h5; simp [ruA, ruM, ruF, zb, h20]; done) | (subst h5; subst h20; simp [ruA, ruM, ruF, zb]; done) | (subst h20; simp [ruA, ruM, ruF, zb, h5]; done) | (simp [ruA, ruM, ruF, zb, h5, h20]; done)), hF⟩
    · skip
      refine z_aload_n X d_Rul_takeResult_23 rfl ?_
      refine z_iconst X d_Rul_takeResult_24 (v := 1) (by decide) ?_
      refine z_putP X t_Rul ty_Rul n_Rul d_Rul_takeResult_25 hP 0 rfl cl_Rul in_Rul 5 (by decide) fl_Rul_25 rfl rfl rfl rfl rfl (Nat.le_of_ble_eq_true rfl) (fun hP => ?_)
      have hF := hF.by (by simp) hP
      refine z_aload_n X d_Rul_takeResult_28 rfl ?_
      refine z_iload_n X d_Rul_takeResult_29 rfl ?_
      refine z_iconst X d_Rul_takeResult_30 (v := 1) (by decide) ?_
      refine z_icmp_eq X 45 d_Rul_takeResult_31 (by decide) (fun h31 => ?_) (fun h31 => ?_)
      · skip
        refine z_iconst X d_Rul_takeResult_45 (v := 0) (by decide) ?_
        refine z_putP X t_Rul ty_Rul n_Rul d_Rul_takeResult_46 hP 0 rfl cl_Rul in_Rul 7 (by decide) fl_Rul_31 rfl rfl rfl rfl rfl (Nat.le_of_ble_eq_true rfl) (fun hP => ?_)
        have hF := hF.by (by simp) hP
        exact z_vret X d_Rul_takeResult_49 ⟨rfl, rfl, hP.eq (by
    clear hP hF
    cases an <;> first | exact absurd h20 h31 | exact absurd h31 h20 | exact absurd h38 (by decide) | exact absurd rfl h38 | (subst h5; simp [ruA, ruM, ruF, zb, h20]; done) | (subst h5; subst h20; simp [ruA, ruM, ruF, zb]; done) | (subst h20; simp [ruA, ruM, ruF, zb, h5]; done) | (simp [ruA, ruM, ruF, zb, h5, h20]; done)), hF⟩
      · skip
        refine z_aload_n X d_Rul_takeResult_34 rfl ?_
        refine z_get X d_Rul_takeResult_35 (hP.lo 0 rfl) (hP.at 0 rfl) cl_Rul in_Rul 6 (by decide) fl_Rul_28 rfl rfl ?_
        refine z_if_ne X 45 d_Rul_takeResult_38 (by decide) (fun h38 => ?_) (fun h38 => ?_)
        · skip
          refine z_iconst X d_Rul_takeResult_45 (v := 0) (by decide) ?_
          refine z_putP X t_Rul ty_Rul n_Rul d_Rul_takeResult_46 hP 0 rfl cl_Rul in_Rul 7 (by decide) fl_Rul_31 rfl rfl rfl rfl rfl (Nat.le_of_ble_eq_true rfl) (fun hP => ?_)
          have hF := hF.by (by simp) hP
          exact z_vret X d_Rul_takeResult_49 ⟨rfl, rfl, hP.eq (by
    clear hP hF
    cases an <;> first | exact absurd h20 h31 | exact absurd h31 h20 | exact absurd h38 (by decide) | exact absurd rfl h38 | (subst h5; simp [ruA, ruM, ruF, zb, h20]; done) | (subst h5; subst h20; simp [ruA, ruM, ruF, zb]; done) | (subst h20; simp [ruA, ruM, ruF, zb, h5]; done) | (simp [ruA, ruM, ruF, zb, h5, h20]; done)), hF⟩
        · skip
          refine z_iconst X d_Rul_takeResult_41 (v := 1) (by decide) ?_
          refine z_goto X 46 d_Rul_takeResult_42 (by decide) ?_
          refine z_putP X t_Rul ty_Rul n_Rul d_Rul_takeResult_46 hP 0 rfl cl_Rul in_Rul 7 (by decide) fl_Rul_31 rfl rfl rfl rfl rfl (Nat.le_of_ble_eq_true rfl) (fun hP => ?_)
          have hF := hF.by (by simp) hP
          exact z_vret X d_Rul_takeResult_49 ⟨rfl, rfl, hP.eq (by
    clear hP hF
    cases an <;> first | exact absurd h20 h31 | exact absurd h31 h20 | exact absurd h38 (by decide) | exact absurd rfl h38 | (subst h5; simp [ruA, ruM, ruF, zb, h20]; done) | (subst h5; subst h20; simp [ruA, ruM, ruF, zb]; done) | (subst h20; simp [ruA, ruM, ruF, zb, h5]; done) | (simp [ruA, ruM, ruF, zb, h5, h20]; done)), hF⟩
end
end
section
/-- Worker's functions of answers and values -/
def wBoth (a b : Int32) : Int32 := if a = 0 then 0 else if b = 0 then 0 else if a = 2 then 2 else if b = 2 then 2 else 1
def wTurn (a : Int32) : Int32 := if a = 2 then 2 else if a = 1 then 0 else 1
def wEith (a b : Int32) : Int32 := wTurn (wBoth (wTurn a) (wTurn b))
def wHold (k a b : Int32) : Bool := if k = 5 then decide (a < b) else if k = 6 then decide (b < a) else if k = 7 then decide (a = b) else !decide (a = b)
def wKnow (a b : Int32) : Bool := !decide (a = -2147483648) && !decide (b = -2147483648)
def wCalc (k a b : Int32) : Int32 := if k = 9 then (if wKnow a b = true then a + b else -2147483648) else if k = 10 then (if wKnow a b = true then a - b else -2147483648) else if wKnow a b = true then zb (wHold k a b) else 2
def wJoin (k a b : Int32) : Int32 := if k = 0 then wEith a b else if k = 1 then wBoth a b else if k = 2 then wTurn a else wCalc k a b
theorem wKnow_t {a b : Int32} (h1 : ¬ a = -2147483648) (h2 : ¬ b = -2147483648) : wKnow a b = true := by simp [wKnow, h1, h2]
theorem wKnow_1 {a b : Int32} (h1 : a = -2147483648) : ¬ wKnow a b = true := by simp [wKnow, h1]
theorem wKnow_2 {a b : Int32} (h1 : b = -2147483648) : ¬ wKnow a b = true := by simp [wKnow, h1]
/-- the results' rows: the row a is set, line by line, to h -/
def wsetk (G : Nat → Int32) (a : Nat) (h : Nat → Int32) (k : Nat) : Nat → Int32 := fun j => if a * 10 ≤ j ∧ j < a * 10 + k then h (j - a * 10) else G j
theorem wsetk_0 (G : Nat → Int32) (a : Nat) (h : Nat → Int32) : wsetk G a h 0 = G := by
  funext j
  simp only [wsetk]
  rw [if_neg (by omega)]
theorem wsetk_s (G : Nat → Int32) (a : Nat) (h : Nat → Int32) (k : Nat) : upd (wsetk G a h k) (a * 10 + k) (h k) = wsetk G a h (k + 1) := by
  funext j
  by_cases e : j = a * 10 + k
  · subst e
    simp only [upd, if_true, wsetk]
    rw [if_pos (by omega), show a * 10 + k - a * 10 = k by omega]
  · simp only [upd, if_neg e, wsetk]
    by_cases q : a * 10 ≤ j ∧ j < a * 10 + k
    · rw [if_pos q, if_pos (by omega)]
    · rw [if_neg q, if_neg (by omega)]
/-- Worker.resultOf: of the row c, or of none -/
def wres (G : Nat → Int32) (c : Option Nat) (b : Nat) : Int32 := match c with
  | none => -2147483648
  | some c => G (c * 10 + b)
def wix (c : Option Nat) : Int32 := match c with
  | none => -1
  | some c => nI c
theorem wres_set {G : Nat → Int32} {a : Nat} {h : Nat → Int32} {k : Nat} {c : Option Nat} {b : Nat} (hc : c ≠ some a) (hk : k ≤ 10) (hb : b < 10) : wres (wsetk G a h k) c b = wres G c b := by
  cases c with
  | none => rfl
  | some c =>
    have : c ≠ a := fun e => hc (by rw [e])
    simp only [wres, wsetk]
    rw [if_neg (by omega)]
/-- Worker.overLines, after the lines 1 .. k -/
def wover (kd LB : Int32) (G : Nat → Int32) (c : Option Nat) : Nat → Int32
  | 0 => if kd = 3 then 1 else 0
  | k + 1 => if (LB >>> (nI (k + 1) &&& 31)) &&& 1 = 1 then (if kd = 3 then wBoth (wover kd LB G c k) (wres G c (k + 1)) else wEith (wover kd LB G c k) (wres G c (k + 1))) else wover kd LB G c k
/-- what Worker.workOutNode makes of a node's row -/
def wrow (kd val : Int32) (v : Nat → Int32) (LB : Int32) (G : Nat → Int32) (cl cr : Option Nat) : Nat → Int32 := fun b =>
  if kd = 11 then val else if kd = 13 then dsum v val 9 else if kd = 14 then dcnt v val 9 else if kd = 3 ∨ kd = 4 then wover kd LB G cl 9 else if kd = 12 then dval v val (nI b) else wJoin kd (wres G cl b) (wres G cr b)
abbrev oWrk (dc rs : Nat) (lb : Int32) : va_E := .inr (6, [.ref dc, .ref rs, .int lb])
section
variable {l : Launch} {D : va_G} {ck : Nat → ClassId} {ad : (Nat → Nat) × (Nat → Nat)} {b0 N : Nat} {f : Nat → va_E}
theorem d_Wrk_both_0 : decode prog_8_method_8_code 0 = .ok (.iload_n 0, 1) := by decide +kernel
theorem d_Wrk_both_1 : decode prog_8_method_8_code 1 = .ok (.ifCond .eq 7, 3) := by decide +kernel
theorem d_Wrk_both_4 : decode prog_8_method_8_code 4 = .ok (.iload_n 1, 1) := by decide +kernel
theorem d_Wrk_both_5 : decode prog_8_method_8_code 5 = .ok (.ifCond .ne 5, 3) := by decide +kernel
theorem d_Wrk_both_8 : decode prog_8_method_8_code 8 = .ok (.iconst 0, 1) := by decide +kernel
theorem d_Wrk_both_9 : decode prog_8_method_8_code 9 = .ok (.ireturn, 1) := by decide +kernel
theorem d_Wrk_both_10 : decode prog_8_method_8_code 10 = .ok (.iload_n 0, 1) := by decide +kernel
theorem d_Wrk_both_11 : decode prog_8_method_8_code 11 = .ok (.iconst 2, 1) := by decide +kernel
theorem d_Wrk_both_12 : decode prog_8_method_8_code 12 = .ok (.if_icmp .eq 8, 3) := by decide +kernel
theorem d_Wrk_both_15 : decode prog_8_method_8_code 15 = .ok (.iload_n 1, 1) := by decide +kernel
theorem d_Wrk_both_16 : decode prog_8_method_8_code 16 = .ok (.iconst 2, 1) := by decide +kernel
theorem d_Wrk_both_17 : decode prog_8_method_8_code 17 = .ok (.if_icmp .ne 7, 3) := by decide +kernel
theorem d_Wrk_both_20 : decode prog_8_method_8_code 20 = .ok (.iconst 2, 1) := by decide +kernel
theorem d_Wrk_both_21 : decode prog_8_method_8_code 21 = .ok (.goto 4, 3) := by decide +kernel
theorem d_Wrk_both_24 : decode prog_8_method_8_code 24 = .ok (.iconst 1, 1) := by decide +kernel
theorem d_Wrk_both_25 : decode prog_8_method_8_code 25 = .ok (.ireturn, 1) := by decide +kernel
set_option maxHeartbeats 4000000 in
set_option maxRecDepth 100000 in
theorem c_Wrk_both {a b : Int32} : zK l D ck ad b0 y_Wrk_both prog_8_method_8_code 2 ((some FieldType.int)) 0 0 0 [.int a, .int b] N f (fun r N' f' => r = some (.int (wBoth a b)) ∧ N = N' ∧ f = f') := by
  refine zM.of zG_w (by decide) (Nat.le_of_ble_eq_true rfl) ?_
  intro zp ze zst zm zar zbe zme zc X hnm hb0
  refine z_iload_n X d_Wrk_both_0 rfl ?_
  refine z_if_eq X 8 d_Wrk_both_1 (by decide) (fun h1 => ?_) (fun h1 => ?_)
  · skip
    refine z_iconst X d_Wrk_both_8 (v := 0) (by decide) ?_
    exact z_iret X d_Wrk_both_9 ⟨by first | rw [wBoth, if_pos h1] | rw [wBoth, if_neg h1, if_pos h5], rfl, rfl⟩
  · skip
    refine z_iload_n X d_Wrk_both_4 rfl ?_
    refine z_if_ne X 10 d_Wrk_both_5 (by decide) (fun h5 => ?_) (fun h5 => ?_)
    · skip
      refine z_iload_n X d_Wrk_both_10 rfl ?_
      refine z_iconst X d_Wrk_both_11 (v := 2) (by decide) ?_
      refine z_icmp_eq X 20 d_Wrk_both_12 (by decide) (fun h12 => ?_) (fun h12 => ?_)
      · skip
        refine z_iconst X d_Wrk_both_20 (v := 2) (by decide) ?_
        refine z_goto X 25 d_Wrk_both_21 (by decide) ?_
        exact z_iret X d_Wrk_both_25 ⟨by first | rw [wBoth, if_neg h1, if_neg h5, if_pos h12] | rw [wBoth, if_neg h1, if_neg h5, if_neg h12, if_pos h17] | rw [wBoth, if_neg h1, if_neg h5, if_neg h12, if_neg h17], rfl, rfl⟩
      · skip
        refine z_iload_n X d_Wrk_both_15 rfl ?_
        refine z_iconst X d_Wrk_both_16 (v := 2) (by decide) ?_
        refine z_icmp_ne X 24 d_Wrk_both_17 (by decide) (fun h17 => ?_) (fun h17 => ?_)
        · skip
          refine z_iconst X d_Wrk_both_24 (v := 1) (by decide) ?_
          exact z_iret X d_Wrk_both_25 ⟨by first | rw [wBoth, if_neg h1, if_neg h5, if_pos h12] | rw [wBoth, if_neg h1, if_neg h5, if_neg h12, if_pos h17] | rw [wBoth, if_neg h1, if_neg h5, if_neg h12, if_neg h17], rfl, rfl⟩
        · skip
          refine z_iconst X d_Wrk_both_20 (v := 2) (by decide) ?_
          refine z_goto X 25 d_Wrk_both_21 (by decide) ?_
          exact z_iret X d_Wrk_both_25 ⟨by first | rw [wBoth, if_neg h1, if_neg h5, if_pos h12] | rw [wBoth, if_neg h1, if_neg h5, if_neg h12, if_pos h17] | rw [wBoth, if_neg h1, if_neg h5, if_neg h12, if_neg h17], rfl, rfl⟩
    · skip
      refine z_iconst X d_Wrk_both_8 (v := 0) (by decide) ?_
      exact z_iret X d_Wrk_both_9 ⟨by first | rw [wBoth, if_pos h1] | rw [wBoth, if_neg h1, if_pos h5], rfl, rfl⟩
theorem d_Wrk_turned_0 : decode prog_8_method_10_code 0 = .ok (.iload_n 0, 1) := by decide +kernel
theorem d_Wrk_turned_1 : decode prog_8_method_10_code 1 = .ok (.iconst 2, 1) := by decide +kernel
theorem d_Wrk_turned_2 : decode prog_8_method_10_code 2 = .ok (.if_icmp .ne 5, 3) := by decide +kernel
theorem d_Wrk_turned_5 : decode prog_8_method_10_code 5 = .ok (.iconst 2, 1) := by decide +kernel
theorem d_Wrk_turned_6 : decode prog_8_method_10_code 6 = .ok (.ireturn, 1) := by decide +kernel
theorem d_Wrk_turned_7 : decode prog_8_method_10_code 7 = .ok (.iload_n 0, 1) := by decide +kernel
theorem d_Wrk_turned_8 : decode prog_8_method_10_code 8 = .ok (.iconst 1, 1) := by decide +kernel
theorem d_Wrk_turned_9 : decode prog_8_method_10_code 9 = .ok (.if_icmp .ne 7, 3) := by decide +kernel
theorem d_Wrk_turned_12 : decode prog_8_method_10_code 12 = .ok (.iconst 0, 1) := by decide +kernel
theorem d_Wrk_turned_13 : decode prog_8_method_10_code 13 = .ok (.goto 4, 3) := by decide +kernel
theorem d_Wrk_turned_16 : decode prog_8_method_10_code 16 = .ok (.iconst 1, 1) := by decide +kernel
theorem d_Wrk_turned_17 : decode prog_8_method_10_code 17 = .ok (.ireturn, 1) := by decide +kernel
set_option maxHeartbeats 4000000 in
set_option maxRecDepth 100000 in
theorem c_Wrk_turned {a : Int32} : zK l D ck ad b0 y_Wrk_turned prog_8_method_10_code 1 ((some FieldType.int)) 0 0 0 [.int a] N f (fun r N' f' => r = some (.int (wTurn a)) ∧ N = N' ∧ f = f') := by
  refine zM.of zG_w (by decide) (Nat.le_of_ble_eq_true rfl) ?_
  intro zp ze zst zm zar zbe zme zc X hnm hb0
  refine z_iload_n X d_Wrk_turned_0 rfl ?_
  refine z_iconst X d_Wrk_turned_1 (v := 2) (by decide) ?_
  refine z_icmp_ne X 7 d_Wrk_turned_2 (by decide) (fun h2 => ?_) (fun h2 => ?_)
  · skip
    refine z_iload_n X d_Wrk_turned_7 rfl ?_
    refine z_iconst X d_Wrk_turned_8 (v := 1) (by decide) ?_
    refine z_icmp_ne X 16 d_Wrk_turned_9 (by decide) (fun h9 => ?_) (fun h9 => ?_)
    · skip
      refine z_iconst X d_Wrk_turned_16 (v := 1) (by decide) ?_
      exact z_iret X d_Wrk_turned_17 ⟨by first | rw [wTurn, if_neg h2, if_pos h9] | rw [wTurn, if_neg h2, if_neg h9], rfl, rfl⟩
    · skip
      refine z_iconst X d_Wrk_turned_12 (v := 0) (by decide) ?_
      refine z_goto X 17 d_Wrk_turned_13 (by decide) ?_
      exact z_iret X d_Wrk_turned_17 ⟨by first | rw [wTurn, if_neg h2, if_pos h9] | rw [wTurn, if_neg h2, if_neg h9], rfl, rfl⟩
  · skip
    refine z_iconst X d_Wrk_turned_5 (v := 2) (by decide) ?_
    exact z_iret X d_Wrk_turned_6 ⟨by rw [wTurn, if_pos h2], rfl, rfl⟩
theorem d_Wrk_either_0 : decode prog_8_method_9_code 0 = .ok (.iload_n 0, 1) := by decide +kernel
theorem d_Wrk_either_1 : decode prog_8_method_9_code 1 = .ok (.invokestatic 90, 3) := by decide +kernel
theorem d_Wrk_either_4 : decode prog_8_method_9_code 4 = .ok (.iload_n 1, 1) := by decide +kernel
theorem d_Wrk_either_5 : decode prog_8_method_9_code 5 = .ok (.invokestatic 90, 3) := by decide +kernel
theorem d_Wrk_either_8 : decode prog_8_method_9_code 8 = .ok (.invokestatic 84, 3) := by decide +kernel
theorem d_Wrk_either_11 : decode prog_8_method_9_code 11 = .ok (.invokestatic 90, 3) := by decide +kernel
theorem d_Wrk_either_14 : decode prog_8_method_9_code 14 = .ok (.ireturn, 1) := by decide +kernel
set_option maxHeartbeats 4000000 in
set_option maxRecDepth 100000 in
theorem c_Wrk_either {a b : Int32} : zK l D ck ad b0 y_Wrk_either prog_8_method_9_code 2 ((some FieldType.int)) 1 0 0 [.int a, .int b] N f (fun r N' f' => r = some (.int (wEith a b)) ∧ N = N' ∧ f = f') := by
  refine zM.of zG_w (by decide) (Nat.le_of_ble_eq_true rfl) ?_
  intro zp ze zst zm zar zbe zme zc X hnm hb0
  refine z_iload_n X d_Wrk_either_0 rfl ?_
  refine z_callS X zG_ok (c_Wrk_turned (f := f)) d_Wrk_either_1 ⟨(z_cb (n := 1) X.2.2.2.2.1 ml_Wrk_90 mc_Wrk_turned ini_Wrk (by decide +kernel) rfl rfl ⟨Nat.le_of_ble_eq_true rfl, Nat.le_of_ble_eq_true rfl⟩), X.2.2.2.2.1 _ st_Wrk_turned⟩ rfl rfl (Nat.le_of_ble_eq_true rfl) ⟨Nat.le_of_ble_eq_true rfl, Nat.le_of_ble_eq_true rfl⟩ (fun r N1 f1 hp hN1 => ?_)
  obtain ⟨rfl, rfl, rfl⟩ := hp
  refine z_iload_n X d_Wrk_either_4 rfl ?_
  refine z_callS X zG_ok (c_Wrk_turned (f := f)) d_Wrk_either_5 ⟨(z_cb (n := 1) X.2.2.2.2.1 ml_Wrk_90 mc_Wrk_turned ini_Wrk (by decide +kernel) rfl rfl ⟨Nat.le_of_ble_eq_true rfl, Nat.le_of_ble_eq_true rfl⟩), X.2.2.2.2.1 _ st_Wrk_turned⟩ rfl rfl (Nat.le_of_ble_eq_true rfl) ⟨Nat.le_of_ble_eq_true rfl, Nat.le_of_ble_eq_true rfl⟩ (fun r N1 f1 hp hN1 => ?_)
  obtain ⟨rfl, rfl, rfl⟩ := hp
  refine z_callS X zG_ok (c_Wrk_both (f := f)) d_Wrk_either_8 ⟨(z_cb (n := 2) X.2.2.2.2.1 ml_Wrk_84 mc_Wrk_both ini_Wrk (by decide +kernel) rfl rfl ⟨Nat.le_of_ble_eq_true rfl, Nat.le_of_ble_eq_true rfl⟩), X.2.2.2.2.1 _ st_Wrk_both⟩ rfl rfl (Nat.le_of_ble_eq_true rfl) ⟨Nat.le_of_ble_eq_true rfl, Nat.le_of_ble_eq_true rfl⟩ (fun r N1 f1 hp hN1 => ?_)
  obtain ⟨rfl, rfl, rfl⟩ := hp
  refine z_callS X zG_ok (c_Wrk_turned (f := f)) d_Wrk_either_11 ⟨(z_cb (n := 1) X.2.2.2.2.1 ml_Wrk_90 mc_Wrk_turned ini_Wrk (by decide +kernel) rfl rfl ⟨Nat.le_of_ble_eq_true rfl, Nat.le_of_ble_eq_true rfl⟩), X.2.2.2.2.1 _ st_Wrk_turned⟩ rfl rfl (Nat.le_of_ble_eq_true rfl) ⟨Nat.le_of_ble_eq_true rfl, Nat.le_of_ble_eq_true rfl⟩ (fun r N1 f1 hp hN1 => ?_)
  obtain ⟨rfl, rfl, rfl⟩ := hp
  exact z_iret X d_Wrk_either_14 ⟨rfl, rfl, rfl⟩
theorem d_Wrk_holds_0 : decode prog_8_method_7_code 0 = .ok (.iload_n 0, 1) := by decide +kernel
theorem d_Wrk_holds_1 : decode prog_8_method_7_code 1 = .ok (.tableswitch 60 5 7 #[27, 38, 49], 27) := by decide +kernel
theorem d_Wrk_holds_28 : decode prog_8_method_7_code 28 = .ok (.iload_n 1, 1) := by decide +kernel
theorem d_Wrk_holds_29 : decode prog_8_method_7_code 29 = .ok (.iload_n 2, 1) := by decide +kernel
theorem d_Wrk_holds_30 : decode prog_8_method_7_code 30 = .ok (.if_icmp .ge 7, 3) := by decide +kernel
theorem d_Wrk_holds_33 : decode prog_8_method_7_code 33 = .ok (.iconst 1, 1) := by decide +kernel
theorem d_Wrk_holds_34 : decode prog_8_method_7_code 34 = .ok (.goto 4, 3) := by decide +kernel
theorem d_Wrk_holds_37 : decode prog_8_method_7_code 37 = .ok (.iconst 0, 1) := by decide +kernel
theorem d_Wrk_holds_38 : decode prog_8_method_7_code 38 = .ok (.ireturn, 1) := by decide +kernel
theorem d_Wrk_holds_39 : decode prog_8_method_7_code 39 = .ok (.iload_n 1, 1) := by decide +kernel
theorem d_Wrk_holds_40 : decode prog_8_method_7_code 40 = .ok (.iload_n 2, 1) := by decide +kernel
theorem d_Wrk_holds_41 : decode prog_8_method_7_code 41 = .ok (.if_icmp .le 7, 3) := by decide +kernel
theorem d_Wrk_holds_44 : decode prog_8_method_7_code 44 = .ok (.iconst 1, 1) := by decide +kernel
theorem d_Wrk_holds_45 : decode prog_8_method_7_code 45 = .ok (.goto 4, 3) := by decide +kernel
theorem d_Wrk_holds_48 : decode prog_8_method_7_code 48 = .ok (.iconst 0, 1) := by decide +kernel
theorem d_Wrk_holds_49 : decode prog_8_method_7_code 49 = .ok (.ireturn, 1) := by decide +kernel
theorem d_Wrk_holds_50 : decode prog_8_method_7_code 50 = .ok (.iload_n 1, 1) := by decide +kernel
theorem d_Wrk_holds_51 : decode prog_8_method_7_code 51 = .ok (.iload_n 2, 1) := by decide +kernel
theorem d_Wrk_holds_52 : decode prog_8_method_7_code 52 = .ok (.if_icmp .ne 7, 3) := by decide +kernel
theorem d_Wrk_holds_55 : decode prog_8_method_7_code 55 = .ok (.iconst 1, 1) := by decide +kernel
theorem d_Wrk_holds_56 : decode prog_8_method_7_code 56 = .ok (.goto 4, 3) := by decide +kernel
theorem d_Wrk_holds_59 : decode prog_8_method_7_code 59 = .ok (.iconst 0, 1) := by decide +kernel
theorem d_Wrk_holds_60 : decode prog_8_method_7_code 60 = .ok (.ireturn, 1) := by decide +kernel
theorem d_Wrk_holds_61 : decode prog_8_method_7_code 61 = .ok (.iload_n 1, 1) := by decide +kernel
theorem d_Wrk_holds_62 : decode prog_8_method_7_code 62 = .ok (.iload_n 2, 1) := by decide +kernel
theorem d_Wrk_holds_63 : decode prog_8_method_7_code 63 = .ok (.if_icmp .eq 7, 3) := by decide +kernel
theorem d_Wrk_holds_66 : decode prog_8_method_7_code 66 = .ok (.iconst 1, 1) := by decide +kernel
theorem d_Wrk_holds_67 : decode prog_8_method_7_code 67 = .ok (.goto 4, 3) := by decide +kernel
theorem d_Wrk_holds_70 : decode prog_8_method_7_code 70 = .ok (.iconst 0, 1) := by decide +kernel
theorem d_Wrk_holds_71 : decode prog_8_method_7_code 71 = .ok (.ireturn, 1) := by decide +kernel
set_option maxHeartbeats 4000000 in
set_option maxRecDepth 100000 in
theorem c_Wrk_holds {k a b : Int32} : zK l D ck ad b0 y_Wrk_holds prog_8_method_7_code 3 ((some FieldType.boolean)) 0 0 0 [.int k, .int a, .int b] N f (fun r N' f' => r = some (.int (zb (wHold k a b))) ∧ N = N' ∧ f = f') := by
  refine zM.of zG_w (by decide) (Nat.le_of_ble_eq_true rfl) ?_
  intro zp ze zst zm zar zbe zme zc X hnm hb0
  refine z_iload_n X d_Wrk_holds_0 rfl ?_
  refine z_tableL X 61 [28, 39, 50] d_Wrk_holds_1 (by decide) (by decide) (by decide) (fun i hi hx => ?_) (fun hd => ?_) (by decide)
  · match i, hi, hx with
    | 0, _, hx =>
      have g1 : _ = (5 : Int32) := hx
      refine zW.topc (pc' := 28) rfl ?_
      refine z_iload_n X d_Wrk_holds_28 rfl ?_
      refine z_iload_n X d_Wrk_holds_29 rfl ?_
      refine z_icmp_ge X 37 d_Wrk_holds_30 (by decide) (fun h30 => ?_) (fun h30 => ?_)
      · skip
        refine z_iconst X d_Wrk_holds_37 (v := 0) (by decide) ?_
        exact z_zret X d_Wrk_holds_38 rfl ⟨by first | rw [wHold, if_pos g1, decide_eq_false (Int32.not_lt.mpr h30)]; rfl | rw [wHold, if_pos g1, decide_eq_true (Int32.not_le.mp h30)]; rfl, rfl, rfl⟩
      · skip
        refine z_iconst X d_Wrk_holds_33 (v := 1) (by decide) ?_
        refine z_goto X 38 d_Wrk_holds_34 (by decide) ?_
        exact z_zret X d_Wrk_holds_38 rfl ⟨by first | rw [wHold, if_pos g1, decide_eq_false (Int32.not_lt.mpr h30)]; rfl | rw [wHold, if_pos g1, decide_eq_true (Int32.not_le.mp h30)]; rfl, rfl, rfl⟩
    | 1, _, hx =>
      have g1 : _ = (6 : Int32) := hx
      refine zW.topc (pc' := 39) rfl ?_
      refine z_iload_n X d_Wrk_holds_39 rfl ?_
      refine z_iload_n X d_Wrk_holds_40 rfl ?_
      refine z_icmp_le X 48 d_Wrk_holds_41 (by decide) (fun h41 => ?_) (fun h41 => ?_)
      · skip
        refine z_iconst X d_Wrk_holds_48 (v := 0) (by decide) ?_
        exact z_zret X d_Wrk_holds_49 rfl ⟨by first | rw [wHold, if_neg (by rw [g1]; decide), if_pos g1, decide_eq_false (Int32.not_lt.mpr h41)]; rfl | rw [wHold, if_neg (by rw [g1]; decide), if_pos g1, decide_eq_true (Int32.not_le.mp h41)]; rfl, rfl, rfl⟩
      · skip
        refine z_iconst X d_Wrk_holds_44 (v := 1) (by decide) ?_
        refine z_goto X 49 d_Wrk_holds_45 (by decide) ?_
        exact z_zret X d_Wrk_holds_49 rfl ⟨by first | rw [wHold, if_neg (by rw [g1]; decide), if_pos g1, decide_eq_false (Int32.not_lt.mpr h41)]; rfl | rw [wHold, if_neg (by rw [g1]; decide), if_pos g1, decide_eq_true (Int32.not_le.mp h41)]; rfl, rfl, rfl⟩
    | 2, _, hx =>
      have g1 : _ = (7 : Int32) := hx
      refine zW.topc (pc' := 50) rfl ?_
      refine z_iload_n X d_Wrk_holds_50 rfl ?_
      refine z_iload_n X d_Wrk_holds_51 rfl ?_
      refine z_icmp_ne X 59 d_Wrk_holds_52 (by decide) (fun h52 => ?_) (fun h52 => ?_)
      · skip
        refine z_iconst X d_Wrk_holds_59 (v := 0) (by decide) ?_
        exact z_zret X d_Wrk_holds_60 rfl ⟨by first | rw [wHold, if_neg (by rw [g1]; decide), if_neg (by rw [g1]; decide), if_pos g1, decide_eq_false h52]; rfl | rw [wHold, if_neg (by rw [g1]; decide), if_neg (by rw [g1]; decide), if_pos g1, decide_eq_true h52]; rfl, rfl, rfl⟩
      · skip
        refine z_iconst X d_Wrk_holds_55 (v := 1) (by decide) ?_
        refine z_goto X 60 d_Wrk_holds_56 (by decide) ?_
        exact z_zret X d_Wrk_holds_60 rfl ⟨by first | rw [wHold, if_neg (by rw [g1]; decide), if_neg (by rw [g1]; decide), if_pos g1, decide_eq_false h52]; rfl | rw [wHold, if_neg (by rw [g1]; decide), if_neg (by rw [g1]; decide), if_pos g1, decide_eq_true h52]; rfl, rfl, rfl⟩
    | j + 3, hi, _ => exact absurd hi (by simp)
  · skip
    have g1_0 : ¬ _ = (5 : Int32) := hd 0 (by decide)
    have g1_1 : ¬ _ = (6 : Int32) := hd 1 (by decide)
    have g1_2 : ¬ _ = (7 : Int32) := hd 2 (by decide)
    refine z_iload_n X d_Wrk_holds_61 rfl ?_
    refine z_iload_n X d_Wrk_holds_62 rfl ?_
    refine z_icmp_eq X 70 d_Wrk_holds_63 (by decide) (fun h63 => ?_) (fun h63 => ?_)
    · skip
      refine z_iconst X d_Wrk_holds_70 (v := 0) (by decide) ?_
      exact z_zret X d_Wrk_holds_71 rfl ⟨by first | rw [wHold, if_neg g1_0, if_neg g1_1, if_neg g1_2, decide_eq_false h63]; rfl | rw [wHold, if_neg g1_0, if_neg g1_1, if_neg g1_2, decide_eq_true h63]; rfl, rfl, rfl⟩
    · skip
      refine z_iconst X d_Wrk_holds_66 (v := 1) (by decide) ?_
      refine z_goto X 71 d_Wrk_holds_67 (by decide) ?_
      exact z_zret X d_Wrk_holds_71 rfl ⟨by first | rw [wHold, if_neg g1_0, if_neg g1_1, if_neg g1_2, decide_eq_false h63]; rfl | rw [wHold, if_neg g1_0, if_neg g1_1, if_neg g1_2, decide_eq_true h63]; rfl, rfl, rfl⟩
theorem d_Wrk_calculated_0 : decode prog_8_method_6_code 0 = .ok (.iload_n 1, 1) := by decide +kernel
theorem d_Wrk_calculated_1 : decode prog_8_method_6_code 1 = .ok (.ldc 96, 2) := by decide +kernel
theorem d_Wrk_calculated_3 : decode prog_8_method_6_code 3 = .ok (.if_icmp .eq 13, 3) := by decide +kernel
theorem d_Wrk_calculated_6 : decode prog_8_method_6_code 6 = .ok (.iload_n 2, 1) := by decide +kernel
theorem d_Wrk_calculated_7 : decode prog_8_method_6_code 7 = .ok (.ldc 96, 2) := by decide +kernel
theorem d_Wrk_calculated_9 : decode prog_8_method_6_code 9 = .ok (.if_icmp .eq 7, 3) := by decide +kernel
theorem d_Wrk_calculated_12 : decode prog_8_method_6_code 12 = .ok (.iconst 1, 1) := by decide +kernel
theorem d_Wrk_calculated_13 : decode prog_8_method_6_code 13 = .ok (.goto 4, 3) := by decide +kernel
theorem d_Wrk_calculated_16 : decode prog_8_method_6_code 16 = .ok (.iconst 0, 1) := by decide +kernel
theorem d_Wrk_calculated_17 : decode prog_8_method_6_code 17 = .ok (.istore_n 3, 1) := by decide +kernel
theorem d_Wrk_calculated_18 : decode prog_8_method_6_code 18 = .ok (.iload_n 0, 1) := by decide +kernel
theorem d_Wrk_calculated_19 : decode prog_8_method_6_code 19 = .ok (.bipush 9, 2) := by decide +kernel
theorem d_Wrk_calculated_21 : decode prog_8_method_6_code 21 = .ok (.if_icmp .ne 16, 3) := by decide +kernel
theorem d_Wrk_calculated_24 : decode prog_8_method_6_code 24 = .ok (.iload_n 3, 1) := by decide +kernel
theorem d_Wrk_calculated_25 : decode prog_8_method_6_code 25 = .ok (.ifCond .eq 9, 3) := by decide +kernel
theorem d_Wrk_calculated_28 : decode prog_8_method_6_code 28 = .ok (.iload_n 1, 1) := by decide +kernel
theorem d_Wrk_calculated_29 : decode prog_8_method_6_code 29 = .ok (.iload_n 2, 1) := by decide +kernel
theorem d_Wrk_calculated_30 : decode prog_8_method_6_code 30 = .ok (.iadd, 1) := by decide +kernel
theorem d_Wrk_calculated_31 : decode prog_8_method_6_code 31 = .ok (.goto 5, 3) := by decide +kernel
theorem d_Wrk_calculated_34 : decode prog_8_method_6_code 34 = .ok (.ldc 96, 2) := by decide +kernel
theorem d_Wrk_calculated_36 : decode prog_8_method_6_code 36 = .ok (.ireturn, 1) := by decide +kernel
theorem d_Wrk_calculated_37 : decode prog_8_method_6_code 37 = .ok (.iload_n 0, 1) := by decide +kernel
theorem d_Wrk_calculated_38 : decode prog_8_method_6_code 38 = .ok (.bipush 10, 2) := by decide +kernel
theorem d_Wrk_calculated_40 : decode prog_8_method_6_code 40 = .ok (.if_icmp .ne 16, 3) := by decide +kernel
theorem d_Wrk_calculated_43 : decode prog_8_method_6_code 43 = .ok (.iload_n 3, 1) := by decide +kernel
theorem d_Wrk_calculated_44 : decode prog_8_method_6_code 44 = .ok (.ifCond .eq 9, 3) := by decide +kernel
theorem d_Wrk_calculated_47 : decode prog_8_method_6_code 47 = .ok (.iload_n 1, 1) := by decide +kernel
theorem d_Wrk_calculated_48 : decode prog_8_method_6_code 48 = .ok (.iload_n 2, 1) := by decide +kernel
theorem d_Wrk_calculated_49 : decode prog_8_method_6_code 49 = .ok (.isub, 1) := by decide +kernel
theorem d_Wrk_calculated_50 : decode prog_8_method_6_code 50 = .ok (.goto 5, 3) := by decide +kernel
theorem d_Wrk_calculated_53 : decode prog_8_method_6_code 53 = .ok (.ldc 96, 2) := by decide +kernel
theorem d_Wrk_calculated_55 : decode prog_8_method_6_code 55 = .ok (.ireturn, 1) := by decide +kernel
theorem d_Wrk_calculated_56 : decode prog_8_method_6_code 56 = .ok (.iload_n 3, 1) := by decide +kernel
theorem d_Wrk_calculated_57 : decode prog_8_method_6_code 57 = .ok (.ifCond .ne 5, 3) := by decide +kernel
theorem d_Wrk_calculated_60 : decode prog_8_method_6_code 60 = .ok (.iconst 2, 1) := by decide +kernel
theorem d_Wrk_calculated_61 : decode prog_8_method_6_code 61 = .ok (.ireturn, 1) := by decide +kernel
theorem d_Wrk_calculated_62 : decode prog_8_method_6_code 62 = .ok (.iload_n 0, 1) := by decide +kernel
theorem d_Wrk_calculated_63 : decode prog_8_method_6_code 63 = .ok (.iload_n 1, 1) := by decide +kernel
theorem d_Wrk_calculated_64 : decode prog_8_method_6_code 64 = .ok (.iload_n 2, 1) := by decide +kernel
theorem d_Wrk_calculated_65 : decode prog_8_method_6_code 65 = .ok (.invokestatic 97, 3) := by decide +kernel
theorem d_Wrk_calculated_68 : decode prog_8_method_6_code 68 = .ok (.ifCond .eq 7, 3) := by decide +kernel
theorem d_Wrk_calculated_71 : decode prog_8_method_6_code 71 = .ok (.iconst 1, 1) := by decide +kernel
theorem d_Wrk_calculated_72 : decode prog_8_method_6_code 72 = .ok (.goto 4, 3) := by decide +kernel
theorem d_Wrk_calculated_75 : decode prog_8_method_6_code 75 = .ok (.iconst 0, 1) := by decide +kernel
theorem d_Wrk_calculated_76 : decode prog_8_method_6_code 76 = .ok (.ireturn, 1) := by decide +kernel
set_option maxHeartbeats 4000000 in
set_option maxRecDepth 100000 in
theorem c_Wrk_calculated {k a b : Int32} : zK l D ck ad b0 y_Wrk_calculated prog_8_method_6_code 4 ((some FieldType.int)) 1 0 0 [.int k, .int a, .int b] N f (fun r N' f' => r = some (.int (wCalc k a b)) ∧ N = N' ∧ f = f') := by
  refine zM.of zG_w (by decide) (Nat.le_of_ble_eq_true rfl) ?_
  intro zp ze zst zm zar zbe zme zc X hnm hb0
  refine z_iload_n X d_Wrk_calculated_0 rfl ?_
  refine z_ldc X d_Wrk_calculated_1 k_Wrk_96 ?_
  refine z_icmp_eq X 16 d_Wrk_calculated_3 (by decide) (fun h3 => ?_) (fun h3 => ?_)
  · skip
    refine z_iconst X d_Wrk_calculated_16 (v := 0) (by decide) ?_
    refine z_istore_n X d_Wrk_calculated_17 (by decide) rfl ?_
    refine z_iload_n X d_Wrk_calculated_18 rfl ?_
    refine z_bipush X d_Wrk_calculated_19 (v := 9) (by decide) ?_
    refine z_icmp_ne X 37 d_Wrk_calculated_21 (by decide) (fun h21 => ?_) (fun h21 => ?_)
    · skip
      refine z_iload_n X d_Wrk_calculated_37 rfl ?_
      refine z_bipush X d_Wrk_calculated_38 (v := 10) (by decide) ?_
      refine z_icmp_ne X 56 d_Wrk_calculated_40 (by decide) (fun h40 => ?_) (fun h40 => ?_)
      · skip
        refine z_iload_n X d_Wrk_calculated_56 rfl ?_
        refine z_if_ne X 62 d_Wrk_calculated_57 (by decide) (fun h57 => ?_) (fun h57 => ?_)
        · skip
          refine z_iload_n X d_Wrk_calculated_62 rfl ?_
          refine z_iload_n X d_Wrk_calculated_63 rfl ?_
          refine z_iload_n X d_Wrk_calculated_64 rfl ?_
          refine z_callS X zG_ok (c_Wrk_holds (f := f)) d_Wrk_calculated_65 ⟨(z_cb (n := 3) X.2.2.2.2.1 ml_Wrk_97 mc_Wrk_holds ini_Wrk (by decide +kernel) rfl rfl ⟨Nat.le_of_ble_eq_true rfl, Nat.le_of_ble_eq_true rfl⟩), X.2.2.2.2.1 _ st_Wrk_holds⟩ rfl rfl (Nat.le_of_ble_eq_true rfl) ⟨Nat.le_of_ble_eq_true rfl, Nat.le_of_ble_eq_true rfl⟩ (fun r N1 f1 hp hN1 => ?_)
          obtain ⟨rfl, rfl, rfl⟩ := hp
          refine z_if_eq X 75 d_Wrk_calculated_68 (by decide) (fun h68 => ?_) (fun h68 => ?_)
          · skip
            refine z_iconst X d_Wrk_calculated_75 (v := 0) (by decide) ?_
            exact z_iret X d_Wrk_calculated_76 ⟨by first | exact absurd rfl h57 | (rw [wCalc, if_neg h21, if_neg h40, if_pos (by first | exact wKnow_t h3 h9), zb_0.mp h68]; rfl) | (rw [wCalc, if_neg h21, if_neg h40, if_pos (by first | exact wKnow_t h3 h9), (show wHold k a b = true from by cases hq : wHold k a b; exact absurd (zb_0.mpr hq) h68; rfl)]; rfl), rfl, rfl⟩
          · skip
            refine z_iconst X d_Wrk_calculated_71 (v := 1) (by decide) ?_
            refine z_goto X 76 d_Wrk_calculated_72 (by decide) ?_
            exact z_iret X d_Wrk_calculated_76 ⟨by first | exact absurd rfl h57 | (rw [wCalc, if_neg h21, if_neg h40, if_pos (by first | exact wKnow_t h3 h9), zb_0.mp h68]; rfl) | (rw [wCalc, if_neg h21, if_neg h40, if_pos (by first | exact wKnow_t h3 h9), (show wHold k a b = true from by cases hq : wHold k a b; exact absurd (zb_0.mpr hq) h68; rfl)]; rfl), rfl, rfl⟩
        · skip
          refine z_iconst X d_Wrk_calculated_60 (v := 2) (by decide) ?_
          exact z_iret X d_Wrk_calculated_61 ⟨by first | (rw [wCalc, if_neg h21, if_neg h40, if_neg (by first | exact wKnow_1 h3 | exact wKnow_2 h9)]; done) | exact absurd h57 (by decide) | exact absurd rfl h57, rfl, rfl⟩
      · skip
        refine z_iload_n X d_Wrk_calculated_43 rfl ?_
        refine z_if_eq X 53 d_Wrk_calculated_44 (by decide) (fun h44 => ?_) (fun h44 => ?_)
        · skip
          refine z_ldc X d_Wrk_calculated_53 k_Wrk_96 ?_
          exact z_iret X d_Wrk_calculated_55 ⟨by first | (rw [wCalc, if_neg h21, if_pos h40, if_pos (by first | exact wKnow_t h3 h9)]; done) | (rw [wCalc, if_neg h21, if_pos h40, if_neg (by first | exact wKnow_1 h3 | exact wKnow_2 h9)]; done) | exact absurd h44 (by decide) | exact absurd rfl h44, rfl, rfl⟩
        · skip
          refine z_iload_n X d_Wrk_calculated_47 rfl ?_
          refine z_iload_n X d_Wrk_calculated_48 rfl ?_
          refine z_isub X d_Wrk_calculated_49 ?_
          refine z_goto X 55 d_Wrk_calculated_50 (by decide) ?_
          exact z_iret X d_Wrk_calculated_55 ⟨by first | (rw [wCalc, if_neg h21, if_pos h40, if_pos (by first | exact wKnow_t h3 h9)]; done) | (rw [wCalc, if_neg h21, if_pos h40, if_neg (by first | exact wKnow_1 h3 | exact wKnow_2 h9)]; done) | exact absurd h44 (by decide) | exact absurd rfl h44, rfl, rfl⟩
    · skip
      refine z_iload_n X d_Wrk_calculated_24 rfl ?_
      refine z_if_eq X 34 d_Wrk_calculated_25 (by decide) (fun h25 => ?_) (fun h25 => ?_)
      · skip
        refine z_ldc X d_Wrk_calculated_34 k_Wrk_96 ?_
        exact z_iret X d_Wrk_calculated_36 ⟨by first | (rw [wCalc, if_pos h21, if_pos (by first | exact wKnow_t h3 h9)]; done) | (rw [wCalc, if_pos h21, if_neg (by first | exact wKnow_1 h3 | exact wKnow_2 h9)]; done) | exact absurd h25 (by decide) | exact absurd rfl h25, rfl, rfl⟩
      · skip
        refine z_iload_n X d_Wrk_calculated_28 rfl ?_
        refine z_iload_n X d_Wrk_calculated_29 rfl ?_
        refine z_iadd X d_Wrk_calculated_30 ?_
        refine z_goto X 36 d_Wrk_calculated_31 (by decide) ?_
        exact z_iret X d_Wrk_calculated_36 ⟨by first | (rw [wCalc, if_pos h21, if_pos (by first | exact wKnow_t h3 h9)]; done) | (rw [wCalc, if_pos h21, if_neg (by first | exact wKnow_1 h3 | exact wKnow_2 h9)]; done) | exact absurd h25 (by decide) | exact absurd rfl h25, rfl, rfl⟩
  · skip
    refine z_iload_n X d_Wrk_calculated_6 rfl ?_
    refine z_ldc X d_Wrk_calculated_7 k_Wrk_96 ?_
    refine z_icmp_eq X 16 d_Wrk_calculated_9 (by decide) (fun h9 => ?_) (fun h9 => ?_)
    · skip
      refine z_iconst X d_Wrk_calculated_16 (v := 0) (by decide) ?_
      refine z_istore_n X d_Wrk_calculated_17 (by decide) rfl ?_
      refine z_iload_n X d_Wrk_calculated_18 rfl ?_
      refine z_bipush X d_Wrk_calculated_19 (v := 9) (by decide) ?_
      refine z_icmp_ne X 37 d_Wrk_calculated_21 (by decide) (fun h21 => ?_) (fun h21 => ?_)
      · skip
        refine z_iload_n X d_Wrk_calculated_37 rfl ?_
        refine z_bipush X d_Wrk_calculated_38 (v := 10) (by decide) ?_
        refine z_icmp_ne X 56 d_Wrk_calculated_40 (by decide) (fun h40 => ?_) (fun h40 => ?_)
        · skip
          refine z_iload_n X d_Wrk_calculated_56 rfl ?_
          refine z_if_ne X 62 d_Wrk_calculated_57 (by decide) (fun h57 => ?_) (fun h57 => ?_)
          · skip
            refine z_iload_n X d_Wrk_calculated_62 rfl ?_
            refine z_iload_n X d_Wrk_calculated_63 rfl ?_
            refine z_iload_n X d_Wrk_calculated_64 rfl ?_
            refine z_callS X zG_ok (c_Wrk_holds (f := f)) d_Wrk_calculated_65 ⟨(z_cb (n := 3) X.2.2.2.2.1 ml_Wrk_97 mc_Wrk_holds ini_Wrk (by decide +kernel) rfl rfl ⟨Nat.le_of_ble_eq_true rfl, Nat.le_of_ble_eq_true rfl⟩), X.2.2.2.2.1 _ st_Wrk_holds⟩ rfl rfl (Nat.le_of_ble_eq_true rfl) ⟨Nat.le_of_ble_eq_true rfl, Nat.le_of_ble_eq_true rfl⟩ (fun r N1 f1 hp hN1 => ?_)
            obtain ⟨rfl, rfl, rfl⟩ := hp
            refine z_if_eq X 75 d_Wrk_calculated_68 (by decide) (fun h68 => ?_) (fun h68 => ?_)
            · skip
              refine z_iconst X d_Wrk_calculated_75 (v := 0) (by decide) ?_
              exact z_iret X d_Wrk_calculated_76 ⟨by first | exact absurd rfl h57 | (rw [wCalc, if_neg h21, if_neg h40, if_pos (by first | exact wKnow_t h3 h9), zb_0.mp h68]; rfl) | (rw [wCalc, if_neg h21, if_neg h40, if_pos (by first | exact wKnow_t h3 h9), (show wHold k a b = true from by cases hq : wHold k a b; exact absurd (zb_0.mpr hq) h68; rfl)]; rfl), rfl, rfl⟩
            · skip
              refine z_iconst X d_Wrk_calculated_71 (v := 1) (by decide) ?_
              refine z_goto X 76 d_Wrk_calculated_72 (by decide) ?_
              exact z_iret X d_Wrk_calculated_76 ⟨by first | exact absurd rfl h57 | (rw [wCalc, if_neg h21, if_neg h40, if_pos (by first | exact wKnow_t h3 h9), zb_0.mp h68]; rfl) | (rw [wCalc, if_neg h21, if_neg h40, if_pos (by first | exact wKnow_t h3 h9), (show wHold k a b = true from by cases hq : wHold k a b; exact absurd (zb_0.mpr hq) h68; rfl)]; rfl), rfl, rfl⟩
          · skip
            refine z_iconst X d_Wrk_calculated_60 (v := 2) (by decide) ?_
            exact z_iret X d_Wrk_calculated_61 ⟨by first | (rw [wCalc, if_neg h21, if_neg h40, if_neg (by first | exact wKnow_1 h3 | exact wKnow_2 h9)]; done) | exact absurd h57 (by decide) | exact absurd rfl h57, rfl, rfl⟩
        · skip
          refine z_iload_n X d_Wrk_calculated_43 rfl ?_
          refine z_if_eq X 53 d_Wrk_calculated_44 (by decide) (fun h44 => ?_) (fun h44 => ?_)
          · skip
            refine z_ldc X d_Wrk_calculated_53 k_Wrk_96 ?_
            exact z_iret X d_Wrk_calculated_55 ⟨by first | (rw [wCalc, if_neg h21, if_pos h40, if_pos (by first | exact wKnow_t h3 h9)]; done) | (rw [wCalc, if_neg h21, if_pos h40, if_neg (by first | exact wKnow_1 h3 | exact wKnow_2 h9)]; done) | exact absurd h44 (by decide) | exact absurd rfl h44, rfl, rfl⟩
          · skip
            refine z_iload_n X d_Wrk_calculated_47 rfl ?_
            refine z_iload_n X d_Wrk_calculated_48 rfl ?_
            refine z_isub X d_Wrk_calculated_49 ?_
            refine z_goto X 55 d_Wrk_calculated_50 (by decide) ?_
            exact z_iret X d_Wrk_calculated_55 ⟨by first | (rw [wCalc, if_neg h21, if_pos h40, if_pos (by first | exact wKnow_t h3 h9)]; done) | (rw [wCalc, if_neg h21, if_pos h40, if_neg (by first | exact wKnow_1 h3 | exact wKnow_2 h9)]; done) | exact absurd h44 (by decide) | exact absurd rfl h44, rfl, rfl⟩
      · skip
        refine z_iload_n X d_Wrk_calculated_24 rfl ?_
        refine z_if_eq X 34 d_Wrk_calculated_25 (by decide) (fun h25 => ?_) (fun h25 => ?_)
        · skip
          refine z_ldc X d_Wrk_calculated_34 k_Wrk_96 ?_
          exact z_iret X d_Wrk_calculated_36 ⟨by first | (rw [wCalc, if_pos h21, if_pos (by first | exact wKnow_t h3 h9)]; done) | (rw [wCalc, if_pos h21, if_neg (by first | exact wKnow_1 h3 | exact wKnow_2 h9)]; done) | exact absurd h25 (by decide) | exact absurd rfl h25, rfl, rfl⟩
        · skip
          refine z_iload_n X d_Wrk_calculated_28 rfl ?_
          refine z_iload_n X d_Wrk_calculated_29 rfl ?_
          refine z_iadd X d_Wrk_calculated_30 ?_
          refine z_goto X 36 d_Wrk_calculated_31 (by decide) ?_
          exact z_iret X d_Wrk_calculated_36 ⟨by first | (rw [wCalc, if_pos h21, if_pos (by first | exact wKnow_t h3 h9)]; done) | (rw [wCalc, if_pos h21, if_neg (by first | exact wKnow_1 h3 | exact wKnow_2 h9)]; done) | exact absurd h25 (by decide) | exact absurd rfl h25, rfl, rfl⟩
    · skip
      refine z_iconst X d_Wrk_calculated_12 (v := 1) (by decide) ?_
      refine z_goto X 17 d_Wrk_calculated_13 (by decide) ?_
      refine z_istore_n X d_Wrk_calculated_17 (by decide) rfl ?_
      refine z_iload_n X d_Wrk_calculated_18 rfl ?_
      refine z_bipush X d_Wrk_calculated_19 (v := 9) (by decide) ?_
      refine z_icmp_ne X 37 d_Wrk_calculated_21 (by decide) (fun h21 => ?_) (fun h21 => ?_)
      · skip
        refine z_iload_n X d_Wrk_calculated_37 rfl ?_
        refine z_bipush X d_Wrk_calculated_38 (v := 10) (by decide) ?_
        refine z_icmp_ne X 56 d_Wrk_calculated_40 (by decide) (fun h40 => ?_) (fun h40 => ?_)
        · skip
          refine z_iload_n X d_Wrk_calculated_56 rfl ?_
          refine z_if_ne X 62 d_Wrk_calculated_57 (by decide) (fun h57 => ?_) (fun h57 => ?_)
          · skip
            refine z_iload_n X d_Wrk_calculated_62 rfl ?_
            refine z_iload_n X d_Wrk_calculated_63 rfl ?_
            refine z_iload_n X d_Wrk_calculated_64 rfl ?_
            refine z_callS X zG_ok (c_Wrk_holds (f := f)) d_Wrk_calculated_65 ⟨(z_cb (n := 3) X.2.2.2.2.1 ml_Wrk_97 mc_Wrk_holds ini_Wrk (by decide +kernel) rfl rfl ⟨Nat.le_of_ble_eq_true rfl, Nat.le_of_ble_eq_true rfl⟩), X.2.2.2.2.1 _ st_Wrk_holds⟩ rfl rfl (Nat.le_of_ble_eq_true rfl) ⟨Nat.le_of_ble_eq_true rfl, Nat.le_of_ble_eq_true rfl⟩ (fun r N1 f1 hp hN1 => ?_)
            obtain ⟨rfl, rfl, rfl⟩ := hp
            refine z_if_eq X 75 d_Wrk_calculated_68 (by decide) (fun h68 => ?_) (fun h68 => ?_)
            · skip
              refine z_iconst X d_Wrk_calculated_75 (v := 0) (by decide) ?_
              exact z_iret X d_Wrk_calculated_76 ⟨by first | exact absurd rfl h57 | (rw [wCalc, if_neg h21, if_neg h40, if_pos (by first | exact wKnow_t h3 h9), zb_0.mp h68]; rfl) | (rw [wCalc, if_neg h21, if_neg h40, if_pos (by first | exact wKnow_t h3 h9), (show wHold k a b = true from by cases hq : wHold k a b; exact absurd (zb_0.mpr hq) h68; rfl)]; rfl), rfl, rfl⟩
            · skip
              refine z_iconst X d_Wrk_calculated_71 (v := 1) (by decide) ?_
              refine z_goto X 76 d_Wrk_calculated_72 (by decide) ?_
              exact z_iret X d_Wrk_calculated_76 ⟨by first | exact absurd rfl h57 | (rw [wCalc, if_neg h21, if_neg h40, if_pos (by first | exact wKnow_t h3 h9), zb_0.mp h68]; rfl) | (rw [wCalc, if_neg h21, if_neg h40, if_pos (by first | exact wKnow_t h3 h9), (show wHold k a b = true from by cases hq : wHold k a b; exact absurd (zb_0.mpr hq) h68; rfl)]; rfl), rfl, rfl⟩
          · skip
            refine z_iconst X d_Wrk_calculated_60 (v := 2) (by decide) ?_
            exact z_iret X d_Wrk_calculated_61 ⟨by first | (rw [wCalc, if_neg h21, if_neg h40, if_neg (by first | exact wKnow_1 h3 | exact wKnow_2 h9)]; done) | exact absurd h57 (by decide) | exact absurd rfl h57, rfl, rfl⟩
        · skip
          refine z_iload_n X d_Wrk_calculated_43 rfl ?_
          refine z_if_eq X 53 d_Wrk_calculated_44 (by decide) (fun h44 => ?_) (fun h44 => ?_)
          · skip
            refine z_ldc X d_Wrk_calculated_53 k_Wrk_96 ?_
            exact z_iret X d_Wrk_calculated_55 ⟨by first | (rw [wCalc, if_neg h21, if_pos h40, if_pos (by first | exact wKnow_t h3 h9)]; done) | (rw [wCalc, if_neg h21, if_pos h40, if_neg (by first | exact wKnow_1 h3 | exact wKnow_2 h9)]; done) | exact absurd h44 (by decide) | exact absurd rfl h44, rfl, rfl⟩
          · skip
            refine z_iload_n X d_Wrk_calculated_47 rfl ?_
            refine z_iload_n X d_Wrk_calculated_48 rfl ?_
            refine z_isub X d_Wrk_calculated_49 ?_
            refine z_goto X 55 d_Wrk_calculated_50 (by decide) ?_
            exact z_iret X d_Wrk_calculated_55 ⟨by first | (rw [wCalc, if_neg h21, if_pos h40, if_pos (by first | exact wKnow_t h3 h9)]; done) | (rw [wCalc, if_neg h21, if_pos h40, if_neg (by first | exact wKnow_1 h3 | exact wKnow_2 h9)]; done) | exact absurd h44 (by decide) | exact absurd rfl h44, rfl, rfl⟩
      · skip
        refine z_iload_n X d_Wrk_calculated_24 rfl ?_
        refine z_if_eq X 34 d_Wrk_calculated_25 (by decide) (fun h25 => ?_) (fun h25 => ?_)
        · skip
          refine z_ldc X d_Wrk_calculated_34 k_Wrk_96 ?_
          exact z_iret X d_Wrk_calculated_36 ⟨by first | (rw [wCalc, if_pos h21, if_pos (by first | exact wKnow_t h3 h9)]; done) | (rw [wCalc, if_pos h21, if_neg (by first | exact wKnow_1 h3 | exact wKnow_2 h9)]; done) | exact absurd h25 (by decide) | exact absurd rfl h25, rfl, rfl⟩
        · skip
          refine z_iload_n X d_Wrk_calculated_28 rfl ?_
          refine z_iload_n X d_Wrk_calculated_29 rfl ?_
          refine z_iadd X d_Wrk_calculated_30 ?_
          refine z_goto X 36 d_Wrk_calculated_31 (by decide) ?_
          exact z_iret X d_Wrk_calculated_36 ⟨by first | (rw [wCalc, if_pos h21, if_pos (by first | exact wKnow_t h3 h9)]; done) | (rw [wCalc, if_pos h21, if_neg (by first | exact wKnow_1 h3 | exact wKnow_2 h9)]; done) | exact absurd h25 (by decide) | exact absurd rfl h25, rfl, rfl⟩
theorem d_Wrk_joined_0 : decode prog_8_method_5_code 0 = .ok (.iload_n 0, 1) := by decide +kernel
theorem d_Wrk_joined_1 : decode prog_8_method_5_code 1 = .ok (.tableswitch 44 0 2 #[27, 33, 39], 27) := by decide +kernel
theorem d_Wrk_joined_28 : decode prog_8_method_5_code 28 = .ok (.iload_n 1, 1) := by decide +kernel
theorem d_Wrk_joined_29 : decode prog_8_method_5_code 29 = .ok (.iload_n 2, 1) := by decide +kernel
theorem d_Wrk_joined_30 : decode prog_8_method_5_code 30 = .ok (.invokestatic 87, 3) := by decide +kernel
theorem d_Wrk_joined_33 : decode prog_8_method_5_code 33 = .ok (.ireturn, 1) := by decide +kernel
theorem d_Wrk_joined_34 : decode prog_8_method_5_code 34 = .ok (.iload_n 1, 1) := by decide +kernel
theorem d_Wrk_joined_35 : decode prog_8_method_5_code 35 = .ok (.iload_n 2, 1) := by decide +kernel
theorem d_Wrk_joined_36 : decode prog_8_method_5_code 36 = .ok (.invokestatic 84, 3) := by decide +kernel
theorem d_Wrk_joined_39 : decode prog_8_method_5_code 39 = .ok (.ireturn, 1) := by decide +kernel
theorem d_Wrk_joined_40 : decode prog_8_method_5_code 40 = .ok (.iload_n 1, 1) := by decide +kernel
theorem d_Wrk_joined_41 : decode prog_8_method_5_code 41 = .ok (.invokestatic 90, 3) := by decide +kernel
theorem d_Wrk_joined_44 : decode prog_8_method_5_code 44 = .ok (.ireturn, 1) := by decide +kernel
theorem d_Wrk_joined_45 : decode prog_8_method_5_code 45 = .ok (.iload_n 0, 1) := by decide +kernel
theorem d_Wrk_joined_46 : decode prog_8_method_5_code 46 = .ok (.iload_n 1, 1) := by decide +kernel
theorem d_Wrk_joined_47 : decode prog_8_method_5_code 47 = .ok (.iload_n 2, 1) := by decide +kernel
theorem d_Wrk_joined_48 : decode prog_8_method_5_code 48 = .ok (.invokestatic 93, 3) := by decide +kernel
theorem d_Wrk_joined_51 : decode prog_8_method_5_code 51 = .ok (.ireturn, 1) := by decide +kernel
set_option maxHeartbeats 4000000 in
set_option maxRecDepth 100000 in
theorem c_Wrk_joined {k a b : Int32} : zK l D ck ad b0 y_Wrk_joined prog_8_method_5_code 3 ((some FieldType.int)) 2 0 0 [.int k, .int a, .int b] N f (fun r N' f' => r = some (.int (wJoin k a b)) ∧ N = N' ∧ f = f') := by
  refine zM.of zG_w (by decide) (Nat.le_of_ble_eq_true rfl) ?_
  intro zp ze zst zm zar zbe zme zc X hnm hb0
  refine z_iload_n X d_Wrk_joined_0 rfl ?_
  refine z_tableL X 45 [28, 34, 40] d_Wrk_joined_1 (by decide) (by decide) (by decide) (fun i hi hx => ?_) (fun hd => ?_) (by decide)
  · match i, hi, hx with
    | 0, _, hx =>
      have g1 : _ = (0 : Int32) := hx
      refine zW.topc (pc' := 28) rfl ?_
      refine z_iload_n X d_Wrk_joined_28 rfl ?_
      refine z_iload_n X d_Wrk_joined_29 rfl ?_
      refine z_callS X zG_ok (c_Wrk_either (f := f)) d_Wrk_joined_30 ⟨(z_cb (n := 2) X.2.2.2.2.1 ml_Wrk_87 mc_Wrk_either ini_Wrk (by decide +kernel) rfl rfl ⟨Nat.le_of_ble_eq_true rfl, Nat.le_of_ble_eq_true rfl⟩), X.2.2.2.2.1 _ st_Wrk_either⟩ rfl rfl (Nat.le_of_ble_eq_true rfl) ⟨Nat.le_of_ble_eq_true rfl, Nat.le_of_ble_eq_true rfl⟩ (fun r N1 f1 hp hN1 => ?_)
      obtain ⟨rfl, rfl, rfl⟩ := hp
      exact z_iret X d_Wrk_joined_33 ⟨by rw [wJoin, if_pos g1], rfl, rfl⟩
    | 1, _, hx =>
      have g1 : _ = (1 : Int32) := hx
      refine zW.topc (pc' := 34) rfl ?_
      refine z_iload_n X d_Wrk_joined_34 rfl ?_
      refine z_iload_n X d_Wrk_joined_35 rfl ?_
      refine z_callS X zG_ok (c_Wrk_both (f := f)) d_Wrk_joined_36 ⟨(z_cb (n := 2) X.2.2.2.2.1 ml_Wrk_84 mc_Wrk_both ini_Wrk (by decide +kernel) rfl rfl ⟨Nat.le_of_ble_eq_true rfl, Nat.le_of_ble_eq_true rfl⟩), X.2.2.2.2.1 _ st_Wrk_both⟩ rfl rfl (Nat.le_of_ble_eq_true rfl) ⟨Nat.le_of_ble_eq_true rfl, Nat.le_of_ble_eq_true rfl⟩ (fun r N1 f1 hp hN1 => ?_)
      obtain ⟨rfl, rfl, rfl⟩ := hp
      exact z_iret X d_Wrk_joined_39 ⟨by rw [wJoin, if_neg (by rw [g1]; decide), if_pos g1], rfl, rfl⟩
    | 2, _, hx =>
      have g1 : _ = (2 : Int32) := hx
      refine zW.topc (pc' := 40) rfl ?_
      refine z_iload_n X d_Wrk_joined_40 rfl ?_
      refine z_callS X zG_ok (c_Wrk_turned (f := f)) d_Wrk_joined_41 ⟨(z_cb (n := 1) X.2.2.2.2.1 ml_Wrk_90 mc_Wrk_turned ini_Wrk (by decide +kernel) rfl rfl ⟨Nat.le_of_ble_eq_true rfl, Nat.le_of_ble_eq_true rfl⟩), X.2.2.2.2.1 _ st_Wrk_turned⟩ rfl rfl (Nat.le_of_ble_eq_true rfl) ⟨Nat.le_of_ble_eq_true rfl, Nat.le_of_ble_eq_true rfl⟩ (fun r N1 f1 hp hN1 => ?_)
      obtain ⟨rfl, rfl, rfl⟩ := hp
      exact z_iret X d_Wrk_joined_44 ⟨by rw [wJoin, if_neg (by rw [g1]; decide), if_neg (by rw [g1]; decide), if_pos g1], rfl, rfl⟩
    | j + 3, hi, _ => exact absurd hi (by simp)
  · skip
    have g1_0 : ¬ _ = (0 : Int32) := hd 0 (by decide)
    have g1_1 : ¬ _ = (1 : Int32) := hd 1 (by decide)
    have g1_2 : ¬ _ = (2 : Int32) := hd 2 (by decide)
    refine z_iload_n X d_Wrk_joined_45 rfl ?_
    refine z_iload_n X d_Wrk_joined_46 rfl ?_
    refine z_iload_n X d_Wrk_joined_47 rfl ?_
    refine z_callS X zG_ok (c_Wrk_calculated (f := f)) d_Wrk_joined_48 ⟨(z_cb (n := 3) X.2.2.2.2.1 ml_Wrk_93 mc_Wrk_calculated ini_Wrk (by decide +kernel) rfl rfl ⟨Nat.le_of_ble_eq_true rfl, Nat.le_of_ble_eq_true rfl⟩), X.2.2.2.2.1 _ st_Wrk_calculated⟩ rfl rfl (Nat.le_of_ble_eq_true rfl) ⟨Nat.le_of_ble_eq_true rfl, Nat.le_of_ble_eq_true rfl⟩ (fun r N1 f1 hp hN1 => ?_)
    obtain ⟨rfl, rfl, rfl⟩ := hp
    exact z_iret X d_Wrk_joined_51 ⟨by rw [wJoin, if_neg g1_0, if_neg g1_1, if_neg g1_2], rfl, rfl⟩
theorem d_Wrk_setResult_0 : decode prog_8_method_12_code 0 = .ok (.iload_n 1, 1) := by decide +kernel
theorem d_Wrk_setResult_1 : decode prog_8_method_12_code 1 = .ok (.bipush 10, 2) := by decide +kernel
theorem d_Wrk_setResult_3 : decode prog_8_method_12_code 3 = .ok (.imul, 1) := by decide +kernel
theorem d_Wrk_setResult_4 : decode prog_8_method_12_code 4 = .ok (.iload_n 2, 1) := by decide +kernel
theorem d_Wrk_setResult_5 : decode prog_8_method_12_code 5 = .ok (.iadd, 1) := by decide +kernel
theorem d_Wrk_setResult_6 : decode prog_8_method_12_code 6 = .ok (.istore 4, 2) := by decide +kernel
theorem d_Wrk_setResult_8 : decode prog_8_method_12_code 8 = .ok (.iload 4, 2) := by decide +kernel
theorem d_Wrk_setResult_10 : decode prog_8_method_12_code 10 = .ok (.ifCond .lt 21, 3) := by decide +kernel
theorem d_Wrk_setResult_13 : decode prog_8_method_12_code 13 = .ok (.iload 4, 2) := by decide +kernel
theorem d_Wrk_setResult_15 : decode prog_8_method_12_code 15 = .ok (.aload_n 0, 1) := by decide +kernel
theorem d_Wrk_setResult_16 : decode prog_8_method_12_code 16 = .ok (.getfield 18, 3) := by decide +kernel
theorem d_Wrk_setResult_19 : decode prog_8_method_12_code 19 = .ok (.arraylength, 1) := by decide +kernel
theorem d_Wrk_setResult_20 : decode prog_8_method_12_code 20 = .ok (.if_icmp .ge 11, 3) := by decide +kernel
theorem d_Wrk_setResult_23 : decode prog_8_method_12_code 23 = .ok (.aload_n 0, 1) := by decide +kernel
theorem d_Wrk_setResult_24 : decode prog_8_method_12_code 24 = .ok (.getfield 18, 3) := by decide +kernel
theorem d_Wrk_setResult_27 : decode prog_8_method_12_code 27 = .ok (.iload 4, 2) := by decide +kernel
theorem d_Wrk_setResult_29 : decode prog_8_method_12_code 29 = .ok (.iload_n 3, 1) := by decide +kernel
theorem d_Wrk_setResult_30 : decode prog_8_method_12_code 30 = .ok (.iastore, 1) := by decide +kernel
theorem d_Wrk_setResult_31 : decode prog_8_method_12_code 31 = .ok (.return_, 1) := by decide +kernel
set_option maxHeartbeats 4000000 in
set_option maxRecDepth 100000 in
theorem c_Wrk_setResult {wk dc rs : Nat} {lb : Int32} {G : Nat → Int32} (hP : zP b0 N f [(wk, oWrk dc rs lb), (rs, aI ck 400 G)]) {a b : Nat} (ha : a < 40) (hb : b < 10) {x : Int32} : zK l D ck ad b0 y_Wrk_setResult prog_8_method_12_code 5 (none) 0 0 0 [.ref wk, .int (nI a), .int (nI b), .int x] N f (fun r N' f' => r = none ∧ N = N' ∧ f' = va_up f rs (aI ck 400 (upd G (a * 10 + b) x))) := by
  refine zM.of zG_w (by decide) (Nat.le_of_ble_eq_true rfl) ?_
  intro zp ze zst zm zar zbe zme zc X hnm hb0
  refine z_iload_n X d_Wrk_setResult_0 rfl ?_
  refine z_bipush X d_Wrk_setResult_1 (v := 10) (by decide) ?_
  refine z_imul X d_Wrk_setResult_3 ?_
  refine z_iload_n X d_Wrk_setResult_4 rfl ?_
  refine z_iadd X d_Wrk_setResult_5 ?_
  refine z_istore X d_Wrk_setResult_6 (by decide) rfl ?_
  refine z_iload X d_Wrk_setResult_8 rfl ?_
  refine z_if_lt X 31 d_Wrk_setResult_10 (by decide) (fun h10 => ?_) (fun h10 => ?_)
  · skip
    rw [show nI a * 10 + nI b = nI (a * 10 + b) from by rw [show (10 : Int32) = nI 10 from rfl, pk_mul, nI_add]] at h10; exact absurd h10 (nI_pos (by omega))
  · skip
    refine z_iload X d_Wrk_setResult_13 rfl ?_
    refine z_aload_n X d_Wrk_setResult_15 rfl ?_
    refine z_get X d_Wrk_setResult_16 (hP.lo 0 rfl) (hP.at 0 rfl) cl_Wrk in_Wrk 1 (by decide) fl_Wrk_18 rfl rfl ?_
    refine z_alen X d_Wrk_setResult_19 (hP.lo 1 rfl) (hP.at 1 rfl) (t0 := 0) rfl rfl ?_
    refine z_icmp_ge X 31 d_Wrk_setResult_20 (by decide) (fun h20 => ?_) (fun h20 => ?_)
    · skip
      rw [show nI a * 10 + nI b = nI (a * 10 + b) from by rw [show (10 : Int32) = nI 10 from rfl, pk_mul, nI_add]] at h20; exact absurd h20 (nI_ge (b := 400) (by omega) (by decide))
    · skip
      refine z_aload_n X d_Wrk_setResult_23 rfl ?_
      refine z_get X d_Wrk_setResult_24 (hP.lo 0 rfl) (hP.at 0 rfl) cl_Wrk in_Wrk 1 (by decide) fl_Wrk_18 rfl rfl ?_
      refine z_iload X d_Wrk_setResult_27 rfl ?_
      refine z_iload_n X d_Wrk_setResult_29 rfl ?_
      refine z_iastP X d_Wrk_setResult_30 hP 1 rfl (t0 := 0) rfl (by rw [show nI a * 10 + nI b = nI (a * 10 + b) from by rw [show (10 : Int32) = nI 10 from rfl, pk_mul, nI_add]]; exact vp_in_nI (by omega) (by decide)) (fun hP => ?_)
      exact z_vret X d_Wrk_setResult_31 ⟨rfl, rfl, by rw [show nI a * 10 + nI b = nI (a * 10 + b) from by rw [show (10 : Int32) = nI 10 from rfl, pk_mul, nI_add], nI_clamp (by omega)]⟩
theorem d_Wrk_resultOf_0 : decode prog_8_method_13_code 0 = .ok (.iload_n 1, 1) := by decide +kernel
theorem d_Wrk_resultOf_1 : decode prog_8_method_13_code 1 = .ok (.bipush 10, 2) := by decide +kernel
theorem d_Wrk_resultOf_3 : decode prog_8_method_13_code 3 = .ok (.imul, 1) := by decide +kernel
theorem d_Wrk_resultOf_4 : decode prog_8_method_13_code 4 = .ok (.iload_n 2, 1) := by decide +kernel
theorem d_Wrk_resultOf_5 : decode prog_8_method_13_code 5 = .ok (.iadd, 1) := by decide +kernel
theorem d_Wrk_resultOf_6 : decode prog_8_method_13_code 6 = .ok (.istore_n 3, 1) := by decide +kernel
theorem d_Wrk_resultOf_7 : decode prog_8_method_13_code 7 = .ok (.iload_n 1, 1) := by decide +kernel
theorem d_Wrk_resultOf_8 : decode prog_8_method_13_code 8 = .ok (.ifCond .lt 16, 3) := by decide +kernel
theorem d_Wrk_resultOf_11 : decode prog_8_method_13_code 11 = .ok (.iload_n 3, 1) := by decide +kernel
theorem d_Wrk_resultOf_12 : decode prog_8_method_13_code 12 = .ok (.ifCond .lt 12, 3) := by decide +kernel
theorem d_Wrk_resultOf_15 : decode prog_8_method_13_code 15 = .ok (.iload_n 3, 1) := by decide +kernel
theorem d_Wrk_resultOf_16 : decode prog_8_method_13_code 16 = .ok (.aload_n 0, 1) := by decide +kernel
theorem d_Wrk_resultOf_17 : decode prog_8_method_13_code 17 = .ok (.getfield 18, 3) := by decide +kernel
theorem d_Wrk_resultOf_20 : decode prog_8_method_13_code 20 = .ok (.arraylength, 1) := by decide +kernel
theorem d_Wrk_resultOf_21 : decode prog_8_method_13_code 21 = .ok (.if_icmp .lt 6, 3) := by decide +kernel
theorem d_Wrk_resultOf_24 : decode prog_8_method_13_code 24 = .ok (.ldc 96, 2) := by decide +kernel
theorem d_Wrk_resultOf_26 : decode prog_8_method_13_code 26 = .ok (.ireturn, 1) := by decide +kernel
theorem d_Wrk_resultOf_27 : decode prog_8_method_13_code 27 = .ok (.aload_n 0, 1) := by decide +kernel
theorem d_Wrk_resultOf_28 : decode prog_8_method_13_code 28 = .ok (.getfield 18, 3) := by decide +kernel
theorem d_Wrk_resultOf_31 : decode prog_8_method_13_code 31 = .ok (.iload_n 3, 1) := by decide +kernel
theorem d_Wrk_resultOf_32 : decode prog_8_method_13_code 32 = .ok (.iaload, 1) := by decide +kernel
theorem d_Wrk_resultOf_33 : decode prog_8_method_13_code 33 = .ok (.ireturn, 1) := by decide +kernel
set_option maxHeartbeats 4000000 in
set_option maxRecDepth 100000 in
theorem c_Wrk_resultOf_s {wk dc rs : Nat} {lb : Int32} {G : Nat → Int32} (hP : zP b0 N f [(wk, oWrk dc rs lb), (rs, aI ck 400 G)]) {c : Nat} {b : Nat} (hc : c < 40) (hb : b < 10) : zK l D ck ad b0 y_Wrk_resultOf prog_8_method_13_code 4 ((some FieldType.int)) 0 0 0 [.ref wk, .int (nI c), .int (nI b)] N f (fun r N' f' => r = some (.int (G (c * 10 + b))) ∧ N = N' ∧ f = f') := by
  refine zM.of zG_w (by decide) (Nat.le_of_ble_eq_true rfl) ?_
  intro zp ze zst zm zar zbe zme zc X hnm hb0
  refine z_iload_n X d_Wrk_resultOf_0 rfl ?_
  refine z_bipush X d_Wrk_resultOf_1 (v := 10) (by decide) ?_
  refine z_imul X d_Wrk_resultOf_3 ?_
  refine z_iload_n X d_Wrk_resultOf_4 rfl ?_
  refine z_iadd X d_Wrk_resultOf_5 ?_
  refine z_istore_n X d_Wrk_resultOf_6 (by decide) rfl ?_
  refine z_iload_n X d_Wrk_resultOf_7 rfl ?_
  refine z_if_lt X 24 d_Wrk_resultOf_8 (by decide) (fun h8 => ?_) (fun h8 => ?_)
  · skip
    exact absurd h8 (nI_pos (by omega))
  · skip
    refine z_iload_n X d_Wrk_resultOf_11 rfl ?_
    refine z_if_lt X 24 d_Wrk_resultOf_12 (by decide) (fun h12 => ?_) (fun h12 => ?_)
    · skip
      rw [show nI c * 10 + nI b = nI (c * 10 + b) from by rw [show (10 : Int32) = nI 10 from rfl, pk_mul, nI_add]] at h12; exact absurd h12 (nI_pos (by omega))
    · skip
      refine z_iload_n X d_Wrk_resultOf_15 rfl ?_
      refine z_aload_n X d_Wrk_resultOf_16 rfl ?_
      refine z_get X d_Wrk_resultOf_17 (hP.lo 0 rfl) (hP.at 0 rfl) cl_Wrk in_Wrk 1 (by decide) fl_Wrk_18 rfl rfl ?_
      refine z_alen X d_Wrk_resultOf_20 (hP.lo 1 rfl) (hP.at 1 rfl) (t0 := 0) rfl rfl ?_
      refine z_icmp_lt X 27 d_Wrk_resultOf_21 (by decide) (fun h21 => ?_) (fun h21 => ?_)
      · skip
        refine z_aload_n X d_Wrk_resultOf_27 rfl ?_
        refine z_get X d_Wrk_resultOf_28 (hP.lo 0 rfl) (hP.at 0 rfl) cl_Wrk in_Wrk 1 (by decide) fl_Wrk_18 rfl rfl ?_
        refine z_iload_n X d_Wrk_resultOf_31 rfl ?_
        refine z_iald X d_Wrk_resultOf_32 (hP.lo 1 rfl) (hP.at 1 rfl) (t0 := 0) rfl (by rw [show nI c * 10 + nI b = nI (c * 10 + b) from by rw [show (10 : Int32) = nI 10 from rfl, pk_mul, nI_add]]; exact vp_in_nI (by omega) (by decide)) ?_
        exact z_iret X d_Wrk_resultOf_33 ⟨by rw [show nI c * 10 + nI b = nI (c * 10 + b) from by rw [show (10 : Int32) = nI 10 from rfl, pk_mul, nI_add], nI_clamp (by omega)], rfl, rfl⟩
      · skip
        rw [show nI c * 10 + nI b = nI (c * 10 + b) from by rw [show (10 : Int32) = nI 10 from rfl, pk_mul, nI_add]] at h21; exact absurd (nI_lt (b := 400) (by omega) (by decide)) h21
set_option maxHeartbeats 4000000 in
set_option maxRecDepth 100000 in
theorem c_Wrk_resultOf_n {wk dc rs : Nat} {lb : Int32} {G : Nat → Int32} (hP : zP b0 N f [(wk, oWrk dc rs lb), (rs, aI ck 400 G)]) {b : Int32} : zK l D ck ad b0 y_Wrk_resultOf prog_8_method_13_code 4 ((some FieldType.int)) 0 0 0 [.ref wk, .int (-1), .int b] N f (fun r N' f' => r = some (.int (-2147483648)) ∧ N = N' ∧ f = f') := by
  refine zM.of zG_w (by decide) (Nat.le_of_ble_eq_true rfl) ?_
  intro zp ze zst zm zar zbe zme zc X hnm hb0
  refine z_iload_n X d_Wrk_resultOf_0 rfl ?_
  refine z_bipush X d_Wrk_resultOf_1 (v := 10) (by decide) ?_
  refine z_imul X d_Wrk_resultOf_3 ?_
  refine z_iload_n X d_Wrk_resultOf_4 rfl ?_
  refine z_iadd X d_Wrk_resultOf_5 ?_
  refine z_istore_n X d_Wrk_resultOf_6 (by decide) rfl ?_
  refine z_iload_n X d_Wrk_resultOf_7 rfl ?_
  refine z_if_lt X 24 d_Wrk_resultOf_8 (by decide) (fun h8 => ?_) (fun h8 => ?_)
  · skip
    refine z_ldc X d_Wrk_resultOf_24 k_Wrk_96 ?_
    exact z_iret X d_Wrk_resultOf_26 ⟨rfl, rfl, rfl⟩
  · skip
    exact absurd (by decide) h8
theorem c_Wrk_resultOf {wk dc rs : Nat} {lb : Int32} {G : Nat → Int32} (hP : zP b0 N f [(wk, oWrk dc rs lb), (rs, aI ck 400 G)]) {c : Option Nat} {b : Nat} (hc : ∀ q, c = some q → q < 40) (hb : b < 10) : zK l D ck ad b0 y_Wrk_resultOf prog_8_method_13_code 4 ((some FieldType.int)) 0 0 0 [.ref wk, .int (wix c), .int (nI b)] N f (fun r N' f' => r = some (.int (wres G c b)) ∧ N = N' ∧ f = f') := by
  cases c with
  | none => exact c_Wrk_resultOf_n hP
  | some c => exact c_Wrk_resultOf_s hP (hc c rfl) hb
theorem d_Wrk_setOnAllLines_0 : decode prog_8_method_11_code 0 = .ok (.iconst 0, 1) := by decide +kernel
theorem d_Wrk_setOnAllLines_1 : decode prog_8_method_11_code 1 = .ok (.istore_n 3, 1) := by decide +kernel
theorem d_Wrk_setOnAllLines_2 : decode prog_8_method_11_code 2 = .ok (.iload_n 3, 1) := by decide +kernel
theorem d_Wrk_setOnAllLines_3 : decode prog_8_method_11_code 3 = .ok (.bipush 10, 2) := by decide +kernel
theorem d_Wrk_setOnAllLines_5 : decode prog_8_method_11_code 5 = .ok (.if_icmp .ge 16, 3) := by decide +kernel
theorem d_Wrk_setOnAllLines_8 : decode prog_8_method_11_code 8 = .ok (.aload_n 0, 1) := by decide +kernel
theorem d_Wrk_setOnAllLines_9 : decode prog_8_method_11_code 9 = .ok (.iload_n 1, 1) := by decide +kernel
theorem d_Wrk_setOnAllLines_10 : decode prog_8_method_11_code 10 = .ok (.iload_n 3, 1) := by decide +kernel
theorem d_Wrk_setOnAllLines_11 : decode prog_8_method_11_code 11 = .ok (.iload_n 2, 1) := by decide +kernel
theorem d_Wrk_setOnAllLines_12 : decode prog_8_method_11_code 12 = .ok (.invokevirtual 73, 3) := by decide +kernel
theorem d_Wrk_setOnAllLines_15 : decode prog_8_method_11_code 15 = .ok (.iinc 3 1, 3) := by decide +kernel
theorem d_Wrk_setOnAllLines_18 : decode prog_8_method_11_code 18 = .ok (.goto (-16), 3) := by decide +kernel
theorem d_Wrk_setOnAllLines_21 : decode prog_8_method_11_code 21 = .ok (.return_, 1) := by decide +kernel
set_option maxHeartbeats 4000000 in
set_option maxRecDepth 100000 in
theorem c_Wrk_setOnAllLines {wk dc rs : Nat} {lb : Int32} {G : Nat → Int32} (hP : zP b0 N f [(wk, oWrk dc rs lb), (rs, aI ck 400 G)]) {a : Nat} (ha : a < 40) {x : Int32} : zK l D ck ad b0 y_Wrk_setOnAllLines prog_8_method_11_code 4 (none) 1 0 0 [.ref wk, .int (nI a), .int x] N f (fun r N' f' => r = none ∧ N = N' ∧ zP b0 N f' [(wk, oWrk dc rs lb), (rs, aI ck 400 (wsetk G a (fun _ => x) 10))] ∧ zF N f f' [wk, rs]) := by
  refine zM.of zG_w (by decide) (Nat.le_of_ble_eq_true rfl) ?_
  intro zp ze zst zm zar zbe zme zc X hnm hb0
  have L2 : ∀ (nn : Nat) (j : Nat) (f1 : Nat → va_E), (j ≤ 10 ∧ j + nn = 11) → zP b0 N f1 [(wk, oWrk dc rs lb), (rs, aI ck 400 (wsetk G a (fun _ => x) j))] → zF N f f1 [wk, rs] → zW zp l ze (zR 1 0 0) zst zm zar zbe zme zc D zcl b0 4 0 0 (MQ zbe (zQ D zcl b0 (fun r N' f' => r = none ∧ N = N' ∧ zP b0 N f' [(wk, oWrk dc rs lb), (rs, aI ck 400 (wsetk G a (fun _ => x) 10))] ∧ zF N f f' [wk, rs])) zar zst 0 0 (zA b0)) N f1 2 [(0, .ref wk), (1, .int (nI a)), (2, .int x), (3, .int (nI j))] [] := by
    intro nn
    induction nn with
    | zero =>
      intro j f1 hj0 hP hF
      omega
    | succ nn ih =>
      intro j f1 hj0 hP hF
      refine z_iload_n X d_Wrk_setOnAllLines_2 rfl ?_
      refine z_bipush X d_Wrk_setOnAllLines_3 (v := 10) (by decide) ?_
      refine z_icmp_ge X 21 d_Wrk_setOnAllLines_5 (by decide) (fun h5 => ?_) (fun h5 => ?_)
      · skip
        have hj : j = 10 := by have := (nI_leI (a := 10) (b := j) (by decide) (by omega)).mp h5; omega
        subst hj
        exact z_vret X d_Wrk_setOnAllLines_21 ⟨rfl, rfl, hP, hF⟩
      · skip
        have hj : j < 10 := by
          rcases Nat.lt_or_ge j 10 with z | z
          · exact z
          · exact absurd (nI_le (a := 10) (b := j) z (by omega)) h5
        refine z_aload_n X d_Wrk_setOnAllLines_8 rfl ?_
        refine z_iload_n X d_Wrk_setOnAllLines_9 rfl ?_
        refine z_iload_n X d_Wrk_setOnAllLines_10 rfl ?_
        refine z_iload_n X d_Wrk_setOnAllLines_11 rfl ?_
        refine z_callV X zG_ok (c_Wrk_setResult hP ha hj) d_Wrk_setOnAllLines_12 ⟨(z_cb (n := 3) X.2.2.2.2.1 ml_Wrk_73 mc_Wrk_setResult ini_Wrk (by decide +kernel) rfl rfl ⟨Nat.le_of_ble_eq_true rfl, Nat.le_of_ble_eq_true rfl⟩), X.2.2.2.2.1 _ im_Wrk_setResult, X.2.2.2.2.1 _ sel_Wrk_setResult⟩ (hP.lo 0 rfl) (hP.at 0 rfl) cl_Wrk rfl rfl (Nat.le_of_ble_eq_true rfl) ⟨Nat.le_of_ble_eq_true rfl, Nat.le_of_ble_eq_true rfl⟩ (fun r N1 f1 hp hN1 => ?_)
        obtain ⟨rfl, rfl, rfl⟩ := hp
        have hP := hP.put 1 rfl (aI ck 400 (upd (wsetk G a (fun _ => x) j) (a * 10 + j) x))
        have hF := hF.by (by simp) hP
        refine z_iinc X d_Wrk_setOnAllLines_15 rfl (nI_1 _) (by decide) rfl ?_
        refine z_goto X 2 d_Wrk_setOnAllLines_18 (by decide) ?_
        exact ih (j + 1) _ (by omega) (hP.eq (by rw [← wsetk_s G a (fun _ => x) j]; rfl)) hF
  refine z_iconst X d_Wrk_setOnAllLines_0 (v := 0) (by decide) ?_
  refine z_istore_n X d_Wrk_setOnAllLines_1 (by decide) rfl ?_
  exact L2 11 0 f (by omega) (hP.eq (by rw [wsetk_0])) zF.rf
end
end
section
set_option maxRecDepth 100000 in
theorem mc_lib_min : Cond.code Lib.Math.min.name Lib.Math.min.code 2 (some .int) ∈ zTs := zT_in 317 rfl rfl
set_option maxRecDepth 100000 in
theorem mc_lib_max : Cond.code Lib.Math.max.name Lib.Math.max.code 2 (some .int) ∈ zTs := zT_in 650 rfl rfl
section ZMM
variable {p : Program} {l : Launch} {e : Env} {R : Room} {s : State} {m : MethodId} {args : Array Value} {below : List Frame} {meth : Method} {c : Code} {cells slots : Nat} {Q : State → Prop} {D : va_G} {cl : List vw_C} {tys : List (ClassId × FieldType)} {b0 : Nat} {G : State → Prop} {cc : ByteArray} {nL : Nat} {own : String} {Ts : List Cond} {ret : Option FieldType} {N : Nat} {f : Nat → va_E} {pc : Nat} {lv : List (Nat × Value)} {st : List Value}
theorem z_mmin (X : zX p s m args meth c D cl tys b0 G cc nL own Ts ret) {index : Nat} {x y : Int32} (hdg : decode cc pc = .ok (.invokestatic index, 3)) (h1 : Cond.methodLink own index Lib.Math.min.name ∈ Ts) (h2 : Cond.static Lib.Math.min.name ∈ Ts) (h3 : Cond.initialized "java/lang/Math" ∈ Ts) (h4 : Cond.code Lib.Math.min.name Lib.Math.min.code 2 (some .int) ∈ Ts) (hfr : 1 ≤ R.frames) (hlo : (st.map fun v => v.category).sum + 13 ≤ R.locals) (hc : cells ≤ R.cells) (hs : slots ≤ R.slots)
    (kk : zW p l e R s m args below meth c D cl b0 nL cells slots Q N f (pc + 3) lv (.int (if y < x then y else x) :: st)) : zW p l e R s m args below meth c D cl b0 nL cells slots Q N f pc lv (.int y :: .int x :: st) := fun H locs ls hH hS hL => va_mmin X.1 X.2.1 (by rw [X.2.2.1]; exact hL.1.symm) X.2.2.2.1 (X.2.2.2.2.1 _ h1) (X.2.2.2.2.1 _ h2) (X.2.2.2.2.1 _ h3) (X.2.2.2.2.1 _ h4) hfr hlo hc hs hdg (kk H locs ls hH hS hL)
end ZMM
theorem zP.sel {b0 N : Nat} {f : Nat → va_E} {ws : va_W} (h : zP b0 N f ws) (is : List Nat) (hn : va_nd is = true) (hl : ∀ i ∈ is, i < ws.length) : zP b0 N f (is.filterMap (fun i => ws[i]?)) := by
  refine h.sub is hn ?_
  clear hn
  induction is with
  | nil => rfl
  | cons i is ih =>
    have h1 : ws[i]? = some (ws[i]'(hl i List.mem_cons_self)) := List.getElem?_eq_getElem _
    rw [List.map_cons, List.filterMap_cons, h1]
    simp only [List.map_cons]
    rw [ih (fun j hj => hl j (List.mem_cons_of_mem _ hj))]
/-- behind a call, by places; the callee's cells by their addresses -/
theorem zP.jn {b0 N N' : Nat} {f f' : Nat → va_E} {ws w1 : va_W} {as : List Nat} (h : zP b0 N f ws) (isC isR : List Nat) (hC : isC.map (fun i => (ws[i]?).map (fun q => q.1)) = as.map some) (hn : va_nd isR = true) (hl : ∀ i ∈ isR, i < ws.length) (hdis : ∀ i ∈ isR, i ∉ isC)
    (hF : zF N f f' as) (hN : N ≤ N') (h1 : zP b0 N' f' w1) (hsub : ∀ a ∈ w1.map (fun q => q.1), a ∈ as ∨ N ≤ a) : zP b0 N' f' (isR.filterMap (fun i => ws[i]?) ++ w1) := by
  have hr := h.sel isR hn hl
  have apart : ∀ a ∈ (isR.filterMap (fun i => ws[i]?)).map (fun q => q.1), a ∉ as := by
    intro a ha hc
    obtain ⟨p, hp, rfl⟩ := List.mem_map.mp ha
    obtain ⟨i, hi, hpi⟩ := List.mem_filterMap.mp hp
    obtain ⟨k, hk⟩ := List.getElem?_of_mem hc
    have e1 : (isC.map (fun i => (ws[i]?).map (fun q => q.1)))[k]? = some (some p.1) := by rw [hC, List.getElem?_map, hk]; rfl
    rw [List.getElem?_map] at e1
    cases hj : isC[k]? with
    | none => rw [hj] at e1; cases e1
    | some j =>
      rw [hj] at e1
      have e2 : (ws[j]?).map (fun q => q.1) = some p.1 := Option.some.inj e1
      cases hq : ws[j]? with
      | none => rw [hq] at e2; cases e2
      | some q =>
        rw [hq] at e2
        have := h.inj hq hpi (Option.some.inj e2)
        subst this
        exact hdis j hi (List.mem_of_getElem? hj)
  have hr' := hr.frame hF hN (fun a q1 q2 => apart a q2 q1)
  refine ⟨?_, fun k q hk => ?_⟩
  · rw [List.map_append, List.nodup_append]
    refine ⟨hr.1, h1.1, fun a ha b hb e => ?_⟩
    subst e
    rcases hsub a hb with z | z
    · exact apart a ha z
    · obtain ⟨p, hp, rfl⟩ := List.mem_map.mp ha
      obtain ⟨i, hi⟩ := List.getElem?_of_mem hp
      have := (hr.2 i p hi).2.1
      omega
  · by_cases hl2 : k < (isR.filterMap (fun i => ws[i]?)).length
    · rw [List.getElem?_append_left hl2] at hk
      exact hr'.2 k q hk
    · rw [List.getElem?_append_right (by omega)] at hk
      exact h1.2 _ q hk
abbrev wWrk (ck : Nat → ClassId) (wk dc rs va : Nat) (lb : Int32) (G v : Nat → Int32) : va_W := [(wk, oWrk dc rs lb), (rs, aI ck 400 G), (dc, oDecl va), (va, aI ck 200 v)]
section
variable {l : Launch} {D : va_G} {ck : Nat → ClassId} {ad : (Nat → Nat) × (Nat → Nat)} {b0 N : Nat} {f : Nat → va_E}
theorem d_Wrk_overLines_0 : decode prog_8_method_4_code 0 = .ok (.iload_n 1, 1) := by decide +kernel
theorem d_Wrk_overLines_1 : decode prog_8_method_4_code 1 = .ok (.iconst 3, 1) := by decide +kernel
theorem d_Wrk_overLines_2 : decode prog_8_method_4_code 2 = .ok (.if_icmp .ne 7, 3) := by decide +kernel
theorem d_Wrk_overLines_5 : decode prog_8_method_4_code 5 = .ok (.iconst 1, 1) := by decide +kernel
theorem d_Wrk_overLines_6 : decode prog_8_method_4_code 6 = .ok (.goto 4, 3) := by decide +kernel
theorem d_Wrk_overLines_9 : decode prog_8_method_4_code 9 = .ok (.iconst 0, 1) := by decide +kernel
theorem d_Wrk_overLines_10 : decode prog_8_method_4_code 10 = .ok (.istore_n 3, 1) := by decide +kernel
theorem d_Wrk_overLines_11 : decode prog_8_method_4_code 11 = .ok (.iconst 1, 1) := by decide +kernel
theorem d_Wrk_overLines_12 : decode prog_8_method_4_code 12 = .ok (.istore 4, 2) := by decide +kernel
theorem d_Wrk_overLines_14 : decode prog_8_method_4_code 14 = .ok (.iload 4, 2) := by decide +kernel
theorem d_Wrk_overLines_16 : decode prog_8_method_4_code 16 = .ok (.bipush 10, 2) := by decide +kernel
theorem d_Wrk_overLines_18 : decode prog_8_method_4_code 18 = .ok (.if_icmp .ge 52, 3) := by decide +kernel
theorem d_Wrk_overLines_21 : decode prog_8_method_4_code 21 = .ok (.aload_n 0, 1) := by decide +kernel
theorem d_Wrk_overLines_22 : decode prog_8_method_4_code 22 = .ok (.getfield 26, 3) := by decide +kernel
theorem d_Wrk_overLines_25 : decode prog_8_method_4_code 25 = .ok (.iload 4, 2) := by decide +kernel
theorem d_Wrk_overLines_27 : decode prog_8_method_4_code 27 = .ok (.ishr, 1) := by decide +kernel
theorem d_Wrk_overLines_28 : decode prog_8_method_4_code 28 = .ok (.iconst 1, 1) := by decide +kernel
theorem d_Wrk_overLines_29 : decode prog_8_method_4_code 29 = .ok (.iand, 1) := by decide +kernel
theorem d_Wrk_overLines_30 : decode prog_8_method_4_code 30 = .ok (.iconst 1, 1) := by decide +kernel
theorem d_Wrk_overLines_31 : decode prog_8_method_4_code 31 = .ok (.if_icmp .ne 33, 3) := by decide +kernel
theorem d_Wrk_overLines_34 : decode prog_8_method_4_code 34 = .ok (.aload_n 0, 1) := by decide +kernel
theorem d_Wrk_overLines_35 : decode prog_8_method_4_code 35 = .ok (.iload_n 2, 1) := by decide +kernel
theorem d_Wrk_overLines_36 : decode prog_8_method_4_code 36 = .ok (.iload 4, 2) := by decide +kernel
theorem d_Wrk_overLines_38 : decode prog_8_method_4_code 38 = .ok (.invokevirtual 44, 3) := by decide +kernel
theorem d_Wrk_overLines_41 : decode prog_8_method_4_code 41 = .ok (.istore 5, 2) := by decide +kernel
theorem d_Wrk_overLines_43 : decode prog_8_method_4_code 43 = .ok (.iload_n 1, 1) := by decide +kernel
theorem d_Wrk_overLines_44 : decode prog_8_method_4_code 44 = .ok (.iconst 3, 1) := by decide +kernel
theorem d_Wrk_overLines_45 : decode prog_8_method_4_code 45 = .ok (.if_icmp .ne 12, 3) := by decide +kernel
theorem d_Wrk_overLines_48 : decode prog_8_method_4_code 48 = .ok (.iload_n 3, 1) := by decide +kernel
theorem d_Wrk_overLines_49 : decode prog_8_method_4_code 49 = .ok (.iload 5, 2) := by decide +kernel
theorem d_Wrk_overLines_51 : decode prog_8_method_4_code 51 = .ok (.invokestatic 84, 3) := by decide +kernel
theorem d_Wrk_overLines_54 : decode prog_8_method_4_code 54 = .ok (.goto 9, 3) := by decide +kernel
theorem d_Wrk_overLines_57 : decode prog_8_method_4_code 57 = .ok (.iload_n 3, 1) := by decide +kernel
theorem d_Wrk_overLines_58 : decode prog_8_method_4_code 58 = .ok (.iload 5, 2) := by decide +kernel
theorem d_Wrk_overLines_60 : decode prog_8_method_4_code 60 = .ok (.invokestatic 87, 3) := by decide +kernel
theorem d_Wrk_overLines_63 : decode prog_8_method_4_code 63 = .ok (.istore_n 3, 1) := by decide +kernel
theorem d_Wrk_overLines_64 : decode prog_8_method_4_code 64 = .ok (.iinc 4 1, 3) := by decide +kernel
theorem d_Wrk_overLines_67 : decode prog_8_method_4_code 67 = .ok (.goto (-53), 3) := by decide +kernel
theorem d_Wrk_overLines_70 : decode prog_8_method_4_code 70 = .ok (.iload_n 3, 1) := by decide +kernel
theorem d_Wrk_overLines_71 : decode prog_8_method_4_code 71 = .ok (.ireturn, 1) := by decide +kernel
set_option maxHeartbeats 4000000 in
set_option maxRecDepth 100000 in
theorem c_Wrk_overLines {wk dc rs : Nat} {lb : Int32} {G : Nat → Int32} (hP : zP b0 N f [(wk, oWrk dc rs lb), (rs, aI ck 400 G)]) {kd : Int32} {cq : Option Nat} (hc : ∀ z, cq = some z → z < 40) : zK l D ck ad b0 y_Wrk_overLines prog_8_method_4_code 6 ((some FieldType.int)) 2 0 0 [.ref wk, .int kd, .int (wix cq)] N f (fun r N' f' => r = some (.int (wover kd lb G cq 9)) ∧ N = N' ∧ f = f') := by
  refine zM.of zG_w (by decide) (Nat.le_of_ble_eq_true rfl) ?_
  intro zp ze zst zm zar zbe zme zc X hnm hb0
  have L14 : ∀ (nn : Nat) (k : Nat), (k ≤ 9 ∧ k + nn = 10) → zW zp l ze (zR 2 0 0) zst zm zar zbe zme zc D zcl b0 6 0 0 (MQ zbe (zQ D zcl b0 (fun r N' f' => r = some (.int (wover kd lb G cq 9)) ∧ N = N' ∧ f = f')) zar zst 0 0 (zA b0)) N f 14 [(0, .ref wk), (1, .int kd), (2, .int (wix cq)), (3, .int (wover kd lb G cq k)), (4, .int (nI (k + 1)))] [] := by
    intro nn
    induction nn with
    | zero =>
      intro k hk
      omega
    | succ nn ih =>
      intro k hk
      refine z_iload X d_Wrk_overLines_14 rfl ?_
      refine z_bipush X d_Wrk_overLines_16 (v := 10) (by decide) ?_
      refine z_icmp_ge X 70 d_Wrk_overLines_18 (by decide) (fun h18 => ?_) (fun h18 => ?_)
      · skip
        have hk9 : k = 9 := by have := (nI_leI (a := 10) (b := k + 1) (by decide) (by omega)).mp h18; omega
        subst hk9
        refine z_iload_n X d_Wrk_overLines_70 rfl ?_
        exact z_iret X d_Wrk_overLines_71 ⟨rfl, rfl, rfl⟩
      · skip
        have hk9 : k < 9 := by
          rcases Nat.lt_or_ge k 9 with z | z
          · exact z
          · exact absurd (nI_le (a := 10) (b := k + 1) (by omega) (by omega)) h18
        refine z_aload_n X d_Wrk_overLines_21 rfl ?_
        refine z_get X d_Wrk_overLines_22 (hP.lo 0 rfl) (hP.at 0 rfl) cl_Wrk in_Wrk 2 (by decide) fl_Wrk_26 rfl rfl ?_
        refine z_iload X d_Wrk_overLines_25 rfl ?_
        refine z_ishr X d_Wrk_overLines_27 ?_
        refine z_iconst X d_Wrk_overLines_28 (v := 1) (by decide) ?_
        refine z_iand X d_Wrk_overLines_29 ?_
        refine z_iconst X d_Wrk_overLines_30 (v := 1) (by decide) ?_
        refine z_icmp_ne X 64 d_Wrk_overLines_31 (by decide) (fun h31 => ?_) (fun h31 => ?_)
        · skip
          refine z_iinc X d_Wrk_overLines_64 rfl (nI_1 _) (by decide) rfl ?_
          refine z_goto X 14 d_Wrk_overLines_67 (by decide) ?_
          refine zW.pick [0, 1, 2, 3, 4] (lv' := [(0, .ref wk), (1, .int kd), (2, .int (wix cq)), (3, .int (wover kd lb G cq (k + 1))), (4, .int (nI (k + 2)))]) (by first | (rw [wover, if_pos h31, if_pos h45]; rfl) | (rw [wover, if_pos h31, if_neg h45]; rfl) | (rw [wover, if_neg h31]; rfl)) ?_
          exact ih (k + 1) (by omega)
        · skip
          refine z_aload_n X d_Wrk_overLines_34 rfl ?_
          refine z_iload_n X d_Wrk_overLines_35 rfl ?_
          refine z_iload X d_Wrk_overLines_36 rfl ?_
          refine z_callV X zG_ok (c_Wrk_resultOf hP (c := cq) (b := k + 1) hc (by omega)) d_Wrk_overLines_38 ⟨(z_cb (n := 2) X.2.2.2.2.1 ml_Wrk_44 mc_Wrk_resultOf ini_Wrk (by decide +kernel) rfl rfl ⟨Nat.le_of_ble_eq_true rfl, Nat.le_of_ble_eq_true rfl⟩), X.2.2.2.2.1 _ im_Wrk_resultOf, X.2.2.2.2.1 _ sel_Wrk_resultOf⟩ (hP.lo 0 rfl) (hP.at 0 rfl) cl_Wrk rfl rfl (Nat.le_of_ble_eq_true rfl) ⟨Nat.le_of_ble_eq_true rfl, Nat.le_of_ble_eq_true rfl⟩ (fun r N1 f1 hp hN1 => ?_)
          obtain ⟨rfl, rfl, rfl⟩ := hp
          refine z_istore X d_Wrk_overLines_41 (by decide) rfl ?_
          refine z_iload_n X d_Wrk_overLines_43 rfl ?_
          refine z_iconst X d_Wrk_overLines_44 (v := 3) (by decide) ?_
          refine z_icmp_ne X 57 d_Wrk_overLines_45 (by decide) (fun h45 => ?_) (fun h45 => ?_)
          · skip
            refine z_iload_n X d_Wrk_overLines_57 rfl ?_
            refine z_iload X d_Wrk_overLines_58 rfl ?_
            refine z_callS X zG_ok (c_Wrk_either (f := f)) d_Wrk_overLines_60 ⟨(z_cb (n := 2) X.2.2.2.2.1 ml_Wrk_87 mc_Wrk_either ini_Wrk (by decide +kernel) rfl rfl ⟨Nat.le_of_ble_eq_true rfl, Nat.le_of_ble_eq_true rfl⟩), X.2.2.2.2.1 _ st_Wrk_either⟩ rfl rfl (Nat.le_of_ble_eq_true rfl) ⟨Nat.le_of_ble_eq_true rfl, Nat.le_of_ble_eq_true rfl⟩ (fun r N1 f1 hp hN1 => ?_)
            obtain ⟨rfl, rfl, rfl⟩ := hp
            refine z_istore_n X d_Wrk_overLines_63 (by decide) rfl ?_
            refine z_iinc X d_Wrk_overLines_64 rfl (nI_1 _) (by decide) rfl ?_
            refine z_goto X 14 d_Wrk_overLines_67 (by decide) ?_
            refine zW.pick [0, 1, 2, 3, 4] (lv' := [(0, .ref wk), (1, .int kd), (2, .int (wix cq)), (3, .int (wover kd lb G cq (k + 1))), (4, .int (nI (k + 2)))]) (by first | (rw [wover, if_pos h31, if_pos h45]; rfl) | (rw [wover, if_pos h31, if_neg h45]; rfl) | (rw [wover, if_neg h31]; rfl)) ?_
            exact ih (k + 1) (by omega)
          · skip
            refine z_iload_n X d_Wrk_overLines_48 rfl ?_
            refine z_iload X d_Wrk_overLines_49 rfl ?_
            refine z_callS X zG_ok (c_Wrk_both (f := f)) d_Wrk_overLines_51 ⟨(z_cb (n := 2) X.2.2.2.2.1 ml_Wrk_84 mc_Wrk_both ini_Wrk (by decide +kernel) rfl rfl ⟨Nat.le_of_ble_eq_true rfl, Nat.le_of_ble_eq_true rfl⟩), X.2.2.2.2.1 _ st_Wrk_both⟩ rfl rfl (Nat.le_of_ble_eq_true rfl) ⟨Nat.le_of_ble_eq_true rfl, Nat.le_of_ble_eq_true rfl⟩ (fun r N1 f1 hp hN1 => ?_)
            obtain ⟨rfl, rfl, rfl⟩ := hp
            refine z_goto X 63 d_Wrk_overLines_54 (by decide) ?_
            refine z_istore_n X d_Wrk_overLines_63 (by decide) rfl ?_
            refine z_iinc X d_Wrk_overLines_64 rfl (nI_1 _) (by decide) rfl ?_
            refine z_goto X 14 d_Wrk_overLines_67 (by decide) ?_
            refine zW.pick [0, 1, 2, 3, 4] (lv' := [(0, .ref wk), (1, .int kd), (2, .int (wix cq)), (3, .int (wover kd lb G cq (k + 1))), (4, .int (nI (k + 2)))]) (by first | (rw [wover, if_pos h31, if_pos h45]; rfl) | (rw [wover, if_pos h31, if_neg h45]; rfl) | (rw [wover, if_neg h31]; rfl)) ?_
            exact ih (k + 1) (by omega)
  refine z_iload_n X d_Wrk_overLines_0 rfl ?_
  refine z_iconst X d_Wrk_overLines_1 (v := 3) (by decide) ?_
  refine z_icmp_ne X 9 d_Wrk_overLines_2 (by decide) (fun h2 => ?_) (fun h2 => ?_)
  · skip
    refine z_iconst X d_Wrk_overLines_9 (v := 0) (by decide) ?_
    refine z_istore_n X d_Wrk_overLines_10 (by decide) rfl ?_
    refine z_iconst X d_Wrk_overLines_11 (v := 1) (by decide) ?_
    refine z_istore X d_Wrk_overLines_12 (by decide) rfl ?_
    refine zW.pick [0, 1, 2, 3, 4] (lv' := [(0, .ref wk), (1, .int kd), (2, .int (wix cq)), (3, .int (wover kd lb G cq 0)), (4, .int (nI (0 + 1)))]) (by first | (rw [wover, if_pos h2]; rfl) | (rw [wover, if_neg h2]; rfl)) ?_
    exact L14 10 0 (by omega)
  · skip
    refine z_iconst X d_Wrk_overLines_5 (v := 1) (by decide) ?_
    refine z_goto X 10 d_Wrk_overLines_6 (by decide) ?_
    refine z_istore_n X d_Wrk_overLines_10 (by decide) rfl ?_
    refine z_iconst X d_Wrk_overLines_11 (v := 1) (by decide) ?_
    refine z_istore X d_Wrk_overLines_12 (by decide) rfl ?_
    refine zW.pick [0, 1, 2, 3, 4] (lv' := [(0, .ref wk), (1, .int kd), (2, .int (wix cq)), (3, .int (wover kd lb G cq 0)), (4, .int (nI (0 + 1)))]) (by first | (rw [wover, if_pos h2]; rfl) | (rw [wover, if_neg h2]; rfl)) ?_
    exact L14 10 0 (by omega)
end
end
section
section
variable {l : Launch} {D : va_G} {ck : Nat → ClassId} {ad : (Nat → Nat) × (Nat → Nat)} {b0 N : Nat} {f : Nat → va_E}
theorem d_Wrk_workOutNode_0 : decode prog_8_method_3_code 0 = .ok (.aload_n 1, 1) := by decide +kernel
theorem d_Wrk_workOutNode_1 : decode prog_8_method_3_code 1 = .ok (.iload_n 2, 1) := by decide +kernel
theorem d_Wrk_workOutNode_2 : decode prog_8_method_3_code 2 = .ok (.invokevirtual 47, 3) := by decide +kernel
theorem d_Wrk_workOutNode_5 : decode prog_8_method_3_code 5 = .ok (.istore_n 3, 1) := by decide +kernel
theorem d_Wrk_workOutNode_6 : decode prog_8_method_3_code 6 = .ok (.aload_n 1, 1) := by decide +kernel
theorem d_Wrk_workOutNode_7 : decode prog_8_method_3_code 7 = .ok (.iload_n 2, 1) := by decide +kernel
theorem d_Wrk_workOutNode_8 : decode prog_8_method_3_code 8 = .ok (.invokevirtual 51, 3) := by decide +kernel
theorem d_Wrk_workOutNode_11 : decode prog_8_method_3_code 11 = .ok (.istore 4, 2) := by decide +kernel
theorem d_Wrk_workOutNode_13 : decode prog_8_method_3_code 13 = .ok (.iload_n 3, 1) := by decide +kernel
theorem d_Wrk_workOutNode_14 : decode prog_8_method_3_code 14 = .ok (.tableswitch 161 3 14 #[106, 106, 161, 161, 161, 161, 161, 161, 62, 124, 72, 89], 62) := by decide +kernel
theorem d_Wrk_workOutNode_76 : decode prog_8_method_3_code 76 = .ok (.aload_n 0, 1) := by decide +kernel
theorem d_Wrk_workOutNode_77 : decode prog_8_method_3_code 77 = .ok (.iload_n 2, 1) := by decide +kernel
theorem d_Wrk_workOutNode_78 : decode prog_8_method_3_code 78 = .ok (.iload 4, 2) := by decide +kernel
theorem d_Wrk_workOutNode_80 : decode prog_8_method_3_code 80 = .ok (.invokevirtual 54, 3) := by decide +kernel
theorem d_Wrk_workOutNode_83 : decode prog_8_method_3_code 83 = .ok (.goto 149, 3) := by decide +kernel
theorem d_Wrk_workOutNode_86 : decode prog_8_method_3_code 86 = .ok (.aload_n 0, 1) := by decide +kernel
theorem d_Wrk_workOutNode_87 : decode prog_8_method_3_code 87 = .ok (.iload_n 2, 1) := by decide +kernel
theorem d_Wrk_workOutNode_88 : decode prog_8_method_3_code 88 = .ok (.aload_n 0, 1) := by decide +kernel
theorem d_Wrk_workOutNode_89 : decode prog_8_method_3_code 89 = .ok (.getfield 12, 3) := by decide +kernel
theorem d_Wrk_workOutNode_92 : decode prog_8_method_3_code 92 = .ok (.iload 4, 2) := by decide +kernel
theorem d_Wrk_workOutNode_94 : decode prog_8_method_3_code 94 = .ok (.invokevirtual 58, 3) := by decide +kernel
theorem d_Wrk_workOutNode_97 : decode prog_8_method_3_code 97 = .ok (.invokevirtual 54, 3) := by decide +kernel
theorem d_Wrk_workOutNode_100 : decode prog_8_method_3_code 100 = .ok (.goto 132, 3) := by decide +kernel
theorem d_Wrk_workOutNode_103 : decode prog_8_method_3_code 103 = .ok (.aload_n 0, 1) := by decide +kernel
theorem d_Wrk_workOutNode_104 : decode prog_8_method_3_code 104 = .ok (.iload_n 2, 1) := by decide +kernel
theorem d_Wrk_workOutNode_105 : decode prog_8_method_3_code 105 = .ok (.aload_n 0, 1) := by decide +kernel
theorem d_Wrk_workOutNode_106 : decode prog_8_method_3_code 106 = .ok (.getfield 12, 3) := by decide +kernel
theorem d_Wrk_workOutNode_109 : decode prog_8_method_3_code 109 = .ok (.iload 4, 2) := by decide +kernel
theorem d_Wrk_workOutNode_111 : decode prog_8_method_3_code 111 = .ok (.invokevirtual 61, 3) := by decide +kernel
theorem d_Wrk_workOutNode_114 : decode prog_8_method_3_code 114 = .ok (.invokevirtual 54, 3) := by decide +kernel
theorem d_Wrk_workOutNode_117 : decode prog_8_method_3_code 117 = .ok (.goto 115, 3) := by decide +kernel
theorem d_Wrk_workOutNode_120 : decode prog_8_method_3_code 120 = .ok (.aload_n 0, 1) := by decide +kernel
theorem d_Wrk_workOutNode_121 : decode prog_8_method_3_code 121 = .ok (.iload_n 2, 1) := by decide +kernel
theorem d_Wrk_workOutNode_122 : decode prog_8_method_3_code 122 = .ok (.aload_n 0, 1) := by decide +kernel
theorem d_Wrk_workOutNode_123 : decode prog_8_method_3_code 123 = .ok (.iload_n 3, 1) := by decide +kernel
theorem d_Wrk_workOutNode_124 : decode prog_8_method_3_code 124 = .ok (.aload_n 1, 1) := by decide +kernel
theorem d_Wrk_workOutNode_125 : decode prog_8_method_3_code 125 = .ok (.iload_n 2, 1) := by decide +kernel
theorem d_Wrk_workOutNode_126 : decode prog_8_method_3_code 126 = .ok (.invokevirtual 64, 3) := by decide +kernel
theorem d_Wrk_workOutNode_129 : decode prog_8_method_3_code 129 = .ok (.invokevirtual 67, 3) := by decide +kernel
theorem d_Wrk_workOutNode_132 : decode prog_8_method_3_code 132 = .ok (.invokevirtual 54, 3) := by decide +kernel
theorem d_Wrk_workOutNode_135 : decode prog_8_method_3_code 135 = .ok (.goto 97, 3) := by decide +kernel
theorem d_Wrk_workOutNode_138 : decode prog_8_method_3_code 138 = .ok (.iconst 0, 1) := by decide +kernel
theorem d_Wrk_workOutNode_139 : decode prog_8_method_3_code 139 = .ok (.istore 5, 2) := by decide +kernel
theorem d_Wrk_workOutNode_141 : decode prog_8_method_3_code 141 = .ok (.iload 5, 2) := by decide +kernel
theorem d_Wrk_workOutNode_143 : decode prog_8_method_3_code 143 = .ok (.bipush 10, 2) := by decide +kernel
theorem d_Wrk_workOutNode_145 : decode prog_8_method_3_code 145 = .ok (.if_icmp .ge 27, 3) := by decide +kernel
theorem d_Wrk_workOutNode_148 : decode prog_8_method_3_code 148 = .ok (.aload_n 0, 1) := by decide +kernel
theorem d_Wrk_workOutNode_149 : decode prog_8_method_3_code 149 = .ok (.iload_n 2, 1) := by decide +kernel
theorem d_Wrk_workOutNode_150 : decode prog_8_method_3_code 150 = .ok (.iload 5, 2) := by decide +kernel
theorem d_Wrk_workOutNode_152 : decode prog_8_method_3_code 152 = .ok (.aload_n 0, 1) := by decide +kernel
theorem d_Wrk_workOutNode_153 : decode prog_8_method_3_code 153 = .ok (.getfield 12, 3) := by decide +kernel
theorem d_Wrk_workOutNode_156 : decode prog_8_method_3_code 156 = .ok (.iload 4, 2) := by decide +kernel
theorem d_Wrk_workOutNode_158 : decode prog_8_method_3_code 158 = .ok (.iload 5, 2) := by decide +kernel
theorem d_Wrk_workOutNode_160 : decode prog_8_method_3_code 160 = .ok (.invokevirtual 70, 3) := by decide +kernel
theorem d_Wrk_workOutNode_163 : decode prog_8_method_3_code 163 = .ok (.invokevirtual 73, 3) := by decide +kernel
theorem d_Wrk_workOutNode_166 : decode prog_8_method_3_code 166 = .ok (.iinc 5 1, 3) := by decide +kernel
theorem d_Wrk_workOutNode_169 : decode prog_8_method_3_code 169 = .ok (.goto (-28), 3) := by decide +kernel
theorem d_Wrk_workOutNode_172 : decode prog_8_method_3_code 172 = .ok (.goto 60, 3) := by decide +kernel
theorem d_Wrk_workOutNode_175 : decode prog_8_method_3_code 175 = .ok (.iconst 0, 1) := by decide +kernel
theorem d_Wrk_workOutNode_176 : decode prog_8_method_3_code 176 = .ok (.istore 5, 2) := by decide +kernel
theorem d_Wrk_workOutNode_178 : decode prog_8_method_3_code 178 = .ok (.iload 5, 2) := by decide +kernel
theorem d_Wrk_workOutNode_180 : decode prog_8_method_3_code 180 = .ok (.bipush 10, 2) := by decide +kernel
theorem d_Wrk_workOutNode_182 : decode prog_8_method_3_code 182 = .ok (.if_icmp .ge 50, 3) := by decide +kernel
theorem d_Wrk_workOutNode_185 : decode prog_8_method_3_code 185 = .ok (.aload_n 0, 1) := by decide +kernel
theorem d_Wrk_workOutNode_186 : decode prog_8_method_3_code 186 = .ok (.aload_n 1, 1) := by decide +kernel
theorem d_Wrk_workOutNode_187 : decode prog_8_method_3_code 187 = .ok (.iload_n 2, 1) := by decide +kernel
theorem d_Wrk_workOutNode_188 : decode prog_8_method_3_code 188 = .ok (.invokevirtual 64, 3) := by decide +kernel
theorem d_Wrk_workOutNode_191 : decode prog_8_method_3_code 191 = .ok (.iload 5, 2) := by decide +kernel
theorem d_Wrk_workOutNode_193 : decode prog_8_method_3_code 193 = .ok (.invokevirtual 44, 3) := by decide +kernel
theorem d_Wrk_workOutNode_196 : decode prog_8_method_3_code 196 = .ok (.istore 6, 2) := by decide +kernel
theorem d_Wrk_workOutNode_198 : decode prog_8_method_3_code 198 = .ok (.aload_n 0, 1) := by decide +kernel
theorem d_Wrk_workOutNode_199 : decode prog_8_method_3_code 199 = .ok (.aload_n 1, 1) := by decide +kernel
theorem d_Wrk_workOutNode_200 : decode prog_8_method_3_code 200 = .ok (.iload_n 2, 1) := by decide +kernel
theorem d_Wrk_workOutNode_201 : decode prog_8_method_3_code 201 = .ok (.invokevirtual 77, 3) := by decide +kernel
theorem d_Wrk_workOutNode_204 : decode prog_8_method_3_code 204 = .ok (.iload 5, 2) := by decide +kernel
theorem d_Wrk_workOutNode_206 : decode prog_8_method_3_code 206 = .ok (.invokevirtual 44, 3) := by decide +kernel
theorem d_Wrk_workOutNode_209 : decode prog_8_method_3_code 209 = .ok (.istore 7, 2) := by decide +kernel
theorem d_Wrk_workOutNode_211 : decode prog_8_method_3_code 211 = .ok (.aload_n 0, 1) := by decide +kernel
theorem d_Wrk_workOutNode_212 : decode prog_8_method_3_code 212 = .ok (.iload_n 2, 1) := by decide +kernel
theorem d_Wrk_workOutNode_213 : decode prog_8_method_3_code 213 = .ok (.iload 5, 2) := by decide +kernel
theorem d_Wrk_workOutNode_215 : decode prog_8_method_3_code 215 = .ok (.iload_n 3, 1) := by decide +kernel
theorem d_Wrk_workOutNode_216 : decode prog_8_method_3_code 216 = .ok (.iload 6, 2) := by decide +kernel
theorem d_Wrk_workOutNode_218 : decode prog_8_method_3_code 218 = .ok (.iload 7, 2) := by decide +kernel
theorem d_Wrk_workOutNode_220 : decode prog_8_method_3_code 220 = .ok (.invokestatic 80, 3) := by decide +kernel
theorem d_Wrk_workOutNode_223 : decode prog_8_method_3_code 223 = .ok (.invokevirtual 73, 3) := by decide +kernel
theorem d_Wrk_workOutNode_226 : decode prog_8_method_3_code 226 = .ok (.iinc 5 1, 3) := by decide +kernel
theorem d_Wrk_workOutNode_229 : decode prog_8_method_3_code 229 = .ok (.goto (-51), 3) := by decide +kernel
theorem d_Wrk_workOutNode_232 : decode prog_8_method_3_code 232 = .ok (.return_, 1) := by decide +kernel
set_option maxHeartbeats 4000000 in
set_option maxRecDepth 100000 in
theorem c_Wrk_workOutNode {wk dc rs va tr ka vb ra n u : Nat} {lb : Int32} {G v K V R : Nat → Int32} (hP : zP b0 N f (wWrk ck wk dc rs va lb (G) v ++ wTre ck tr ka vb ra n K V R u)) (hu : u ≤ n) (hn : n ≤ 40) {a : Nat} {cl cr : Option Nat} (ha : a < u) (hcl : tleft K u (nI a) = wix cl) (hcr : R a = wix cr) (hl : ∀ z, cl = some z → z < 40 ∧ z ≠ a) (hr : ∀ z, cr = some z → z < 40 ∧ z ≠ a) : zK l D ck ad b0 y_Wrk_workOutNode prog_8_method_3_code 8 (none) 3 0 0 [.ref wk, .ref tr, .int (nI a)] N f (fun r N' f' => r = none ∧ N = N' ∧ zP b0 N f' (wWrk ck wk dc rs va lb (wsetk G a (wrow (K a) (V a) v lb G cl cr) 10) v ++ wTre ck tr ka vb ra n K V R u) ∧ zF N f f' [wk, rs]) := by
  refine zM.of zG_w (by decide) (Nat.le_of_ble_eq_true rfl) ?_
  intro zp ze zst zm zar zbe zme zc X hnm hb0
  have hcl40 : ∀ z, cl = some z → z < 40 := fun z h => (hl z h).1
  have hcr40 : ∀ z, cr = some z → z < 40 := fun z h => (hr z h).1
  have hcla : cl ≠ some a := fun h => (hl a h).2 rfl
  have hcra : cr ≠ some a := fun h => (hr a h).2 rfl
  have eK : sgv K u (nI a) = K a := sgv_nI ha (by omega)
  have eV : sgv V u (nI a) = V a := sgv_nI ha (by omega)
  have eR : sgv R u (nI a) = wix cr := by rw [sgv_nI ha (by omega)]; exact hcr
  have L141 : ∀ (nn : Nat) (j : Nat) (f1 : Nat → va_E), (j ≤ 10 ∧ j + nn = 11) → zP b0 N f1 (wWrk ck wk dc rs va lb (wsetk G a (wrow (K a) (V a) v lb G cl cr) j) v ++ wTre ck tr ka vb ra n K V R u) → zF N f f1 [wk, rs] → K a = 12 → zW zp l ze (zR 3 0 0) zst zm zar zbe zme zc D zcl b0 8 0 0 (MQ zbe (zQ D zcl b0 (fun r N' f' => r = none ∧ N = N' ∧ zP b0 N f' (wWrk ck wk dc rs va lb (wsetk G a (wrow (K a) (V a) v lb G cl cr) 10) v ++ wTre ck tr ka vb ra n K V R u) ∧ zF N f f' [wk, rs])) zar zst 0 0 (zA b0)) N f1 141 [(0, .ref wk), (1, .ref tr), (2, .int (nI a)), (3, .int (sgv K u (nI a))), (4, .int (sgv V u (nI a))), (5, .int (nI j))] [] := by
    intro nn
    induction nn with
    | zero =>
      intro j f1 hj0 hP hF hk
      omega
    | succ nn ih =>
      intro j f1 hj0 hP hF hk
      refine z_iload X d_Wrk_workOutNode_141 rfl ?_
      refine z_bipush X d_Wrk_workOutNode_143 (v := 10) (by decide) ?_
      refine z_icmp_ge X 172 d_Wrk_workOutNode_145 (by decide) (fun h145 => ?_) (fun h145 => ?_)
      · skip
        have hj : j = 10 := by have := (nI_leI (a := 10) (b := j) (by decide) (by omega)).mp h145; omega
        subst hj
        refine z_goto X 232 d_Wrk_workOutNode_172 (by decide) ?_
        exact z_vret X d_Wrk_workOutNode_232 ⟨rfl, rfl, hP, hF⟩
      · skip
        have hj : j < 10 := by
          rcases Nat.lt_or_ge j 10 with z | z
          · exact z
          · exact absurd (nI_le (a := 10) (b := j) z (by omega)) h145
        refine z_aload_n X d_Wrk_workOutNode_148 rfl ?_
        refine z_iload_n X d_Wrk_workOutNode_149 rfl ?_
        refine z_iload X d_Wrk_workOutNode_150 rfl ?_
        refine z_aload_n X d_Wrk_workOutNode_152 rfl ?_
        refine z_get X d_Wrk_workOutNode_153 (hP.lo 0 rfl) (hP.at 0 rfl) cl_Wrk in_Wrk 0 (by decide) fl_Wrk_12 rfl rfl ?_
        refine z_iload X d_Wrk_workOutNode_156 rfl ?_
        refine z_iload X d_Wrk_workOutNode_158 rfl ?_
        refine z_callV X zG_ok (c_Decl_valueOn (hP.sub [2, 3] (by decide) rfl)) d_Wrk_workOutNode_160 ⟨(z_cb (n := 2) X.2.2.2.2.1 ml_Wrk_70 mc_Decl_valueOn ini_Decl (by decide +kernel) rfl rfl ⟨Nat.le_of_ble_eq_true rfl, Nat.le_of_ble_eq_true rfl⟩), X.2.2.2.2.1 _ im_Decl_valueOn, X.2.2.2.2.1 _ sel_Decl_valueOn⟩ (hP.lo 2 rfl) (hP.at 2 rfl) cl_Decl rfl rfl (Nat.le_of_ble_eq_true rfl) ⟨Nat.le_of_ble_eq_true rfl, Nat.le_of_ble_eq_true rfl⟩ (fun r N1 f1 hp hN1 => ?_)
        obtain ⟨rfl, rfl, rfl⟩ := hp
        refine z_callV X zG_ok (c_Wrk_setResult (hP.sub [0, 1] (by decide) rfl) (a := a) (b := j) (by omega) hj) d_Wrk_workOutNode_163 ⟨(z_cb (n := 3) X.2.2.2.2.1 ml_Wrk_73 mc_Wrk_setResult ini_Wrk (by decide +kernel) rfl rfl ⟨Nat.le_of_ble_eq_true rfl, Nat.le_of_ble_eq_true rfl⟩), X.2.2.2.2.1 _ im_Wrk_setResult, X.2.2.2.2.1 _ sel_Wrk_setResult⟩ (hP.lo 0 rfl) (hP.at 0 rfl) cl_Wrk rfl rfl (Nat.le_of_ble_eq_true rfl) ⟨Nat.le_of_ble_eq_true rfl, Nat.le_of_ble_eq_true rfl⟩ (fun r N1 f1 hp hN1 => ?_)
        obtain ⟨rfl, rfl, rfl⟩ := hp
        have hP := hP.put 1 rfl (aI ck 400 (upd (wsetk G a (wrow (K a) (V a) v lb G cl cr) j) (a * 10 + j) (dval v (sgv V u (nI a)) (nI j))))
        have hF := hF.by (by simp) hP
        refine z_iinc X d_Wrk_workOutNode_166 rfl (nI_1 _) (by decide) rfl ?_
        refine z_goto X 141 d_Wrk_workOutNode_169 (by decide) ?_
        exact ih (j + 1) _ (by omega) (hP.eq (by
          have e9 : wrow (K a) (V a) v lb G cl cr j = dval v (sgv V u (nI a)) (nI j) := by
            simp only [wrow]
            rw [if_neg (by rw [hk]; decide), if_neg (by rw [hk]; decide), if_neg (by rw [hk]; decide), if_neg (by rw [hk]; decide), if_pos hk, eV]
          rw [← e9, wsetk_s]; rfl)) hF hk
  have L178 : ∀ (nn : Nat) (j : Nat) (f1 : Nat → va_E), (j ≤ 10 ∧ j + nn = 11) → zP b0 N f1 (wWrk ck wk dc rs va lb (wsetk G a (wrow (K a) (V a) v lb G cl cr) j) v ++ wTre ck tr ka vb ra n K V R u) → zF N f f1 [wk, rs] → (∀ b, wrow (K a) (V a) v lb G cl cr b = wJoin (K a) (wres G cl b) (wres G cr b)) → zW zp l ze (zR 3 0 0) zst zm zar zbe zme zc D zcl b0 8 0 0 (MQ zbe (zQ D zcl b0 (fun r N' f' => r = none ∧ N = N' ∧ zP b0 N f' (wWrk ck wk dc rs va lb (wsetk G a (wrow (K a) (V a) v lb G cl cr) 10) v ++ wTre ck tr ka vb ra n K V R u) ∧ zF N f f' [wk, rs])) zar zst 0 0 (zA b0)) N f1 178 [(0, .ref wk), (1, .ref tr), (2, .int (nI a)), (3, .int (sgv K u (nI a))), (4, .int (sgv V u (nI a))), (5, .int (nI j))] [] := by
    intro nn
    induction nn with
    | zero =>
      intro j f1 hj0 hP hF hrow
      omega
    | succ nn ih =>
      intro j f1 hj0 hP hF hrow
      refine z_iload X d_Wrk_workOutNode_178 rfl ?_
      refine z_bipush X d_Wrk_workOutNode_180 (v := 10) (by decide) ?_
      refine z_icmp_ge X 232 d_Wrk_workOutNode_182 (by decide) (fun h182 => ?_) (fun h182 => ?_)
      · skip
        have hj : j = 10 := by have := (nI_leI (a := 10) (b := j) (by decide) (by omega)).mp h182; omega
        subst hj
        exact z_vret X d_Wrk_workOutNode_232 ⟨rfl, rfl, hP, hF⟩
      · skip
        have hj : j < 10 := by
          rcases Nat.lt_or_ge j 10 with z | z
          · exact z
          · exact absurd (nI_le (a := 10) (b := j) z (by omega)) h182
        refine z_aload_n X d_Wrk_workOutNode_185 rfl ?_
        refine z_aload_n X d_Wrk_workOutNode_186 rfl ?_
        refine z_iload_n X d_Wrk_workOutNode_187 rfl ?_
        refine z_callV X zG_ok (c_Tre_leftOf (hP.sub [4, 5, 6, 7] (by decide) rfl) hu hn) d_Wrk_workOutNode_188 ⟨(z_cb (n := 1) X.2.2.2.2.1 ml_Wrk_64 mc_Tre_leftOf ini_Tre (by decide +kernel) rfl rfl ⟨Nat.le_of_ble_eq_true rfl, Nat.le_of_ble_eq_true rfl⟩), X.2.2.2.2.1 _ im_Tre_leftOf, X.2.2.2.2.1 _ sel_Tre_leftOf⟩ (hP.lo 4 rfl) (hP.at 4 rfl) cl_Tre rfl rfl (Nat.le_of_ble_eq_true rfl) ⟨Nat.le_of_ble_eq_true rfl, Nat.le_of_ble_eq_true rfl⟩ (fun r N1 f1 hp hN1 => ?_)
        obtain ⟨rfl, rfl, rfl⟩ := hp
        rw [hcl]
        refine z_iload X d_Wrk_workOutNode_191 rfl ?_
        refine z_callV X zG_ok (c_Wrk_resultOf (hP.sub [0, 1] (by decide) rfl) (c := cl) (b := j) hcl40 hj) d_Wrk_workOutNode_193 ⟨(z_cb (n := 2) X.2.2.2.2.1 ml_Wrk_44 mc_Wrk_resultOf ini_Wrk (by decide +kernel) rfl rfl ⟨Nat.le_of_ble_eq_true rfl, Nat.le_of_ble_eq_true rfl⟩), X.2.2.2.2.1 _ im_Wrk_resultOf, X.2.2.2.2.1 _ sel_Wrk_resultOf⟩ (hP.lo 0 rfl) (hP.at 0 rfl) cl_Wrk rfl rfl (Nat.le_of_ble_eq_true rfl) ⟨Nat.le_of_ble_eq_true rfl, Nat.le_of_ble_eq_true rfl⟩ (fun r N1 f1 hp hN1 => ?_)
        obtain ⟨rfl, rfl, rfl⟩ := hp
        rw [wres_set hcla (by omega) hj]
        refine z_istore X d_Wrk_workOutNode_196 (by decide) rfl ?_
        refine z_aload_n X d_Wrk_workOutNode_198 rfl ?_
        refine z_aload_n X d_Wrk_workOutNode_199 rfl ?_
        refine z_iload_n X d_Wrk_workOutNode_200 rfl ?_
        refine z_callV X zG_ok (c_Tre_rightOf (hP.sub [4, 5, 6, 7] (by decide) rfl) hu hn) d_Wrk_workOutNode_201 ⟨(z_cb (n := 1) X.2.2.2.2.1 ml_Wrk_77 mc_Tre_rightOf ini_Tre (by decide +kernel) rfl rfl ⟨Nat.le_of_ble_eq_true rfl, Nat.le_of_ble_eq_true rfl⟩), X.2.2.2.2.1 _ im_Tre_rightOf, X.2.2.2.2.1 _ sel_Tre_rightOf⟩ (hP.lo 4 rfl) (hP.at 4 rfl) cl_Tre rfl rfl (Nat.le_of_ble_eq_true rfl) ⟨Nat.le_of_ble_eq_true rfl, Nat.le_of_ble_eq_true rfl⟩ (fun r N1 f1 hp hN1 => ?_)
        obtain ⟨rfl, rfl, rfl⟩ := hp
        rw [eR]
        refine z_iload X d_Wrk_workOutNode_204 rfl ?_
        refine z_callV X zG_ok (c_Wrk_resultOf (hP.sub [0, 1] (by decide) rfl) (c := cr) (b := j) hcr40 hj) d_Wrk_workOutNode_206 ⟨(z_cb (n := 2) X.2.2.2.2.1 ml_Wrk_44 mc_Wrk_resultOf ini_Wrk (by decide +kernel) rfl rfl ⟨Nat.le_of_ble_eq_true rfl, Nat.le_of_ble_eq_true rfl⟩), X.2.2.2.2.1 _ im_Wrk_resultOf, X.2.2.2.2.1 _ sel_Wrk_resultOf⟩ (hP.lo 0 rfl) (hP.at 0 rfl) cl_Wrk rfl rfl (Nat.le_of_ble_eq_true rfl) ⟨Nat.le_of_ble_eq_true rfl, Nat.le_of_ble_eq_true rfl⟩ (fun r N1 f1 hp hN1 => ?_)
        obtain ⟨rfl, rfl, rfl⟩ := hp
        rw [wres_set hcra (by omega) hj]
        refine z_istore X d_Wrk_workOutNode_209 (by decide) rfl ?_
        refine z_aload_n X d_Wrk_workOutNode_211 rfl ?_
        refine z_iload_n X d_Wrk_workOutNode_212 rfl ?_
        refine z_iload X d_Wrk_workOutNode_213 rfl ?_
        refine z_iload_n X d_Wrk_workOutNode_215 rfl ?_
        refine z_iload X d_Wrk_workOutNode_216 rfl ?_
        refine z_iload X d_Wrk_workOutNode_218 rfl ?_
        refine z_callS X zG_ok c_Wrk_joined d_Wrk_workOutNode_220 ⟨(z_cb (n := 3) X.2.2.2.2.1 ml_Wrk_80 mc_Wrk_joined ini_Wrk (by decide +kernel) rfl rfl ⟨Nat.le_of_ble_eq_true rfl, Nat.le_of_ble_eq_true rfl⟩), X.2.2.2.2.1 _ st_Wrk_joined⟩ rfl rfl (Nat.le_of_ble_eq_true rfl) ⟨Nat.le_of_ble_eq_true rfl, Nat.le_of_ble_eq_true rfl⟩ (fun r N1 f1 hp hN1 => ?_)
        obtain ⟨rfl, rfl, rfl⟩ := hp
        rw [eK]
        refine z_callV X zG_ok (c_Wrk_setResult (hP.sub [0, 1] (by decide) rfl) (a := a) (b := j) (by omega) hj) d_Wrk_workOutNode_223 ⟨(z_cb (n := 3) X.2.2.2.2.1 ml_Wrk_73 mc_Wrk_setResult ini_Wrk (by decide +kernel) rfl rfl ⟨Nat.le_of_ble_eq_true rfl, Nat.le_of_ble_eq_true rfl⟩), X.2.2.2.2.1 _ im_Wrk_setResult, X.2.2.2.2.1 _ sel_Wrk_setResult⟩ (hP.lo 0 rfl) (hP.at 0 rfl) cl_Wrk rfl rfl (Nat.le_of_ble_eq_true rfl) ⟨Nat.le_of_ble_eq_true rfl, Nat.le_of_ble_eq_true rfl⟩ (fun r N1 f1 hp hN1 => ?_)
        obtain ⟨rfl, rfl, rfl⟩ := hp
        have hP := hP.put 1 rfl (aI ck 400 (upd (wsetk G a (wrow (K a) (V a) v lb G cl cr) j) (a * 10 + j) (wJoin (K a) (wres G cl j) (wres G cr j))))
        have hF := hF.by (by simp) hP
        refine z_iinc X d_Wrk_workOutNode_226 rfl (nI_1 _) (by decide) rfl ?_
        refine z_goto X 178 d_Wrk_workOutNode_229 (by decide) ?_
        refine zW.pick [0, 1, 2, 3, 4, 5] (lv' := [(0, .ref wk), (1, .ref tr), (2, .int (nI a)), (3, .int (sgv K u (nI a))), (4, .int (sgv V u (nI a))), (5, .int (nI (j + 1)))]) (by rw [eK]; rfl) ?_
        exact ih (j + 1) _ (by omega) (hP.eq (by rw [← hrow j, wsetk_s]; rfl)) hF hrow
  refine z_aload_n X d_Wrk_workOutNode_0 rfl ?_
  refine z_iload_n X d_Wrk_workOutNode_1 rfl ?_
  refine z_callV X zG_ok (c_Tre_kindOf (hP.sub [4, 5, 6, 7] (by decide) rfl) hu hn) d_Wrk_workOutNode_2 ⟨(z_cb (n := 1) X.2.2.2.2.1 ml_Wrk_47 mc_Tre_kindOf ini_Tre (by decide +kernel) rfl rfl ⟨Nat.le_of_ble_eq_true rfl, Nat.le_of_ble_eq_true rfl⟩), X.2.2.2.2.1 _ im_Tre_kindOf, X.2.2.2.2.1 _ sel_Tre_kindOf⟩ (hP.lo 4 rfl) (hP.at 4 rfl) cl_Tre rfl rfl (Nat.le_of_ble_eq_true rfl) ⟨Nat.le_of_ble_eq_true rfl, Nat.le_of_ble_eq_true rfl⟩ (fun r N1 f1 hp hN1 => ?_)
  obtain ⟨rfl, rfl, rfl⟩ := hp
  refine z_istore_n X d_Wrk_workOutNode_5 (by decide) rfl ?_
  refine z_aload_n X d_Wrk_workOutNode_6 rfl ?_
  refine z_iload_n X d_Wrk_workOutNode_7 rfl ?_
  refine z_callV X zG_ok (c_Tre_valueOf (hP.sub [4, 5, 6, 7] (by decide) rfl) hu hn) d_Wrk_workOutNode_8 ⟨(z_cb (n := 1) X.2.2.2.2.1 ml_Wrk_51 mc_Tre_valueOf ini_Tre (by decide +kernel) rfl rfl ⟨Nat.le_of_ble_eq_true rfl, Nat.le_of_ble_eq_true rfl⟩), X.2.2.2.2.1 _ im_Tre_valueOf, X.2.2.2.2.1 _ sel_Tre_valueOf⟩ (hP.lo 4 rfl) (hP.at 4 rfl) cl_Tre rfl rfl (Nat.le_of_ble_eq_true rfl) ⟨Nat.le_of_ble_eq_true rfl, Nat.le_of_ble_eq_true rfl⟩ (fun r N1 f1 hp hN1 => ?_)
  obtain ⟨rfl, rfl, rfl⟩ := hp
  refine z_istore X d_Wrk_workOutNode_11 (by decide) rfl ?_
  refine z_iload_n X d_Wrk_workOutNode_13 rfl ?_
  refine z_tableL X 175 [120, 120, 175, 175, 175, 175, 175, 175, 76, 138, 86, 103] d_Wrk_workOutNode_14 (by decide) (by decide) (by decide) (fun i hi hx => ?_) (fun hd => ?_) (by decide)
  · match i, hi, hx with
    | 0, _, hx =>
      have g14 : _ = (3 : Int32) := hx
      have hk : K a = 3 ∨ K a = 4 := by rw [← eK]; exact Or.inl g14
      refine zW.topc (pc' := 120) rfl ?_
      refine z_aload_n X d_Wrk_workOutNode_120 rfl ?_
      refine z_iload_n X d_Wrk_workOutNode_121 rfl ?_
      refine z_aload_n X d_Wrk_workOutNode_122 rfl ?_
      refine z_iload_n X d_Wrk_workOutNode_123 rfl ?_
      refine z_aload_n X d_Wrk_workOutNode_124 rfl ?_
      refine z_iload_n X d_Wrk_workOutNode_125 rfl ?_
      refine z_callV X zG_ok (c_Tre_leftOf (hP.sub [4, 5, 6, 7] (by decide) rfl) hu hn) d_Wrk_workOutNode_126 ⟨(z_cb (n := 1) X.2.2.2.2.1 ml_Wrk_64 mc_Tre_leftOf ini_Tre (by decide +kernel) rfl rfl ⟨Nat.le_of_ble_eq_true rfl, Nat.le_of_ble_eq_true rfl⟩), X.2.2.2.2.1 _ im_Tre_leftOf, X.2.2.2.2.1 _ sel_Tre_leftOf⟩ (hP.lo 4 rfl) (hP.at 4 rfl) cl_Tre rfl rfl (Nat.le_of_ble_eq_true rfl) ⟨Nat.le_of_ble_eq_true rfl, Nat.le_of_ble_eq_true rfl⟩ (fun r N1 f1 hp hN1 => ?_)
      obtain ⟨rfl, rfl, rfl⟩ := hp
      rw [hcl]
      refine z_callV X zG_ok (c_Wrk_overLines (hP.sub [0, 1] (by decide) rfl) hcl40) d_Wrk_workOutNode_129 ⟨(z_cb (n := 2) X.2.2.2.2.1 ml_Wrk_67 mc_Wrk_overLines ini_Wrk (by decide +kernel) rfl rfl ⟨Nat.le_of_ble_eq_true rfl, Nat.le_of_ble_eq_true rfl⟩), X.2.2.2.2.1 _ im_Wrk_overLines, X.2.2.2.2.1 _ sel_Wrk_overLines⟩ (hP.lo 0 rfl) (hP.at 0 rfl) cl_Wrk rfl rfl (Nat.le_of_ble_eq_true rfl) ⟨Nat.le_of_ble_eq_true rfl, Nat.le_of_ble_eq_true rfl⟩ (fun r N1 f1 hp hN1 => ?_)
      obtain ⟨rfl, rfl, rfl⟩ := hp
      refine z_callV X zG_ok (c_Wrk_setOnAllLines (hP.sub [0, 1] (by decide) rfl) (show a < 40 by omega)) d_Wrk_workOutNode_132 ⟨(z_cb (n := 2) X.2.2.2.2.1 ml_Wrk_54 mc_Wrk_setOnAllLines ini_Wrk (by decide +kernel) rfl rfl ⟨Nat.le_of_ble_eq_true rfl, Nat.le_of_ble_eq_true rfl⟩), X.2.2.2.2.1 _ im_Wrk_setOnAllLines, X.2.2.2.2.1 _ sel_Wrk_setOnAllLines⟩ (hP.lo 0 rfl) (hP.at 0 rfl) cl_Wrk rfl rfl (Nat.le_of_ble_eq_true rfl) ⟨Nat.le_of_ble_eq_true rfl, Nat.le_of_ble_eq_true rfl⟩ (fun r N1 f1 hp hN1 => ?_)
      obtain ⟨rfl, rfl, hP1, hF⟩ := hp
      have e9 : (fun _ : Nat => wover (sgv K u (nI a)) lb G cl 9) = wrow (K a) (V a) v lb G cl cr := by
        funext b
        simp only [wrow]; rw [if_neg (by rcases hk with h | h <;> rw [h] <;> decide), if_neg (by rcases hk with h | h <;> rw [h] <;> decide), if_neg (by rcases hk with h | h <;> rw [h] <;> decide), if_pos hk, eK]
      rw [e9] at hP1
      have hP : zP b0 N f1 (wWrk ck wk dc rs va lb (wsetk G a (wrow (K a) (V a) v lb G cl cr) 10) v ++ wTre ck tr ka vb ra n K V R u) := ((hP.jn [0, 1] [2, 3, 4, 5, 6, 7] rfl (by decide) (by simp) (by decide) hF (Nat.le_refl _) hP1 (fun _ h => Or.inl h)).sel [6, 7, 0, 1, 2, 3, 4, 5] (by decide) (by simp))
      refine z_goto X 232 d_Wrk_workOutNode_135 (by decide) ?_
      exact z_vret X d_Wrk_workOutNode_232 ⟨rfl, rfl, hP, hF⟩
    | 1, _, hx =>
      have g14 : _ = (4 : Int32) := hx
      have hk : K a = 3 ∨ K a = 4 := by rw [← eK]; exact Or.inr g14
      refine zW.topc (pc' := 120) rfl ?_
      refine z_aload_n X d_Wrk_workOutNode_120 rfl ?_
      refine z_iload_n X d_Wrk_workOutNode_121 rfl ?_
      refine z_aload_n X d_Wrk_workOutNode_122 rfl ?_
      refine z_iload_n X d_Wrk_workOutNode_123 rfl ?_
      refine z_aload_n X d_Wrk_workOutNode_124 rfl ?_
      refine z_iload_n X d_Wrk_workOutNode_125 rfl ?_
      refine z_callV X zG_ok (c_Tre_leftOf (hP.sub [4, 5, 6, 7] (by decide) rfl) hu hn) d_Wrk_workOutNode_126 ⟨(z_cb (n := 1) X.2.2.2.2.1 ml_Wrk_64 mc_Tre_leftOf ini_Tre (by decide +kernel) rfl rfl ⟨Nat.le_of_ble_eq_true rfl, Nat.le_of_ble_eq_true rfl⟩), X.2.2.2.2.1 _ im_Tre_leftOf, X.2.2.2.2.1 _ sel_Tre_leftOf⟩ (hP.lo 4 rfl) (hP.at 4 rfl) cl_Tre rfl rfl (Nat.le_of_ble_eq_true rfl) ⟨Nat.le_of_ble_eq_true rfl, Nat.le_of_ble_eq_true rfl⟩ (fun r N1 f1 hp hN1 => ?_)
      obtain ⟨rfl, rfl, rfl⟩ := hp
      rw [hcl]
      refine z_callV X zG_ok (c_Wrk_overLines (hP.sub [0, 1] (by decide) rfl) hcl40) d_Wrk_workOutNode_129 ⟨(z_cb (n := 2) X.2.2.2.2.1 ml_Wrk_67 mc_Wrk_overLines ini_Wrk (by decide +kernel) rfl rfl ⟨Nat.le_of_ble_eq_true rfl, Nat.le_of_ble_eq_true rfl⟩), X.2.2.2.2.1 _ im_Wrk_overLines, X.2.2.2.2.1 _ sel_Wrk_overLines⟩ (hP.lo 0 rfl) (hP.at 0 rfl) cl_Wrk rfl rfl (Nat.le_of_ble_eq_true rfl) ⟨Nat.le_of_ble_eq_true rfl, Nat.le_of_ble_eq_true rfl⟩ (fun r N1 f1 hp hN1 => ?_)
      obtain ⟨rfl, rfl, rfl⟩ := hp
      refine z_callV X zG_ok (c_Wrk_setOnAllLines (hP.sub [0, 1] (by decide) rfl) (show a < 40 by omega)) d_Wrk_workOutNode_132 ⟨(z_cb (n := 2) X.2.2.2.2.1 ml_Wrk_54 mc_Wrk_setOnAllLines ini_Wrk (by decide +kernel) rfl rfl ⟨Nat.le_of_ble_eq_true rfl, Nat.le_of_ble_eq_true rfl⟩), X.2.2.2.2.1 _ im_Wrk_setOnAllLines, X.2.2.2.2.1 _ sel_Wrk_setOnAllLines⟩ (hP.lo 0 rfl) (hP.at 0 rfl) cl_Wrk rfl rfl (Nat.le_of_ble_eq_true rfl) ⟨Nat.le_of_ble_eq_true rfl, Nat.le_of_ble_eq_true rfl⟩ (fun r N1 f1 hp hN1 => ?_)
      obtain ⟨rfl, rfl, hP1, hF⟩ := hp
      have e9 : (fun _ : Nat => wover (sgv K u (nI a)) lb G cl 9) = wrow (K a) (V a) v lb G cl cr := by
        funext b
        simp only [wrow]; rw [if_neg (by rcases hk with h | h <;> rw [h] <;> decide), if_neg (by rcases hk with h | h <;> rw [h] <;> decide), if_neg (by rcases hk with h | h <;> rw [h] <;> decide), if_pos hk, eK]
      rw [e9] at hP1
      have hP : zP b0 N f1 (wWrk ck wk dc rs va lb (wsetk G a (wrow (K a) (V a) v lb G cl cr) 10) v ++ wTre ck tr ka vb ra n K V R u) := ((hP.jn [0, 1] [2, 3, 4, 5, 6, 7] rfl (by decide) (by simp) (by decide) hF (Nat.le_refl _) hP1 (fun _ h => Or.inl h)).sel [6, 7, 0, 1, 2, 3, 4, 5] (by decide) (by simp))
      refine z_goto X 232 d_Wrk_workOutNode_135 (by decide) ?_
      exact z_vret X d_Wrk_workOutNode_232 ⟨rfl, rfl, hP, hF⟩
    | 2, _, hx =>
      have g14 : _ = (5 : Int32) := hx
      have hk : K a = 5 := by rw [← eK]; exact g14
      have hrow : ∀ b, wrow (K a) (V a) v lb G cl cr b = wJoin (K a) (wres G cl b) (wres G cr b) := by
        intro b
        simp only [wrow]
        rw [if_neg (by rw [hk]; decide), if_neg (by rw [hk]; decide), if_neg (by rw [hk]; decide), if_neg (by rw [hk]; decide), if_neg (by rw [hk]; decide)]
      refine zW.topc (pc' := 175) rfl ?_
      refine z_iconst X d_Wrk_workOutNode_175 (v := 0) (by decide) ?_
      refine z_istore X d_Wrk_workOutNode_176 (by decide) rfl ?_
      exact L178 11 0 f (by omega) (hP.eq (by rw [wsetk_0])) zF.rf hrow
    | 3, _, hx =>
      have g14 : _ = (6 : Int32) := hx
      have hk : K a = 6 := by rw [← eK]; exact g14
      have hrow : ∀ b, wrow (K a) (V a) v lb G cl cr b = wJoin (K a) (wres G cl b) (wres G cr b) := by
        intro b
        simp only [wrow]
        rw [if_neg (by rw [hk]; decide), if_neg (by rw [hk]; decide), if_neg (by rw [hk]; decide), if_neg (by rw [hk]; decide), if_neg (by rw [hk]; decide)]
      refine zW.topc (pc' := 175) rfl ?_
      refine z_iconst X d_Wrk_workOutNode_175 (v := 0) (by decide) ?_
      refine z_istore X d_Wrk_workOutNode_176 (by decide) rfl ?_
      exact L178 11 0 f (by omega) (hP.eq (by rw [wsetk_0])) zF.rf hrow
    | 4, _, hx =>
      have g14 : _ = (7 : Int32) := hx
      have hk : K a = 7 := by rw [← eK]; exact g14
      have hrow : ∀ b, wrow (K a) (V a) v lb G cl cr b = wJoin (K a) (wres G cl b) (wres G cr b) := by
        intro b
        simp only [wrow]
        rw [if_neg (by rw [hk]; decide), if_neg (by rw [hk]; decide), if_neg (by rw [hk]; decide), if_neg (by rw [hk]; decide), if_neg (by rw [hk]; decide)]
      refine zW.topc (pc' := 175) rfl ?_
      refine z_iconst X d_Wrk_workOutNode_175 (v := 0) (by decide) ?_
      refine z_istore X d_Wrk_workOutNode_176 (by decide) rfl ?_
      exact L178 11 0 f (by omega) (hP.eq (by rw [wsetk_0])) zF.rf hrow
    | 5, _, hx =>
      have g14 : _ = (8 : Int32) := hx
      have hk : K a = 8 := by rw [← eK]; exact g14
      have hrow : ∀ b, wrow (K a) (V a) v lb G cl cr b = wJoin (K a) (wres G cl b) (wres G cr b) := by
        intro b
        simp only [wrow]
        rw [if_neg (by rw [hk]; decide), if_neg (by rw [hk]; decide), if_neg (by rw [hk]; decide), if_neg (by rw [hk]; decide), if_neg (by rw [hk]; decide)]
      refine zW.topc (pc' := 175) rfl ?_
      refine z_iconst X d_Wrk_workOutNode_175 (v := 0) (by decide) ?_
      refine z_istore X d_Wrk_workOutNode_176 (by decide) rfl ?_
      exact L178 11 0 f (by omega) (hP.eq (by rw [wsetk_0])) zF.rf hrow
    | 6, _, hx =>
      have g14 : _ = (9 : Int32) := hx
      have hk : K a = 9 := by rw [← eK]; exact g14
      have hrow : ∀ b, wrow (K a) (V a) v lb G cl cr b = wJoin (K a) (wres G cl b) (wres G cr b) := by
        intro b
        simp only [wrow]
        rw [if_neg (by rw [hk]; decide), if_neg (by rw [hk]; decide), if_neg (by rw [hk]; decide), if_neg (by rw [hk]; decide), if_neg (by rw [hk]; decide)]
      refine zW.topc (pc' := 175) rfl ?_
      refine z_iconst X d_Wrk_workOutNode_175 (v := 0) (by decide) ?_
      refine z_istore X d_Wrk_workOutNode_176 (by decide) rfl ?_
      exact L178 11 0 f (by omega) (hP.eq (by rw [wsetk_0])) zF.rf hrow
    | 7, _, hx =>
      have g14 : _ = (10 : Int32) := hx
      have hk : K a = 10 := by rw [← eK]; exact g14
      have hrow : ∀ b, wrow (K a) (V a) v lb G cl cr b = wJoin (K a) (wres G cl b) (wres G cr b) := by
        intro b
        simp only [wrow]
        rw [if_neg (by rw [hk]; decide), if_neg (by rw [hk]; decide), if_neg (by rw [hk]; decide), if_neg (by rw [hk]; decide), if_neg (by rw [hk]; decide)]
      refine zW.topc (pc' := 175) rfl ?_
      refine z_iconst X d_Wrk_workOutNode_175 (v := 0) (by decide) ?_
      refine z_istore X d_Wrk_workOutNode_176 (by decide) rfl ?_
      exact L178 11 0 f (by omega) (hP.eq (by rw [wsetk_0])) zF.rf hrow
    | 8, _, hx =>
      have g14 : _ = (11 : Int32) := hx
      have hk : K a = 11 := by rw [← eK]; exact g14
      refine zW.topc (pc' := 76) rfl ?_
      refine z_aload_n X d_Wrk_workOutNode_76 rfl ?_
      refine z_iload_n X d_Wrk_workOutNode_77 rfl ?_
      refine z_iload X d_Wrk_workOutNode_78 rfl ?_
      refine z_callV X zG_ok (c_Wrk_setOnAllLines (hP.sub [0, 1] (by decide) rfl) (show a < 40 by omega)) d_Wrk_workOutNode_80 ⟨(z_cb (n := 2) X.2.2.2.2.1 ml_Wrk_54 mc_Wrk_setOnAllLines ini_Wrk (by decide +kernel) rfl rfl ⟨Nat.le_of_ble_eq_true rfl, Nat.le_of_ble_eq_true rfl⟩), X.2.2.2.2.1 _ im_Wrk_setOnAllLines, X.2.2.2.2.1 _ sel_Wrk_setOnAllLines⟩ (hP.lo 0 rfl) (hP.at 0 rfl) cl_Wrk rfl rfl (Nat.le_of_ble_eq_true rfl) ⟨Nat.le_of_ble_eq_true rfl, Nat.le_of_ble_eq_true rfl⟩ (fun r N1 f1 hp hN1 => ?_)
      obtain ⟨rfl, rfl, hP1, hF⟩ := hp
      have e9 : (fun _ : Nat => sgv V u (nI a)) = wrow (K a) (V a) v lb G cl cr := by
        funext b
        simp only [wrow]; rw [if_pos hk, eV]
      rw [e9] at hP1
      have hP : zP b0 N f1 (wWrk ck wk dc rs va lb (wsetk G a (wrow (K a) (V a) v lb G cl cr) 10) v ++ wTre ck tr ka vb ra n K V R u) := ((hP.jn [0, 1] [2, 3, 4, 5, 6, 7] rfl (by decide) (by simp) (by decide) hF (Nat.le_refl _) hP1 (fun _ h => Or.inl h)).sel [6, 7, 0, 1, 2, 3, 4, 5] (by decide) (by simp))
      refine z_goto X 232 d_Wrk_workOutNode_83 (by decide) ?_
      exact z_vret X d_Wrk_workOutNode_232 ⟨rfl, rfl, hP, hF⟩
    | 9, _, hx =>
      have g14 : _ = (12 : Int32) := hx
      have hk : K a = 12 := by rw [← eK]; exact g14
      refine zW.topc (pc' := 138) rfl ?_
      refine z_iconst X d_Wrk_workOutNode_138 (v := 0) (by decide) ?_
      refine z_istore X d_Wrk_workOutNode_139 (by decide) rfl ?_
      exact L141 11 0 f (by omega) (hP.eq (by rw [wsetk_0])) zF.rf hk
    | 10, _, hx =>
      have g14 : _ = (13 : Int32) := hx
      have hk : K a = 13 := by rw [← eK]; exact g14
      refine zW.topc (pc' := 86) rfl ?_
      refine z_aload_n X d_Wrk_workOutNode_86 rfl ?_
      refine z_iload_n X d_Wrk_workOutNode_87 rfl ?_
      refine z_aload_n X d_Wrk_workOutNode_88 rfl ?_
      refine z_get X d_Wrk_workOutNode_89 (hP.lo 0 rfl) (hP.at 0 rfl) cl_Wrk in_Wrk 0 (by decide) fl_Wrk_12 rfl rfl ?_
      refine z_iload X d_Wrk_workOutNode_92 rfl ?_
      refine z_callV X zG_ok (c_Decl_sumOf (hP.sub [2, 3] (by decide) rfl)) d_Wrk_workOutNode_94 ⟨(z_cb (n := 1) X.2.2.2.2.1 ml_Wrk_58 mc_Decl_sumOf ini_Decl (by decide +kernel) rfl rfl ⟨Nat.le_of_ble_eq_true rfl, Nat.le_of_ble_eq_true rfl⟩), X.2.2.2.2.1 _ im_Decl_sumOf, X.2.2.2.2.1 _ sel_Decl_sumOf⟩ (hP.lo 2 rfl) (hP.at 2 rfl) cl_Decl rfl rfl (Nat.le_of_ble_eq_true rfl) ⟨Nat.le_of_ble_eq_true rfl, Nat.le_of_ble_eq_true rfl⟩ (fun r N1 f1 hp hN1 => ?_)
      obtain ⟨rfl, rfl, rfl⟩ := hp
      refine z_callV X zG_ok (c_Wrk_setOnAllLines (hP.sub [0, 1] (by decide) rfl) (show a < 40 by omega)) d_Wrk_workOutNode_97 ⟨(z_cb (n := 2) X.2.2.2.2.1 ml_Wrk_54 mc_Wrk_setOnAllLines ini_Wrk (by decide +kernel) rfl rfl ⟨Nat.le_of_ble_eq_true rfl, Nat.le_of_ble_eq_true rfl⟩), X.2.2.2.2.1 _ im_Wrk_setOnAllLines, X.2.2.2.2.1 _ sel_Wrk_setOnAllLines⟩ (hP.lo 0 rfl) (hP.at 0 rfl) cl_Wrk rfl rfl (Nat.le_of_ble_eq_true rfl) ⟨Nat.le_of_ble_eq_true rfl, Nat.le_of_ble_eq_true rfl⟩ (fun r N1 f1 hp hN1 => ?_)
      obtain ⟨rfl, rfl, hP1, hF⟩ := hp
      have e9 : (fun _ : Nat => dsum v (sgv V u (nI a)) 9) = wrow (K a) (V a) v lb G cl cr := by
        funext b
        simp only [wrow]; rw [if_neg (by rw [hk]; decide), if_pos hk, eV]
      rw [e9] at hP1
      have hP : zP b0 N f1 (wWrk ck wk dc rs va lb (wsetk G a (wrow (K a) (V a) v lb G cl cr) 10) v ++ wTre ck tr ka vb ra n K V R u) := ((hP.jn [0, 1] [2, 3, 4, 5, 6, 7] rfl (by decide) (by simp) (by decide) hF (Nat.le_refl _) hP1 (fun _ h => Or.inl h)).sel [6, 7, 0, 1, 2, 3, 4, 5] (by decide) (by simp))
      refine z_goto X 232 d_Wrk_workOutNode_100 (by decide) ?_
      exact z_vret X d_Wrk_workOutNode_232 ⟨rfl, rfl, hP, hF⟩
    | 11, _, hx =>
      have g14 : _ = (14 : Int32) := hx
      have hk : K a = 14 := by rw [← eK]; exact g14
      refine zW.topc (pc' := 103) rfl ?_
      refine z_aload_n X d_Wrk_workOutNode_103 rfl ?_
      refine z_iload_n X d_Wrk_workOutNode_104 rfl ?_
      refine z_aload_n X d_Wrk_workOutNode_105 rfl ?_
      refine z_get X d_Wrk_workOutNode_106 (hP.lo 0 rfl) (hP.at 0 rfl) cl_Wrk in_Wrk 0 (by decide) fl_Wrk_12 rfl rfl ?_
      refine z_iload X d_Wrk_workOutNode_109 rfl ?_
      refine z_callV X zG_ok (c_Decl_countOf (hP.sub [2, 3] (by decide) rfl)) d_Wrk_workOutNode_111 ⟨(z_cb (n := 1) X.2.2.2.2.1 ml_Wrk_61 mc_Decl_countOf ini_Decl (by decide +kernel) rfl rfl ⟨Nat.le_of_ble_eq_true rfl, Nat.le_of_ble_eq_true rfl⟩), X.2.2.2.2.1 _ im_Decl_countOf, X.2.2.2.2.1 _ sel_Decl_countOf⟩ (hP.lo 2 rfl) (hP.at 2 rfl) cl_Decl rfl rfl (Nat.le_of_ble_eq_true rfl) ⟨Nat.le_of_ble_eq_true rfl, Nat.le_of_ble_eq_true rfl⟩ (fun r N1 f1 hp hN1 => ?_)
      obtain ⟨rfl, rfl, rfl⟩ := hp
      refine z_callV X zG_ok (c_Wrk_setOnAllLines (hP.sub [0, 1] (by decide) rfl) (show a < 40 by omega)) d_Wrk_workOutNode_114 ⟨(z_cb (n := 2) X.2.2.2.2.1 ml_Wrk_54 mc_Wrk_setOnAllLines ini_Wrk (by decide +kernel) rfl rfl ⟨Nat.le_of_ble_eq_true rfl, Nat.le_of_ble_eq_true rfl⟩), X.2.2.2.2.1 _ im_Wrk_setOnAllLines, X.2.2.2.2.1 _ sel_Wrk_setOnAllLines⟩ (hP.lo 0 rfl) (hP.at 0 rfl) cl_Wrk rfl rfl (Nat.le_of_ble_eq_true rfl) ⟨Nat.le_of_ble_eq_true rfl, Nat.le_of_ble_eq_true rfl⟩ (fun r N1 f1 hp hN1 => ?_)
      obtain ⟨rfl, rfl, hP1, hF⟩ := hp
      have e9 : (fun _ : Nat => dcnt v (sgv V u (nI a)) 9) = wrow (K a) (V a) v lb G cl cr := by
        funext b
        simp only [wrow]; rw [if_neg (by rw [hk]; decide), if_neg (by rw [hk]; decide), if_pos hk, eV]
      rw [e9] at hP1
      have hP : zP b0 N f1 (wWrk ck wk dc rs va lb (wsetk G a (wrow (K a) (V a) v lb G cl cr) 10) v ++ wTre ck tr ka vb ra n K V R u) := ((hP.jn [0, 1] [2, 3, 4, 5, 6, 7] rfl (by decide) (by simp) (by decide) hF (Nat.le_refl _) hP1 (fun _ h => Or.inl h)).sel [6, 7, 0, 1, 2, 3, 4, 5] (by decide) (by simp))
      refine z_goto X 232 d_Wrk_workOutNode_117 (by decide) ?_
      exact z_vret X d_Wrk_workOutNode_232 ⟨rfl, rfl, hP, hF⟩
    | j + 12, hi, _ => exact absurd hi (by simp)
  · skip
    have g14_0 : ¬ _ = (3 : Int32) := hd 0 (by decide)
    have g14_1 : ¬ _ = (4 : Int32) := hd 1 (by decide)
    have g14_2 : ¬ _ = (5 : Int32) := hd 2 (by decide)
    have g14_3 : ¬ _ = (6 : Int32) := hd 3 (by decide)
    have g14_4 : ¬ _ = (7 : Int32) := hd 4 (by decide)
    have g14_5 : ¬ _ = (8 : Int32) := hd 5 (by decide)
    have g14_6 : ¬ _ = (9 : Int32) := hd 6 (by decide)
    have g14_7 : ¬ _ = (10 : Int32) := hd 7 (by decide)
    have g14_8 : ¬ _ = (11 : Int32) := hd 8 (by decide)
    have g14_9 : ¬ _ = (12 : Int32) := hd 9 (by decide)
    have g14_10 : ¬ _ = (13 : Int32) := hd 10 (by decide)
    have g14_11 : ¬ _ = (14 : Int32) := hd 11 (by decide)
    rw [eK] at g14_0 g14_1 g14_8 g14_9 g14_10 g14_11
    have hrow : ∀ b, wrow (K a) (V a) v lb G cl cr b = wJoin (K a) (wres G cl b) (wres G cr b) := by
      intro b
      simp only [wrow]
      rw [if_neg g14_8, if_neg g14_10, if_neg g14_11, if_neg (by rintro (h | h); exact g14_0 h; exact g14_1 h), if_neg g14_9]
    refine z_iconst X d_Wrk_workOutNode_175 (v := 0) (by decide) ?_
    refine z_istore X d_Wrk_workOutNode_176 (by decide) rfl ?_
    exact L178 11 0 f (by omega) (hP.eq (by rw [wsetk_0])) zF.rf hrow
/-- Worker.workOut: the rows after the last k nodes -/
def wfd (K V R : Nat → Int32) (CL CR : Nat → Option Nat) (v : Nat → Int32) (LB : Int32) (G : Nat → Int32) (u : Nat) : Nat → (Nat → Int32)
  | 0 => G
  | k + 1 => wsetk (wfd K V R CL CR v LB G u k) (u - 1 - k) (wrow (K (u - 1 - k)) (V (u - 1 - k)) v LB (wfd K V R CL CR v LB G u k) (CL (u - 1 - k)) (CR (u - 1 - k))) 10
/-- a tree whose nodes name their lefts and rights -/
def tok (K R : Nat → Int32) (u : Nat) (CL CR : Nat → Option Nat) : Prop := ∀ a, a < u → tleft K u (nI a) = wix (CL a) ∧ R a = wix (CR a) ∧ (∀ z, CL a = some z → z < 40 ∧ z ≠ a) ∧ (∀ z, CR a = some z → z < 40 ∧ z ≠ a)
theorem d_Wrk_workOut_0 : decode prog_8_method_2_code 0 = .ok (.aload_n 0, 1) := by decide +kernel
theorem d_Wrk_workOut_1 : decode prog_8_method_2_code 1 = .ok (.aload_n 0, 1) := by decide +kernel
theorem d_Wrk_workOut_2 : decode prog_8_method_2_code 2 = .ok (.getfield 12, 3) := by decide +kernel
theorem d_Wrk_workOut_5 : decode prog_8_method_2_code 5 = .ok (.invokevirtual 22, 3) := by decide +kernel
theorem d_Wrk_workOut_8 : decode prog_8_method_2_code 8 = .ok (.putfield 26, 3) := by decide +kernel
theorem d_Wrk_workOut_11 : decode prog_8_method_2_code 11 = .ok (.aload_n 1, 1) := by decide +kernel
theorem d_Wrk_workOut_12 : decode prog_8_method_2_code 12 = .ok (.invokevirtual 29, 3) := by decide +kernel
theorem d_Wrk_workOut_15 : decode prog_8_method_2_code 15 = .ok (.bipush 40, 2) := by decide +kernel
theorem d_Wrk_workOut_17 : decode prog_8_method_2_code 17 = .ok (.invokestatic 34, 3) := by decide +kernel
theorem d_Wrk_workOut_20 : decode prog_8_method_2_code 20 = .ok (.iconst 1, 1) := by decide +kernel
theorem d_Wrk_workOut_21 : decode prog_8_method_2_code 21 = .ok (.isub, 1) := by decide +kernel
theorem d_Wrk_workOut_22 : decode prog_8_method_2_code 22 = .ok (.istore_n 2, 1) := by decide +kernel
theorem d_Wrk_workOut_23 : decode prog_8_method_2_code 23 = .ok (.iload_n 2, 1) := by decide +kernel
theorem d_Wrk_workOut_24 : decode prog_8_method_2_code 24 = .ok (.ifCond .lt 15, 3) := by decide +kernel
theorem d_Wrk_workOut_27 : decode prog_8_method_2_code 27 = .ok (.aload_n 0, 1) := by decide +kernel
theorem d_Wrk_workOut_28 : decode prog_8_method_2_code 28 = .ok (.aload_n 1, 1) := by decide +kernel
theorem d_Wrk_workOut_29 : decode prog_8_method_2_code 29 = .ok (.iload_n 2, 1) := by decide +kernel
theorem d_Wrk_workOut_30 : decode prog_8_method_2_code 30 = .ok (.invokevirtual 40, 3) := by decide +kernel
theorem d_Wrk_workOut_33 : decode prog_8_method_2_code 33 = .ok (.iinc 2 (-1), 3) := by decide +kernel
theorem d_Wrk_workOut_36 : decode prog_8_method_2_code 36 = .ok (.goto (-13), 3) := by decide +kernel
theorem d_Wrk_workOut_39 : decode prog_8_method_2_code 39 = .ok (.aload_n 0, 1) := by decide +kernel
theorem d_Wrk_workOut_40 : decode prog_8_method_2_code 40 = .ok (.iconst 0, 1) := by decide +kernel
theorem d_Wrk_workOut_41 : decode prog_8_method_2_code 41 = .ok (.iconst 0, 1) := by decide +kernel
theorem d_Wrk_workOut_42 : decode prog_8_method_2_code 42 = .ok (.invokevirtual 44, 3) := by decide +kernel
theorem d_Wrk_workOut_45 : decode prog_8_method_2_code 45 = .ok (.ireturn, 1) := by decide +kernel
set_option maxHeartbeats 4000000 in
set_option maxRecDepth 100000 in
theorem c_Wrk_workOut {wk dc rs va tr ka vb ra n u : Nat} {lb : Int32} {G v K V R : Nat → Int32} (hP : zP b0 N f (wWrk ck wk dc rs va lb (G) v ++ wTre ck tr ka vb ra n K V R u)) (hu : u ≤ n) (hn : n ≤ 40) {CL CR : Nat → Option Nat} (hok : tok K R u CL CR) : zK l D ck ad b0 y_Wrk_workOut prog_8_method_2_code 3 ((some FieldType.int)) 4 0 0 [.ref wk, .ref tr] N f (fun r N' f' => r = some (.int ((wfd K V R CL CR v (dbits v 9) G u (u)) 0)) ∧ N = N' ∧ zP b0 N f' (wWrk ck wk dc rs va (dbits v 9) (wfd K V R CL CR v (dbits v 9) G u (u)) v ++ wTre ck tr ka vb ra n K V R u) ∧ zF N f f' [wk, rs]) := by
  refine zM.of zG_w (by decide) (Nat.le_of_ble_eq_true rfl) ?_
  intro zp ze zst zm zar zbe zme zc X hnm hb0
  have hF : zF N f f [wk, rs] := zF.rf
  have L23 : ∀ (nn : Nat) (t : Nat) (f1 : Nat → va_E), (t ≤ u ∧ t < nn) → zP b0 N f1 (wWrk ck wk dc rs va (dbits v 9) (wfd K V R CL CR v (dbits v 9) G u (u - t)) v ++ wTre ck tr ka vb ra n K V R u) → zF N f f1 [wk, rs] → zW zp l ze (zR 4 0 0) zst zm zar zbe zme zc D zcl b0 3 0 0 (MQ zbe (zQ D zcl b0 (fun r N' f' => r = some (.int ((wfd K V R CL CR v (dbits v 9) G u (u)) 0)) ∧ N = N' ∧ zP b0 N f' (wWrk ck wk dc rs va (dbits v 9) (wfd K V R CL CR v (dbits v 9) G u (u)) v ++ wTre ck tr ka vb ra n K V R u) ∧ zF N f f' [wk, rs])) zar zst 0 0 (zA b0)) N f1 23 [(0, .ref wk), (1, .ref tr), (2, .int (nI t - 1))] [] := by
    intro nn
    induction nn with
    | zero =>
      intro t f1 ht0 hP hF
      omega
    | succ nn ih =>
      intro t f1 ht0 hP hF
      refine z_iload_n X d_Wrk_workOut_23 rfl ?_
      refine z_if_lt X 39 d_Wrk_workOut_24 (by decide) (fun h24 => ?_) (fun h24 => ?_)
      · skip
        have ht : t = 0 := by
          rcases Nat.eq_zero_or_pos t with z | z
          · exact z
          · rw [show nI t - 1 = nI (t - 1) from pk_sub (b := 1) (by omega)] at h24
            exact absurd h24 (nI_pos (by omega))
        subst ht
        refine z_aload_n X d_Wrk_workOut_39 rfl ?_
        refine z_iconst X d_Wrk_workOut_40 (v := 0) (by decide) ?_
        refine z_iconst X d_Wrk_workOut_41 (v := 0) (by decide) ?_
        refine z_callV X zG_ok (c_Wrk_resultOf_s (hP.sub [0, 1] (by decide) rfl) (c := 0) (b := 0) (by decide) (by decide)) d_Wrk_workOut_42 ⟨(z_cb (n := 2) X.2.2.2.2.1 ml_Wrk_44 mc_Wrk_resultOf ini_Wrk (by decide +kernel) rfl rfl ⟨Nat.le_of_ble_eq_true rfl, Nat.le_of_ble_eq_true rfl⟩), X.2.2.2.2.1 _ im_Wrk_resultOf, X.2.2.2.2.1 _ sel_Wrk_resultOf⟩ (hP.lo 0 rfl) (hP.at 0 rfl) cl_Wrk rfl rfl (Nat.le_of_ble_eq_true rfl) ⟨Nat.le_of_ble_eq_true rfl, Nat.le_of_ble_eq_true rfl⟩ (fun r N1 f1 hp hN1 => ?_)
        obtain ⟨rfl, rfl, rfl⟩ := hp
        exact z_iret X d_Wrk_workOut_45 ⟨rfl, rfl, hP, hF⟩
      · skip
        obtain ⟨t, rfl⟩ : ∃ t1, t = t1 + 1 := ⟨t - 1, by rcases Nat.eq_zero_or_pos t with z | z; exact absurd (by rw [z]; decide) h24; omega⟩
        rw [show nI (t + 1) - 1 = nI t from nI_pred t]
        refine z_aload_n X d_Wrk_workOut_27 rfl ?_
        refine z_aload_n X d_Wrk_workOut_28 rfl ?_
        refine z_iload_n X d_Wrk_workOut_29 rfl ?_
        refine z_callV X zG_ok (c_Wrk_workOutNode hP hu hn (a := t) (by omega) (hok t (by omega)).1 (hok t (by omega)).2.1 (hok t (by omega)).2.2.1 (hok t (by omega)).2.2.2) d_Wrk_workOut_30 ⟨(z_cb (n := 2) X.2.2.2.2.1 ml_Wrk_40 mc_Wrk_workOutNode ini_Wrk (by decide +kernel) rfl rfl ⟨Nat.le_of_ble_eq_true rfl, Nat.le_of_ble_eq_true rfl⟩), X.2.2.2.2.1 _ im_Wrk_workOutNode, X.2.2.2.2.1 _ sel_Wrk_workOutNode⟩ (hP.lo 0 rfl) (hP.at 0 rfl) cl_Wrk rfl rfl (Nat.le_of_ble_eq_true rfl) ⟨Nat.le_of_ble_eq_true rfl, Nat.le_of_ble_eq_true rfl⟩ (fun r N1 f1 hp hN1 => ?_)
        obtain ⟨rfl, rfl, hP, hF1⟩ := hp
        have hF := hF.join hF1 (Nat.le_refl _) (fun _ h => Or.inl h)
        refine z_iinc X d_Wrk_workOut_33 rfl (show nI t + Int32.ofInt (-1) = nI t - 1 from by rw [Int32.sub_eq_add_neg]; rfl) (by decide) rfl ?_
        refine z_goto X 23 d_Wrk_workOut_36 (by decide) ?_
        refine zW.pick [0, 1, 2] (lv' := [(0, .ref wk), (1, .ref tr), (2, .int (nI t - 1))]) rfl ?_
        exact ih t _ (by omega) (hP.eq (by rw [show u - t = (u - (t + 1)) + 1 by omega]; simp only [wfd]; rw [show u - 1 - (u - (t + 1)) = t by omega])) hF
  refine z_aload_n X d_Wrk_workOut_0 rfl ?_
  refine z_aload_n X d_Wrk_workOut_1 rfl ?_
  refine z_get X d_Wrk_workOut_2 (hP.lo 0 rfl) (hP.at 0 rfl) cl_Wrk in_Wrk 0 (by decide) fl_Wrk_12 rfl rfl ?_
  refine z_callV X zG_ok (c_Decl_lineBits (hP.sub [2, 3] (by decide) rfl)) d_Wrk_workOut_5 ⟨(z_cb (n := 0) X.2.2.2.2.1 ml_Wrk_22 mc_Decl_lineBits ini_Decl (by decide +kernel) rfl rfl ⟨Nat.le_of_ble_eq_true rfl, Nat.le_of_ble_eq_true rfl⟩), X.2.2.2.2.1 _ im_Decl_lineBits, X.2.2.2.2.1 _ sel_Decl_lineBits⟩ (hP.lo 2 rfl) (hP.at 2 rfl) cl_Decl rfl rfl (Nat.le_of_ble_eq_true rfl) ⟨Nat.le_of_ble_eq_true rfl, Nat.le_of_ble_eq_true rfl⟩ (fun r N1 f1 hp hN1 => ?_)
  obtain ⟨rfl, rfl, rfl⟩ := hp
  refine z_putP X t_Wrk ty_Wrk n_Wrk d_Wrk_workOut_8 hP 0 rfl cl_Wrk in_Wrk 2 (by decide) fl_Wrk_26 rfl rfl rfl rfl rfl (Nat.le_of_ble_eq_true rfl) (fun hP => ?_)
  have hF := hF.by (by simp) hP
  refine z_aload_n X d_Wrk_workOut_11 rfl ?_
  refine z_callV X zG_ok (c_Tre_size (hP.sub [4, 5, 6, 7] (by decide) rfl)) d_Wrk_workOut_12 ⟨(z_cb (n := 0) X.2.2.2.2.1 ml_Wrk_29 mc_Tre_size ini_Tre (by decide +kernel) rfl rfl ⟨Nat.le_of_ble_eq_true rfl, Nat.le_of_ble_eq_true rfl⟩), X.2.2.2.2.1 _ im_Tre_size, X.2.2.2.2.1 _ sel_Tre_size⟩ (hP.lo 4 rfl) (hP.at 4 rfl) cl_Tre rfl rfl (Nat.le_of_ble_eq_true rfl) ⟨Nat.le_of_ble_eq_true rfl, Nat.le_of_ble_eq_true rfl⟩ (fun r N1 f1 hp hN1 => ?_)
  obtain ⟨rfl, rfl, rfl⟩ := hp
  refine z_bipush X d_Wrk_workOut_15 (v := 40) (by decide) ?_
  refine z_mmin X d_Wrk_workOut_17 ml_Wrk_34 st_Math_min ini_Math mc_lib_min (Nat.le_of_ble_eq_true rfl) (Nat.le_of_ble_eq_true rfl) (Nat.zero_le _) (Nat.zero_le _) ?_
  refine z_iconst X d_Wrk_workOut_20 (v := 1) (by decide) ?_
  refine z_isub X d_Wrk_workOut_21 ?_
  refine z_istore_n X d_Wrk_workOut_22 (by decide) rfl ?_
  refine zW.pick [0, 1, 2] (lv' := [(0, .ref wk), (1, .ref tr), (2, .int (nI u - 1))]) (by rw [if_neg (show ¬ (40 : Int32) < nI u from nI_nlt (a := 40) (b := u) (by omega) (by decide))]; rfl) ?_
  exact L23 (u + 1) u _ (by omega) (hP.eq (by rw [Nat.sub_self]; rfl)) hF
end
end
section
section ZKR
variable {p : Program} {l : Launch} {e : Env} {R : Room} {s : State} {m : MethodId} {args : Array Value} {below : List Frame} {meth : Method} {c : Code} {cells slots : Nat} {Q : State → Prop} {D : va_G} {cl : List vw_C} {tys : List (ClassId × FieldType)} {b0 : Nat} {G : State → Prop} {cc : ByteArray} {nL : Nat} {own : String} {Ts : List Cond} {ret : Option FieldType} {N : Nat} {f : Nat → va_E} {pc : Nat} {lv : List (Nat × Value)} {st : List Value}
theorem z_getK (X : zX p s m args meth c D cl tys b0 G cc nL own Ts ret) {o n d ref : String} {index q : Nat} {v : Value} (hdg : decode cc pc = .ok (.getfield index, 3)) (hE : va_OF o n d v q (zA b0) s s.heap) (hlink : Cond.fieldLink own index ref n d ∈ Ts) (href : o = ref) (kk : zW p l e R s m args below meth c D cl b0 nL cells slots Q N f (pc + 3) lv (v :: st)) : zW p l e R s m args below meth c D cl b0 nL cells slots Q N f pc lv (.ref q :: st) := fun H locs ls hH hS hL => vk_getf X.1 X.2.1 hE hS X.2.2.2.1 (X.2.2.2.2.1 _ hlink) (fun x hx => by rw [← href]; exact hx) hdg (kk H locs ls hH hS hL)
theorem z_gets (X : zX p s m args meth c D cl tys b0 G cc nL own Ts ret) {o n d ref : String} {index : Nat} {v : Value} (hdg : decode cc pc = .ok (.getstatic index, 3)) (hE : va_Z o n d v (zA b0) s s.heap) (hlink : Cond.fieldLink own index ref n d ∈ Ts) (href : o = ref) (kk : zW p l e R s m args below meth c D cl b0 nL cells slots Q N f (pc + 3) lv (v :: st)) : zW p l e R s m args below meth c D cl b0 nL cells slots Q N f pc lv st := fun H locs ls hH hS hL => va_gets X.1 X.2.1 hE hS X.2.2.2.1 (X.2.2.2.2.1 _ hlink) (fun x hx => by rw [← href]; exact hx) hdg (kk H locs ls hH hS hL)
theorem z_getsq (X : zX p s m args meth c D cl tys b0 G cc nL own Ts ret) {o n d ref : String} {index : Nat} (hdg : decode cc pc = .ok (.getstatic index, 3)) (hE : va_Zq o n d (zA b0) s s.heap) (hlink : Cond.fieldLink own index ref n d ∈ Ts) (href : o = ref) (kk : ∀ r : Option Nat, True → zW p l e R s m args below meth c D cl b0 nL cells slots Q N f (pc + 3) lv (va_rf r :: st)) : zW p l e R s m args below meth c D cl b0 nL cells slots Q N f pc lv st := by
  rcases hE with h | ⟨t, h⟩
  · exact z_gets X hdg h hlink href (kk none trivial)
  · exact z_gets X hdg h hlink href (kk (some t) trivial)
theorem z_tlen (X : zX p s m args meth c D cl tys b0 G cc nL own Ts ret) {ty : FieldType} {t n : Nat} {g : Nat → Value} {v : Int32} (hdg : decode cc pc = .ok (.arraylength, 1)) (hT : va_T ty t n g (zA b0) s s.heap) (hv : Int32.ofNat n = v) (kk : zW p l e R s m args below meth c D cl b0 nL cells slots Q N f (pc + 1) lv (.int v :: st)) : zW p l e R s m args below meth c D cl b0 nL cells slots Q N f pc lv (.ref t :: st) := fun H locs ls hH hS hL => va_tlen X.1 X.2.1 hT hS hv hdg (kk H locs ls hH hS hL)
theorem z_tb (X : zX p s m args meth c D cl tys b0 G cc nL own Ts ret) {t n : Nat} {g : Nat → Value} {i : Int32} {v : Value} (hdg : decode cc pc = .ok (.baload, 1)) (hT : va_T .byte t n g (zA b0) s s.heap) (hi : vp_in i n) (hv : g i.toNatClampNeg = v) (kk : zW p l e R s m args below meth c D cl b0 nL cells slots Q N f (pc + 1) lv (v :: st)) : zW p l e R s m args below meth c D cl b0 nL cells slots Q N f pc lv (.int i :: .ref t :: st) := fun H locs ls hH hS hL => va_tb X.1 X.2.1 hT hS hi hv hdg (kk H locs ls hH hS hL)
theorem z_ldcS (X : zX p s m args meth c D cl tys b0 G cc nL own Ts ret) {tx : String} {index q : Nat} (hdg : decode cc pc = .ok (.ldc index, 2)) (hZ : vk_R own index tx q s) (kk : zW p l e R s m args below meth c D cl b0 nL cells slots Q N f (pc + 2) lv (.ref q :: st)) : zW p l e R s m args below meth c D cl b0 nL cells slots Q N f pc lv st := fun H locs ls hH hS hL => va_ldcS X.1 X.2.1 X.2.2.2.1 hZ hdg (kk H locs ls hH hS hL)
theorem z_nret {ty : FieldType} (X : zX p s m args meth c D cl tys b0 G cc nL own Ts (some ty)) {P : Option Value → Nat → (Nat → va_E) → Prop} {v : Int32} (hdg : decode cc pc = .ok (.ireturn, 1)) (hn : narrow ty (.int v) = .int v) (hP : P (some (.int v)) N f) : zW p l e R s m args below meth c D cl b0 nL cells slots (MQ below (zQ D cl b0 P) args s cells slots (zA b0)) N f pc lv [.int v] := fun H locs ls hH hS hL => W.zret X.1 X.2.1 X.2.2.2.2.2.2.2.1 hn (fun t ht hW => ⟨_, N, f, rfl, by rw [ht]; exact hH, fun q hq => by rw [ht]; exact zlow X.2.2.2.2.2.2.2.2.2 hS q hq, by rw [← hH.1]; exact hS.1, hP⟩) hS.2.2 hdg X.2.2.2.2.2.2.2.2.1
theorem z_callVK (X : zX p s m args meth c D cl tys b0 G cc nL own Ts ret) {y : MethodName} {bytes : ByteArray} {maxL n index mc ms : Nat} {ret' : Option FieldType} {ws : List Cond} {rm : Room} {As : List Value} {P : Option Value → Nat → (Nat → va_E) → Prop} {st0 : List Value} (hg : zGok b0 G) {C : String} {a : Nat} (hM : zM l D cl tys b0 G y ws rm mc ms (.ref a :: As) N f P) (hdg : decode cc pc = .ok (.invokevirtual index, 3)) (cw : CallW R s args own C index y bytes maxL ret' ws rm mc ms n) (hO : va_O C a (zA b0) s s.heap) (hst : st0 = As.reverse ++ .ref a :: st) (hn : As.length = n) (hroom : (st.map fun v => v.category).sum ≤ 8) (hf9 : cells + mc ≤ R.cells ∧ slots + ms ≤ R.slots) (kk : ∀ (r : Option Value) (N' : Nat) (f' : Nat → va_E), P r N' f' → N ≤ N' → zW p l e R s m args below meth c D cl b0 nL (cells + mc) (slots + ms) Q N' f' (pc + 3) lv (r.toList ++ st)) : zW p l e R s m args below meth c D cl b0 nL cells slots Q N f pc lv st0 := fun H locs ls hH hS hL => by
  subst hst
  exact z_run X hH hS hL (va_runV (As := As) (rest := st) ⟨X.1, X.2.1, X.2.2.1, X.2.2.2.1, X.2.2.2.2.1⟩ hM cw ⟨zblind hg, va_Orecv hO hS, fun U hU hW => z_pre X (As := .ref a :: As) hg hH hS U hU hW⟩ rfl hn hL.1 rfl (lv_room hroom) hdg hf9) kk
end ZKR
/-- a contract of a JDK method that the machine has no entry for -/
theorem zM.ofF {l : Launch} {D : va_G} {cl : List vw_C} {tys : List (ClassId × FieldType)} {b0 : Nat} {G : State → Prop} {Ts : List Cond} {y : MethodName} {rm : Room} {mc ms nL : Nat} {cc : ByteArray} {ret : Option FieldType} {As : List Value} {N : Nat} {f : Nat → va_E} {P : Option Value → Nat → (Nat → va_E) → Prop}
    (hgw : zGw G Ts) (hy : plainFor y = true) (hl : (lg_sl As).length ≤ nL)
    (body : ∀ (p : Program) (e : Env) (s : State) (m : MethodId) (args : Array Value) (below : List Frame) (meth : Method) (c : Code), zX p s m args meth c D cl tys b0 G cc nL y.cls Ts ret → meth.name = y.name → b0 ≤ N →
      zW p l e rm s m args below meth c D cl b0 nL 0 0 (MQ below (zQ D cl b0 P) args s mc ms (zA b0)) N f 0 (lv_args 0 As) []) : zM l D cl tys b0 G y [Cond.code y cc nL ret] rm mc ms As N f P := by
  refine va_MetF (cc := cc) (maxL := nL) (ret := ret) hy rfl ?_
  intro p e s m args below meth c s₁ B hml hv
  obtain ⟨rfl, hG, hK, hH, hb⟩ := hv
  have hown : s.vm.findClass y.cls = some m.cls := findClass_of_methodNamed B.named
  have X : zX p s m As.toArray meth c D cl tys b0 G cc nL y.cls Ts ret := ⟨B.exec, B.bytes, hml, hown, hgw s _ hG, hG, hK, B.returns, B.notSynchronized, by rw [hH.1]; exact hb⟩
  have hL := lv_entry As (n := nL) hl
  rw [lg_entry_eq]
  exact body p e s m As.toArray below meth c X (name_of_methodNamed B.named B.method).1 hb s.heap [] _ hH va_S.rf hL
section
variable {ad : (Nat → Nat) × (Nat → Nat)} {b0 j : Nat} {s : State}
theorem zG_sr (h : zG ad b0 s) (hj : j < 16) : vk_R (zSo j) (zSi j) (zSt j) (ad.1 j) s := (h.2.2.2.1 j hj).1
theorem zG_so (h : zG ad b0 s) (hj : j < 16) : va_O "java/lang/String" (ad.1 j) (zA b0) s s.heap := (h.2.2.2.1 j hj).2.1
theorem zG_scoder (h : zG ad b0 s) (hj : j < 16) : va_OF "java/lang/String" "coder" "B" (.int 0) (ad.1 j) (zA b0) s s.heap := (h.2.2.2.1 j hj).2.2.1
theorem zG_svalue (h : zG ad b0 s) (hj : j < 16) : va_OF "java/lang/String" "value" "[B" (.ref (ad.2 j)) (ad.1 j) (zA b0) s s.heap := (h.2.2.2.1 j hj).2.2.2.1
theorem zG_sb (h : zG ad b0 s) (hj : j < 16) : va_T .byte (ad.2 j) (zSb j).length (fun k => .int ((zSb j).getD k 0)) (zA b0) s s.heap := (h.2.2.2.1 j hj).2.2.2.2
end
/-- every literal: short, its bytes are bytes and their own chars -/
theorem zSb_ok : ∀ j, j < 16 → (zSb j).length < 100 ∧ ∀ k, k < (zSb j).length → ((zSb j).getD k 0).toInt8.toInt32 = (zSb j).getD k 0 ∧ (((zSb j).getD k 0) &&& 255) = (zSb j).getD k 0 ∧ (((zSb j).getD k 0).toUInt32 % 65536).toInt32 = (zSb j).getD k 0 ∧ vp_nar .char ((zSb j).getD k 0) = (zSb j).getD k 0 := by decide +kernel
def y_String_length : MethodName := ⟨"java/lang/String", "length", "()I"⟩
set_option maxRecDepth 100000 in
theorem mc_String_length : Cond.code y_String_length prog_19_method_54_code 1 ((some FieldType.int)) ∈ zTs := zT_in 547 rfl rfl
def y_String_coder : MethodName := ⟨"java/lang/String", "coder", "()B"⟩
set_option maxRecDepth 100000 in
theorem mc_String_coder : Cond.code y_String_coder prog_19_method_152_code 1 ((some FieldType.byte)) ∈ zTs := zT_in 551 rfl rfl
def y_String_charAt : MethodName := ⟨"java/lang/String", "charAt", "(I)C"⟩
set_option maxRecDepth 100000 in
theorem mc_String_charAt : Cond.code y_String_charAt prog_19_method_56_code 2 ((some FieldType.char)) ∈ zTs := zT_in 557 rfl rfl
def y_String_isLatin1 : MethodName := ⟨"java/lang/String", "isLatin1", "()Z"⟩
set_option maxRecDepth 100000 in
theorem mc_String_isLatin1 : Cond.code y_String_isLatin1 prog_19_method_154_code 1 ((some FieldType.boolean)) ∈ zTs := zT_in 561 rfl rfl
def y_StringLatin1_charAt : MethodName := ⟨"java/lang/StringLatin1", "charAt", "([BI)C"⟩
set_option maxRecDepth 100000 in
theorem mc_StringLatin1_charAt : Cond.code y_StringLatin1_charAt prog_20_method_2_code 2 ((some FieldType.char)) ∈ zTs := zT_in 564 rfl rfl
def y_String_checkIndex : MethodName := ⟨"java/lang/String", "checkIndex", "(II)V"⟩
set_option maxRecDepth 100000 in
theorem mc_String_checkIndex : Cond.code y_String_checkIndex prog_19_method_155_code 2 (none) ∈ zTs := zT_in 567 rfl rfl
def y_Preconditions_checkIndex : MethodName := ⟨"jdk/internal/util/Preconditions", "checkIndex", "(IILjava/util/function/BiFunction;)I"⟩
set_option maxRecDepth 100000 in
theorem mc_Preconditions_checkIndex : Cond.code y_Preconditions_checkIndex prog_25_method_11_code 3 ((some FieldType.int)) ∈ zTs := zT_in 572 rfl rfl
def y_String_indexOf : MethodName := ⟨"java/lang/String", "indexOf", "(I)I"⟩
set_option maxRecDepth 100000 in
theorem mc_String_indexOf : Cond.code y_String_indexOf prog_19_method_79_code 2 ((some FieldType.int)) ∈ zTs := zT_in 636 rfl rfl
def y_String_indexOf2 : MethodName := ⟨"java/lang/String", "indexOf", "(II)I"⟩
set_option maxRecDepth 100000 in
theorem mc_String_indexOf2 : Cond.code y_String_indexOf2 prog_19_method_80_code 3 ((some FieldType.int)) ∈ zTs := zT_in 640 rfl rfl
def y_StringLatin1_indexOf : MethodName := ⟨"java/lang/StringLatin1", "indexOf", "([BIII)I"⟩
set_option maxRecDepth 100000 in
theorem mc_StringLatin1_indexOf : Cond.code y_StringLatin1_indexOf prog_20_method_22_code 4 ((some FieldType.int)) ∈ zTs := zT_in 644 rfl rfl
def y_StringLatin1_canEncode : MethodName := ⟨"java/lang/StringLatin1", "canEncode", "(I)Z"⟩
set_option maxRecDepth 100000 in
theorem mc_StringLatin1_canEncode : Cond.code y_StringLatin1_canEncode prog_20_method_4_code 1 ((some FieldType.boolean)) ∈ zTs := zT_in 647 rfl rfl
def y_StringLatin1_indexOfChar : MethodName := ⟨"java/lang/StringLatin1", "indexOfChar", "([BIII)I"⟩
set_option maxRecDepth 100000 in
theorem mc_StringLatin1_indexOfChar : Cond.code y_StringLatin1_indexOfChar prog_20_method_23_code 6 ((some FieldType.int)) ∈ zTs := zT_in 654 rfl rfl
end
section
section ZMX
variable {p : Program} {l : Launch} {e : Env} {R : Room} {s : State} {m : MethodId} {args : Array Value} {below : List Frame} {meth : Method} {c : Code} {cells slots : Nat} {Q : State → Prop} {D : va_G} {cl : List vw_C} {tys : List (ClassId × FieldType)} {b0 : Nat} {G : State → Prop} {cc : ByteArray} {nL : Nat} {own : String} {Ts : List Cond} {ret : Option FieldType} {N : Nat} {f : Nat → va_E} {pc : Nat} {lv : List (Nat × Value)} {st : List Value}
theorem z_mmax (X : zX p s m args meth c D cl tys b0 G cc nL own Ts ret) {index : Nat} {x y : Int32} (hdg : decode cc pc = .ok (.invokestatic index, 3)) (h1 : Cond.methodLink own index Lib.Math.max.name ∈ Ts) (h2 : Cond.static Lib.Math.max.name ∈ Ts) (h3 : Cond.initialized "java/lang/Math" ∈ Ts) (h4 : Cond.code Lib.Math.max.name Lib.Math.max.code 2 (some .int) ∈ Ts) (hfr : 1 ≤ R.frames) (hlo : (st.map fun v => v.category).sum + 13 ≤ R.locals) (hc : cells ≤ R.cells) (hs : slots ≤ R.slots)
    (kk : zW p l e R s m args below meth c D cl b0 nL cells slots Q N f (pc + 3) lv (.int (if x < y then y else x) :: st)) : zW p l e R s m args below meth c D cl b0 nL cells slots Q N f pc lv (.int y :: .int x :: st) := fun H locs ls hH hS hL => va_mmax X.1 X.2.1 (by rw [X.2.2.1]; exact hL.1.symm) X.2.2.2.1 (X.2.2.2.2.1 _ h1) (X.2.2.2.2.1 _ h2) (X.2.2.2.2.1 _ h3) (X.2.2.2.2.1 _ h4) hfr hlo hc hs hdg (kk H locs ls hH hS hL)
end ZMX
/-- indexOf on what is left of a text, from place k on -/
def zix (c : Int32) : List Int32 → Nat → Int32
  | [], _ => -1
  | b :: l, k => if b = c then nI k else zix c l (k + 1)
theorem zix_none {c : Int32} : ∀ {l : List Int32} {k : Nat}, (∀ b ∈ l, ¬ b = c) → zix c l k = -1
  | [], _, _ => rfl
  | b :: l, k, h => by
    rw [zix, if_neg (h b List.mem_cons_self)]
    exact zix_none (fun b hb => h b (List.mem_cons_of_mem _ hb))
theorem zdrop {l : List Int32} {k : Nat} (h : k < l.length) : l.drop k = l.getD k 0 :: l.drop (k + 1) := by
  rw [List.drop_eq_getElem_cons h, List.getD_eq_getElem?_getD, List.getElem?_eq_getElem h]
  rfl
/-- bytes of literals are below 128 -/
theorem zSb_lo : ∀ j, j < 16 → ∀ b ∈ zSb j, 0 ≤ b.toInt ∧ b.toInt < 128 := by decide +kernel
theorem zSb_pos : ∀ j, j < 16 → 0 < (zSb j).length := by decide +kernel
theorem zix_out {j : Nat} (hj : j < 16) {x : Int32} (h : x < 0 ∨ 255 < x) : zix x (zSb j) 0 = -1 := by
  refine zix_none (fun b hb e => ?_)
  obtain ⟨a1, a2⟩ := zSb_lo j hj b hb
  rw [e] at a1 a2
  rcases h with z | z
  · rw [Int32.lt_iff_toInt_lt] at z
    simp at z
    omega
  · rw [Int32.lt_iff_toInt_lt] at z
    have h9 : (255 : Int32).toInt = 255 := rfl
    omega
theorem zch : ∀ n, n < 256 → ∀ m, m < 128 → ((nI n).toInt8.toInt32 = nI m ↔ n = m) := by decide +kernel
section
variable {l : Launch} {D : va_G} {ck : Nat → ClassId} {ad : (Nat → Nat) × (Nat → Nat)} {b0 N : Nat} {f : Nat → va_E}
variable {j : Nat}
theorem d_String_isLatin1_0 : decode prog_19_method_154_code 0 = .ok (.getstatic 38, 3) := by decide +kernel
theorem d_String_isLatin1_3 : decode prog_19_method_154_code 3 = .ok (.ifCond .eq 14, 3) := by decide +kernel
theorem d_String_isLatin1_6 : decode prog_19_method_154_code 6 = .ok (.aload_n 0, 1) := by decide +kernel
theorem d_String_isLatin1_7 : decode prog_19_method_154_code 7 = .ok (.getfield 15, 3) := by decide +kernel
theorem d_String_isLatin1_10 : decode prog_19_method_154_code 10 = .ok (.ifCond .ne 7, 3) := by decide +kernel
theorem d_String_isLatin1_13 : decode prog_19_method_154_code 13 = .ok (.iconst 1, 1) := by decide +kernel
theorem d_String_isLatin1_14 : decode prog_19_method_154_code 14 = .ok (.goto 4, 3) := by decide +kernel
theorem d_String_isLatin1_17 : decode prog_19_method_154_code 17 = .ok (.iconst 0, 1) := by decide +kernel
theorem d_String_isLatin1_18 : decode prog_19_method_154_code 18 = .ok (.ireturn, 1) := by decide +kernel
set_option maxHeartbeats 4000000 in
set_option maxRecDepth 100000 in
theorem c_String_isLatin1 (hj : j < 16) : zK l D ck ad b0 y_String_isLatin1 prog_19_method_154_code 1 ((some FieldType.boolean)) 0 0 0 [.ref (ad.1 j)] N f (fun r N' f' => r = some (.int (1)) ∧ N = N' ∧ f = f') := by
  refine zM.ofF zG_w (by decide +kernel) (Nat.le_of_ble_eq_true rfl) ?_
  intro zp ze zst zm zar zbe zme zc X hnm hb0
  refine z_gets X d_String_isLatin1_0 X.2.2.2.2.2.1.2.2.2.2.1 fl_String_38 rfl ?_
  refine z_if_eq X 17 d_String_isLatin1_3 (by decide) (fun h3 => ?_) (fun h3 => ?_)
  · skip
    exact absurd h3 (by decide)
  · skip
    refine z_aload_n X d_String_isLatin1_6 rfl ?_
    refine z_getK X d_String_isLatin1_7 (zG_scoder X.2.2.2.2.2.1 hj) fl_String_15 rfl ?_
    refine z_if_ne X 17 d_String_isLatin1_10 (by decide) (fun h10 => ?_) (fun h10 => ?_)
    · skip
      exact absurd rfl h10
    · skip
      refine z_iconst X d_String_isLatin1_13 (v := 1) (by decide) ?_
      refine z_goto X 18 d_String_isLatin1_14 (by decide) ?_
      exact z_zret X d_String_isLatin1_18 rfl ⟨rfl, rfl, rfl⟩
theorem d_String_coder_0 : decode prog_19_method_152_code 0 = .ok (.getstatic 38, 3) := by decide +kernel
theorem d_String_coder_3 : decode prog_19_method_152_code 3 = .ok (.ifCond .eq 10, 3) := by decide +kernel
theorem d_String_coder_6 : decode prog_19_method_152_code 6 = .ok (.aload_n 0, 1) := by decide +kernel
theorem d_String_coder_7 : decode prog_19_method_152_code 7 = .ok (.getfield 15, 3) := by decide +kernel
theorem d_String_coder_10 : decode prog_19_method_152_code 10 = .ok (.goto 4, 3) := by decide +kernel
theorem d_String_coder_13 : decode prog_19_method_152_code 13 = .ok (.iconst 1, 1) := by decide +kernel
theorem d_String_coder_14 : decode prog_19_method_152_code 14 = .ok (.ireturn, 1) := by decide +kernel
set_option maxHeartbeats 4000000 in
set_option maxRecDepth 100000 in
theorem c_String_coder (hj : j < 16) : zK l D ck ad b0 y_String_coder prog_19_method_152_code 1 ((some FieldType.byte)) 0 0 0 [.ref (ad.1 j)] N f (fun r N' f' => r = some (.int (0)) ∧ N = N' ∧ f = f') := by
  refine zM.ofF zG_w (by decide +kernel) (Nat.le_of_ble_eq_true rfl) ?_
  intro zp ze zst zm zar zbe zme zc X hnm hb0
  refine z_gets X d_String_coder_0 X.2.2.2.2.2.1.2.2.2.2.1 fl_String_38 rfl ?_
  refine z_if_eq X 13 d_String_coder_3 (by decide) (fun h3 => ?_) (fun h3 => ?_)
  · skip
    exact absurd h3 (by decide)
  · skip
    refine z_aload_n X d_String_coder_6 rfl ?_
    refine z_getK X d_String_coder_7 (zG_scoder X.2.2.2.2.2.1 hj) fl_String_15 rfl ?_
    refine z_goto X 14 d_String_coder_10 (by decide) ?_
    exact z_nret X d_String_coder_14 rfl ⟨rfl, rfl, rfl⟩
theorem d_String_length_0 : decode prog_19_method_54_code 0 = .ok (.aload_n 0, 1) := by decide +kernel
theorem d_String_length_1 : decode prog_19_method_54_code 1 = .ok (.getfield 9, 3) := by decide +kernel
theorem d_String_length_4 : decode prog_19_method_54_code 4 = .ok (.arraylength, 1) := by decide +kernel
theorem d_String_length_5 : decode prog_19_method_54_code 5 = .ok (.aload_n 0, 1) := by decide +kernel
theorem d_String_length_6 : decode prog_19_method_54_code 6 = .ok (.invokevirtual 335, 3) := by decide +kernel
theorem d_String_length_9 : decode prog_19_method_54_code 9 = .ok (.ishr, 1) := by decide +kernel
theorem d_String_length_10 : decode prog_19_method_54_code 10 = .ok (.ireturn, 1) := by decide +kernel
set_option maxHeartbeats 4000000 in
set_option maxRecDepth 100000 in
theorem c_String_length (hj : j < 16) : zK l D ck ad b0 y_String_length prog_19_method_54_code 1 ((some FieldType.int)) 1 0 0 [.ref (ad.1 j)] N f (fun r N' f' => r = some (.int (nI (zSb j).length)) ∧ N = N' ∧ f = f') := by
  refine zM.ofF zG_w (by decide +kernel) (Nat.le_of_ble_eq_true rfl) ?_
  intro zp ze zst zm zar zbe zme zc X hnm hb0
  refine z_aload_n X d_String_length_0 rfl ?_
  refine z_getK X d_String_length_1 (zG_svalue X.2.2.2.2.2.1 hj) fl_String_9 rfl ?_
  refine z_tlen X d_String_length_4 (zG_sb X.2.2.2.2.2.1 hj) rfl ?_
  refine z_aload_n X d_String_length_5 rfl ?_
  refine z_callVK X zG_ok (c_String_coder hj) d_String_length_6 ⟨(z_cb (n := 0) X.2.2.2.2.1 ml_String_335 mc_String_coder ini_String (by decide +kernel) rfl rfl ⟨Nat.le_of_ble_eq_true rfl, Nat.le_of_ble_eq_true rfl⟩), X.2.2.2.2.1 _ im_String_coder, X.2.2.2.2.1 _ sel_String_coder⟩ (zG_so X.2.2.2.2.2.1 hj) rfl rfl (Nat.le_of_ble_eq_true rfl) ⟨Nat.le_of_ble_eq_true rfl, Nat.le_of_ble_eq_true rfl⟩ (fun r N1 f1 hp hN1 => ?_)
  obtain ⟨rfl, rfl, rfl⟩ := hp
  refine z_ishr X d_String_length_9 ?_
  exact z_iret X d_String_length_10 ⟨by rw [show Int32.ofNat (zSb j).length >>> ((0 : Int32) &&& 31) = nI (zSb j).length from sc_shr0 (by have := (zSb_ok j hj).1; omega)], rfl, rfl⟩
theorem d_Preconditions_checkIndex_0 : decode prog_25_method_11_code 0 = .ok (.iload_n 0, 1) := by decide +kernel
theorem d_Preconditions_checkIndex_1 : decode prog_25_method_11_code 1 = .ok (.ifCond .lt 8, 3) := by decide +kernel
theorem d_Preconditions_checkIndex_4 : decode prog_25_method_11_code 4 = .ok (.iload_n 0, 1) := by decide +kernel
theorem d_Preconditions_checkIndex_5 : decode prog_25_method_11_code 5 = .ok (.iload_n 1, 1) := by decide +kernel
theorem d_Preconditions_checkIndex_6 : decode prog_25_method_11_code 6 = .ok (.if_icmp .lt 10, 3) := by decide +kernel
theorem d_Preconditions_checkIndex_9 : decode prog_25_method_11_code 9 = .ok (.aload_n 2, 1) := by decide +kernel
theorem d_Preconditions_checkIndex_10 : decode prog_25_method_11_code 10 = .ok (.iload_n 0, 1) := by decide +kernel
theorem d_Preconditions_checkIndex_11 : decode prog_25_method_11_code 11 = .ok (.iload_n 1, 1) := by decide +kernel
theorem d_Preconditions_checkIndex_12 : decode prog_25_method_11_code 12 = .ok (.invokestatic 95, 3) := by decide +kernel
theorem d_Preconditions_checkIndex_15 : decode prog_25_method_11_code 15 = .ok (.athrow, 1) := by decide +kernel
theorem d_Preconditions_checkIndex_16 : decode prog_25_method_11_code 16 = .ok (.iload_n 0, 1) := by decide +kernel
theorem d_Preconditions_checkIndex_17 : decode prog_25_method_11_code 17 = .ok (.ireturn, 1) := by decide +kernel
set_option maxHeartbeats 4000000 in
set_option maxRecDepth 100000 in
theorem c_Pre_ci_n {k n : Nat} (hk : k < n) (hn : n < 2 ^ 31) : zK l D ck ad b0 y_Preconditions_checkIndex prog_25_method_11_code 3 ((some FieldType.int)) 0 0 0 [.int (nI k), .int (nI n), .null] N f (fun r N' f' => r = some (.int (nI k)) ∧ N = N' ∧ f = f') := by
  refine zM.ofF zG_w (by decide +kernel) (Nat.le_of_ble_eq_true rfl) ?_
  intro zp ze zst zm zar zbe zme zc X hnm hb0
  refine z_iload_n X d_Preconditions_checkIndex_0 rfl ?_
  refine z_if_lt X 9 d_Preconditions_checkIndex_1 (by decide) (fun h1 => ?_) (fun h1 => ?_)
  · skip
    exact absurd h1 (nI_pos (by omega))
  · skip
    refine z_iload_n X d_Preconditions_checkIndex_4 rfl ?_
    refine z_iload_n X d_Preconditions_checkIndex_5 rfl ?_
    refine z_icmp_lt X 16 d_Preconditions_checkIndex_6 (by decide) (fun h6 => ?_) (fun h6 => ?_)
    · skip
      refine z_iload_n X d_Preconditions_checkIndex_16 rfl ?_
      exact z_iret X d_Preconditions_checkIndex_17 ⟨rfl, rfl, rfl⟩
    · skip
      exact absurd (nI_lt hk hn) h6
set_option maxHeartbeats 4000000 in
set_option maxRecDepth 100000 in
theorem c_Pre_ci_s {k n tq : Nat} (hk : k < n) (hn : n < 2 ^ 31) : zK l D ck ad b0 y_Preconditions_checkIndex prog_25_method_11_code 3 ((some FieldType.int)) 0 0 0 [.int (nI k), .int (nI n), .ref tq] N f (fun r N' f' => r = some (.int (nI k)) ∧ N = N' ∧ f = f') := by
  refine zM.ofF zG_w (by decide +kernel) (Nat.le_of_ble_eq_true rfl) ?_
  intro zp ze zst zm zar zbe zme zc X hnm hb0
  refine z_iload_n X d_Preconditions_checkIndex_0 rfl ?_
  refine z_if_lt X 9 d_Preconditions_checkIndex_1 (by decide) (fun h1 => ?_) (fun h1 => ?_)
  · skip
    exact absurd h1 (nI_pos (by omega))
  · skip
    refine z_iload_n X d_Preconditions_checkIndex_4 rfl ?_
    refine z_iload_n X d_Preconditions_checkIndex_5 rfl ?_
    refine z_icmp_lt X 16 d_Preconditions_checkIndex_6 (by decide) (fun h6 => ?_) (fun h6 => ?_)
    · skip
      refine z_iload_n X d_Preconditions_checkIndex_16 rfl ?_
      exact z_iret X d_Preconditions_checkIndex_17 ⟨rfl, rfl, rfl⟩
    · skip
      exact absurd (nI_lt hk hn) h6
theorem d_String_checkIndex_0 : decode prog_19_method_155_code 0 = .ok (.iload_n 0, 1) := by decide +kernel
theorem d_String_checkIndex_1 : decode prog_19_method_155_code 1 = .ok (.iload_n 1, 1) := by decide +kernel
theorem d_String_checkIndex_2 : decode prog_19_method_155_code 2 = .ok (.getstatic 1053, 3) := by decide +kernel
theorem d_String_checkIndex_5 : decode prog_19_method_155_code 5 = .ok (.invokestatic 1059, 3) := by decide +kernel
theorem d_String_checkIndex_8 : decode prog_19_method_155_code 8 = .ok (.pop, 1) := by decide +kernel
theorem d_String_checkIndex_9 : decode prog_19_method_155_code 9 = .ok (.return_, 1) := by decide +kernel
set_option maxHeartbeats 4000000 in
set_option maxRecDepth 100000 in
theorem c_String_checkIndex {k n : Nat} (hk : k < n) (hn : n < 2 ^ 31) : zK l D ck ad b0 y_String_checkIndex prog_19_method_155_code 2 (none) 1 0 0 [.int (nI k), .int (nI n)] N f (fun r N' f' => r = none ∧ N = N' ∧ f = f') := by
  refine zM.ofF zG_w (by decide +kernel) (Nat.le_of_ble_eq_true rfl) ?_
  intro zp ze zst zm zar zbe zme zc X hnm hb0
  refine z_iload_n X d_String_checkIndex_0 rfl ?_
  refine z_iload_n X d_String_checkIndex_1 rfl ?_
  refine z_getsq X d_String_checkIndex_2 X.2.2.2.2.2.1.2.2.2.2.2.2.2 fl_String_1053 rfl (fun vq hvq => ?_)
  rcases vq with _ | tq
  · skip
    refine z_callS X zG_ok (c_Pre_ci_n hk hn) d_String_checkIndex_5 ⟨(z_cb (n := 3) X.2.2.2.2.1 ml_String_1059 mc_Preconditions_checkIndex ini_Preconditions (by decide +kernel) rfl rfl ⟨Nat.le_of_ble_eq_true rfl, Nat.le_of_ble_eq_true rfl⟩), X.2.2.2.2.1 _ st_Preconditions_checkIndex⟩ rfl rfl (Nat.le_of_ble_eq_true rfl) ⟨Nat.le_of_ble_eq_true rfl, Nat.le_of_ble_eq_true rfl⟩ (fun r N1 f1 hp hN1 => ?_)
    obtain ⟨rfl, rfl, rfl⟩ := hp
    refine z_pop X d_String_checkIndex_8 rfl ?_
    exact z_vret X d_String_checkIndex_9 ⟨rfl, rfl, rfl⟩
  · skip
    refine z_callS X zG_ok (c_Pre_ci_s hk hn) d_String_checkIndex_5 ⟨(z_cb (n := 3) X.2.2.2.2.1 ml_String_1059 mc_Preconditions_checkIndex ini_Preconditions (by decide +kernel) rfl rfl ⟨Nat.le_of_ble_eq_true rfl, Nat.le_of_ble_eq_true rfl⟩), X.2.2.2.2.1 _ st_Preconditions_checkIndex⟩ rfl rfl (Nat.le_of_ble_eq_true rfl) ⟨Nat.le_of_ble_eq_true rfl, Nat.le_of_ble_eq_true rfl⟩ (fun r N1 f1 hp hN1 => ?_)
    obtain ⟨rfl, rfl, rfl⟩ := hp
    refine z_pop X d_String_checkIndex_8 rfl ?_
    exact z_vret X d_String_checkIndex_9 ⟨rfl, rfl, rfl⟩
theorem d_StringLatin1_charAt_0 : decode prog_20_method_2_code 0 = .ok (.iload_n 1, 1) := by decide +kernel
theorem d_StringLatin1_charAt_1 : decode prog_20_method_2_code 1 = .ok (.aload_n 0, 1) := by decide +kernel
theorem d_StringLatin1_charAt_2 : decode prog_20_method_2_code 2 = .ok (.arraylength, 1) := by decide +kernel
theorem d_StringLatin1_charAt_3 : decode prog_20_method_2_code 3 = .ok (.invokestatic 9, 3) := by decide +kernel
theorem d_StringLatin1_charAt_6 : decode prog_20_method_2_code 6 = .ok (.aload_n 0, 1) := by decide +kernel
theorem d_StringLatin1_charAt_7 : decode prog_20_method_2_code 7 = .ok (.iload_n 1, 1) := by decide +kernel
theorem d_StringLatin1_charAt_8 : decode prog_20_method_2_code 8 = .ok (.baload, 1) := by decide +kernel
theorem d_StringLatin1_charAt_9 : decode prog_20_method_2_code 9 = .ok (.sipush 255, 3) := by decide +kernel
theorem d_StringLatin1_charAt_12 : decode prog_20_method_2_code 12 = .ok (.iand, 1) := by decide +kernel
theorem d_StringLatin1_charAt_13 : decode prog_20_method_2_code 13 = .ok (.i2c, 1) := by decide +kernel
theorem d_StringLatin1_charAt_14 : decode prog_20_method_2_code 14 = .ok (.ireturn, 1) := by decide +kernel
set_option maxHeartbeats 4000000 in
set_option maxRecDepth 100000 in
theorem c_StringLatin1_charAt (hj : j < 16) {k : Nat} (hk : k < (zSb j).length) : zK l D ck ad b0 y_StringLatin1_charAt prog_20_method_2_code 2 ((some FieldType.char)) 2 0 0 [.ref (ad.2 j), .int (nI k)] N f (fun r N' f' => r = some (.int ((zSb j).getD k 0)) ∧ N = N' ∧ f = f') := by
  refine zM.ofF zG_w (by decide +kernel) (Nat.le_of_ble_eq_true rfl) ?_
  intro zp ze zst zm zar zbe zme zc X hnm hb0
  refine z_iload_n X d_StringLatin1_charAt_0 rfl ?_
  refine z_aload_n X d_StringLatin1_charAt_1 rfl ?_
  refine z_tlen X d_StringLatin1_charAt_2 (zG_sb X.2.2.2.2.2.1 hj) rfl ?_
  refine z_callS X zG_ok (c_String_checkIndex hk (by have := (zSb_ok j hj).1; omega)) d_StringLatin1_charAt_3 ⟨(z_cb (n := 2) X.2.2.2.2.1 ml_StringLatin1_9 mc_String_checkIndex ini_String (by decide +kernel) rfl rfl ⟨Nat.le_of_ble_eq_true rfl, Nat.le_of_ble_eq_true rfl⟩), X.2.2.2.2.1 _ st_String_checkIndex⟩ rfl rfl (Nat.le_of_ble_eq_true rfl) ⟨Nat.le_of_ble_eq_true rfl, Nat.le_of_ble_eq_true rfl⟩ (fun r N1 f1 hp hN1 => ?_)
  obtain ⟨rfl, rfl, rfl⟩ := hp
  refine z_aload_n X d_StringLatin1_charAt_6 rfl ?_
  refine z_iload_n X d_StringLatin1_charAt_7 rfl ?_
  refine z_tb X d_StringLatin1_charAt_8 (zG_sb X.2.2.2.2.2.1 hj) (vp_in_nI hk (by have := (zSb_ok j hj).1; omega)) rfl ?_
  refine z_sipush X d_StringLatin1_charAt_9 (v := 255) (by decide) ?_
  refine z_iand X d_StringLatin1_charAt_12 ?_
  refine z_i2c X d_StringLatin1_charAt_13 rfl ?_
  exact z_nret X d_StringLatin1_charAt_14 (by rw [nI_clamp (by have := (zSb_ok j hj).1; omega), ((zSb_ok j hj).2 k hk).2.1, ((zSb_ok j hj).2 k hk).2.2.1]; have e := ((zSb_ok j hj).2 k hk).2.2.2; rw [vp_nar_char] at e; exact congrArg Value.int e) ⟨by rw [nI_clamp (by have := (zSb_ok j hj).1; omega), ((zSb_ok j hj).2 k hk).2.1, ((zSb_ok j hj).2 k hk).2.2.1], rfl, rfl⟩
theorem d_String_charAt_0 : decode prog_19_method_56_code 0 = .ok (.aload_n 0, 1) := by decide +kernel
theorem d_String_charAt_1 : decode prog_19_method_56_code 1 = .ok (.invokevirtual 492, 3) := by decide +kernel
theorem d_String_charAt_4 : decode prog_19_method_56_code 4 = .ok (.ifCond .eq 12, 3) := by decide +kernel
theorem d_String_charAt_7 : decode prog_19_method_56_code 7 = .ok (.aload_n 0, 1) := by decide +kernel
theorem d_String_charAt_8 : decode prog_19_method_56_code 8 = .ok (.getfield 9, 3) := by decide +kernel
theorem d_String_charAt_11 : decode prog_19_method_56_code 11 = .ok (.iload_n 1, 1) := by decide +kernel
theorem d_String_charAt_12 : decode prog_19_method_56_code 12 = .ok (.invokestatic 495, 3) := by decide +kernel
theorem d_String_charAt_15 : decode prog_19_method_56_code 15 = .ok (.ireturn, 1) := by decide +kernel
theorem d_String_charAt_16 : decode prog_19_method_56_code 16 = .ok (.aload_n 0, 1) := by decide +kernel
theorem d_String_charAt_17 : decode prog_19_method_56_code 17 = .ok (.getfield 9, 3) := by decide +kernel
theorem d_String_charAt_20 : decode prog_19_method_56_code 20 = .ok (.iload_n 1, 1) := by decide +kernel
theorem d_String_charAt_21 : decode prog_19_method_56_code 21 = .ok (.invokestatic 498, 3) := by decide +kernel
theorem d_String_charAt_24 : decode prog_19_method_56_code 24 = .ok (.ireturn, 1) := by decide +kernel
set_option maxHeartbeats 4000000 in
set_option maxRecDepth 100000 in
theorem c_String_charAt (hj : j < 16) {k : Nat} (hk : k < (zSb j).length) : zK l D ck ad b0 y_String_charAt prog_19_method_56_code 2 ((some FieldType.char)) 3 0 0 [.ref (ad.1 j), .int (nI k)] N f (fun r N' f' => r = some (.int ((zSb j).getD k 0)) ∧ N = N' ∧ f = f') := by
  refine zM.ofF zG_w (by decide +kernel) (Nat.le_of_ble_eq_true rfl) ?_
  intro zp ze zst zm zar zbe zme zc X hnm hb0
  refine z_aload_n X d_String_charAt_0 rfl ?_
  refine z_callVK X zG_ok (c_String_isLatin1 hj) d_String_charAt_1 ⟨(z_cb (n := 0) X.2.2.2.2.1 ml_String_492 mc_String_isLatin1 ini_String (by decide +kernel) rfl rfl ⟨Nat.le_of_ble_eq_true rfl, Nat.le_of_ble_eq_true rfl⟩), X.2.2.2.2.1 _ im_String_isLatin1, X.2.2.2.2.1 _ sel_String_isLatin1⟩ (zG_so X.2.2.2.2.2.1 hj) rfl rfl (Nat.le_of_ble_eq_true rfl) ⟨Nat.le_of_ble_eq_true rfl, Nat.le_of_ble_eq_true rfl⟩ (fun r N1 f1 hp hN1 => ?_)
  obtain ⟨rfl, rfl, rfl⟩ := hp
  refine z_if_eq X 16 d_String_charAt_4 (by decide) (fun h4 => ?_) (fun h4 => ?_)
  · skip
    exact absurd h4 (by decide)
  · skip
    refine z_aload_n X d_String_charAt_7 rfl ?_
    refine z_getK X d_String_charAt_8 (zG_svalue X.2.2.2.2.2.1 hj) fl_String_9 rfl ?_
    refine z_iload_n X d_String_charAt_11 rfl ?_
    refine z_callS X zG_ok (c_StringLatin1_charAt hj hk) d_String_charAt_12 ⟨(z_cb (n := 2) X.2.2.2.2.1 ml_String_495 mc_StringLatin1_charAt ini_StringLatin1 (by decide +kernel) rfl rfl ⟨Nat.le_of_ble_eq_true rfl, Nat.le_of_ble_eq_true rfl⟩), X.2.2.2.2.1 _ st_StringLatin1_charAt⟩ rfl rfl (Nat.le_of_ble_eq_true rfl) ⟨Nat.le_of_ble_eq_true rfl, Nat.le_of_ble_eq_true rfl⟩ (fun r N1 f1 hp hN1 => ?_)
    obtain ⟨rfl, rfl, rfl⟩ := hp
    exact z_nret X d_String_charAt_15 (by have e := ((zSb_ok j hj).2 k hk).2.2.2; rw [vp_nar_char] at e; exact congrArg Value.int e) ⟨rfl, rfl, rfl⟩
theorem d_StringLatin1_canEncode_0 : decode prog_20_method_4_code 0 = .ok (.iload_n 0, 1) := by decide +kernel
theorem d_StringLatin1_canEncode_1 : decode prog_20_method_4_code 1 = .ok (.ifCond .lt 14, 3) := by decide +kernel
theorem d_StringLatin1_canEncode_4 : decode prog_20_method_4_code 4 = .ok (.iload_n 0, 1) := by decide +kernel
theorem d_StringLatin1_canEncode_5 : decode prog_20_method_4_code 5 = .ok (.sipush 255, 3) := by decide +kernel
theorem d_StringLatin1_canEncode_8 : decode prog_20_method_4_code 8 = .ok (.if_icmp .gt 7, 3) := by decide +kernel
theorem d_StringLatin1_canEncode_11 : decode prog_20_method_4_code 11 = .ok (.iconst 1, 1) := by decide +kernel
theorem d_StringLatin1_canEncode_12 : decode prog_20_method_4_code 12 = .ok (.goto 4, 3) := by decide +kernel
theorem d_StringLatin1_canEncode_15 : decode prog_20_method_4_code 15 = .ok (.iconst 0, 1) := by decide +kernel
theorem d_StringLatin1_canEncode_16 : decode prog_20_method_4_code 16 = .ok (.ireturn, 1) := by decide +kernel
set_option maxHeartbeats 4000000 in
set_option maxRecDepth 100000 in
theorem c_StringLatin1_canEncode {x : Int32} : zK l D ck ad b0 y_StringLatin1_canEncode prog_20_method_4_code 1 ((some FieldType.boolean)) 0 0 0 [.int x] N f (fun r N' f' => r = some (.int (if x < 0 ∨ 255 < x then 0 else 1)) ∧ N = N' ∧ f = f') := by
  refine zM.ofF zG_w (by decide +kernel) (Nat.le_of_ble_eq_true rfl) ?_
  intro zp ze zst zm zar zbe zme zc X hnm hb0
  refine z_iload_n X d_StringLatin1_canEncode_0 rfl ?_
  refine z_if_lt X 15 d_StringLatin1_canEncode_1 (by decide) (fun h1 => ?_) (fun h1 => ?_)
  · skip
    refine z_iconst X d_StringLatin1_canEncode_15 (v := 0) (by decide) ?_
    exact z_zret X d_StringLatin1_canEncode_16 rfl ⟨by first | rw [if_pos (Or.inl h1)] | rw [if_pos (Or.inr h8)] | rw [if_neg (by rintro (h | h); exact h1 h; exact h8 h)], rfl, rfl⟩
  · skip
    refine z_iload_n X d_StringLatin1_canEncode_4 rfl ?_
    refine z_sipush X d_StringLatin1_canEncode_5 (v := 255) (by decide) ?_
    refine z_icmp_gt X 15 d_StringLatin1_canEncode_8 (by decide) (fun h8 => ?_) (fun h8 => ?_)
    · skip
      refine z_iconst X d_StringLatin1_canEncode_15 (v := 0) (by decide) ?_
      exact z_zret X d_StringLatin1_canEncode_16 rfl ⟨by first | rw [if_pos (Or.inl h1)] | rw [if_pos (Or.inr h8)] | rw [if_neg (by rintro (h | h); exact h1 h; exact h8 h)], rfl, rfl⟩
    · skip
      refine z_iconst X d_StringLatin1_canEncode_11 (v := 1) (by decide) ?_
      refine z_goto X 16 d_StringLatin1_canEncode_12 (by decide) ?_
      exact z_zret X d_StringLatin1_canEncode_16 rfl ⟨by first | rw [if_pos (Or.inl h1)] | rw [if_pos (Or.inr h8)] | rw [if_neg (by rintro (h | h); exact h1 h; exact h8 h)], rfl, rfl⟩
theorem d_StringLatin1_indexOfChar_0 : decode prog_20_method_23_code 0 = .ok (.iload_n 1, 1) := by decide +kernel
theorem d_StringLatin1_indexOfChar_1 : decode prog_20_method_23_code 1 = .ok (.i2b, 1) := by decide +kernel
theorem d_StringLatin1_indexOfChar_2 : decode prog_20_method_23_code 2 = .ok (.istore 4, 2) := by decide +kernel
theorem d_StringLatin1_indexOfChar_4 : decode prog_20_method_23_code 4 = .ok (.iload_n 2, 1) := by decide +kernel
theorem d_StringLatin1_indexOfChar_5 : decode prog_20_method_23_code 5 = .ok (.istore 5, 2) := by decide +kernel
theorem d_StringLatin1_indexOfChar_7 : decode prog_20_method_23_code 7 = .ok (.iload 5, 2) := by decide +kernel
theorem d_StringLatin1_indexOfChar_9 : decode prog_20_method_23_code 9 = .ok (.iload_n 3, 1) := by decide +kernel
theorem d_StringLatin1_indexOfChar_10 : decode prog_20_method_23_code 10 = .ok (.if_icmp .ge 21, 3) := by decide +kernel
theorem d_StringLatin1_indexOfChar_13 : decode prog_20_method_23_code 13 = .ok (.aload_n 0, 1) := by decide +kernel
theorem d_StringLatin1_indexOfChar_14 : decode prog_20_method_23_code 14 = .ok (.iload 5, 2) := by decide +kernel
theorem d_StringLatin1_indexOfChar_16 : decode prog_20_method_23_code 16 = .ok (.baload, 1) := by decide +kernel
theorem d_StringLatin1_indexOfChar_17 : decode prog_20_method_23_code 17 = .ok (.iload 4, 2) := by decide +kernel
theorem d_StringLatin1_indexOfChar_19 : decode prog_20_method_23_code 19 = .ok (.if_icmp .ne 6, 3) := by decide +kernel
theorem d_StringLatin1_indexOfChar_22 : decode prog_20_method_23_code 22 = .ok (.iload 5, 2) := by decide +kernel
theorem d_StringLatin1_indexOfChar_24 : decode prog_20_method_23_code 24 = .ok (.ireturn, 1) := by decide +kernel
theorem d_StringLatin1_indexOfChar_25 : decode prog_20_method_23_code 25 = .ok (.iinc 5 1, 3) := by decide +kernel
theorem d_StringLatin1_indexOfChar_28 : decode prog_20_method_23_code 28 = .ok (.goto (-21), 3) := by decide +kernel
theorem d_StringLatin1_indexOfChar_31 : decode prog_20_method_23_code 31 = .ok (.iconst (-1), 1) := by decide +kernel
theorem d_StringLatin1_indexOfChar_32 : decode prog_20_method_23_code 32 = .ok (.ireturn, 1) := by decide +kernel
set_option maxHeartbeats 4000000 in
set_option maxRecDepth 100000 in
theorem c_StringLatin1_indexOfChar (hj : j < 16) {c : Nat} (hc : c < 256) : zK l D ck ad b0 y_StringLatin1_indexOfChar prog_20_method_23_code 6 ((some FieldType.int)) 0 0 0 [.ref (ad.2 j), .int (nI c), .int 0, .int (nI (zSb j).length)] N f (fun r N' f' => r = some (.int (zix (nI c) (zSb j) 0)) ∧ N = N' ∧ f = f') := by
  refine zM.ofF zG_w (by decide +kernel) (Nat.le_of_ble_eq_true rfl) ?_
  intro zp ze zst zm zar zbe zme zc X hnm hb0
  have hlen := (zSb_ok j hj).1
  have L7 : ∀ (nn : Nat) (k : Nat), (k ≤ (zSb j).length ∧ k + nn = (zSb j).length + 1) → zix (nI c) (zSb j) 0 = zix (nI c) ((zSb j).drop k) k → zW zp l ze (zR 0 0 0) zst zm zar zbe zme zc D zcl b0 6 0 0 (MQ zbe (zQ D zcl b0 (fun r N' f' => r = some (.int (zix (nI c) (zSb j) 0)) ∧ N = N' ∧ f = f')) zar zst 0 0 (zA b0)) N f 7 [(0, .ref (ad.2 j)), (1, .int (nI c)), (2, .int 0), (3, .int (nI (zSb j).length)), (4, .int (nI c).toInt8.toInt32), (5, .int (nI k))] [] := by
    intro nn
    induction nn with
    | zero =>
      intro k hk hz
      omega
    | succ nn ih =>
      intro k hk hz
      refine z_iload X d_StringLatin1_indexOfChar_7 rfl ?_
      refine z_iload_n X d_StringLatin1_indexOfChar_9 rfl ?_
      refine z_icmp_ge X 31 d_StringLatin1_indexOfChar_10 (by decide) (fun h10 => ?_) (fun h10 => ?_)
      · skip
        have hkl : k = (zSb j).length := by have := (nI_leI (a := (zSb j).length) (b := k) (by omega) (by omega)).mp h10; omega
        rw [show (zSb j).drop k = [] from List.drop_eq_nil_iff.mpr (by omega)] at hz
        refine z_iconst X d_StringLatin1_indexOfChar_31 (v := -1) (by decide) ?_
        exact z_iret X d_StringLatin1_indexOfChar_32 ⟨by rw [zix] at hz; rw [hz], rfl, rfl⟩
      · skip
        have hkl : k < (zSb j).length := by
          rcases Nat.lt_or_ge k (zSb j).length with z | z
          · exact z
          · exact absurd (nI_le z (by omega)) h10
        rw [zdrop hkl] at hz
        have hm := zSb_lo j hj ((zSb j).getD k 0) (by rw [List.getD_eq_getElem?_getD, List.getElem?_eq_getElem hkl]; exact List.getElem_mem hkl)
        obtain ⟨q, hq, eq⟩ : ∃ q : Nat, q < 128 ∧ (zSb j).getD k 0 = nI q := ⟨((zSb j).getD k 0).toInt.toNat, by omega, by apply Int32.toInt_inj.mp; rw [nI_toInt (by omega)]; omega⟩
        refine z_aload_n X d_StringLatin1_indexOfChar_13 rfl ?_
        refine z_iload X d_StringLatin1_indexOfChar_14 rfl ?_
        refine z_tb X d_StringLatin1_indexOfChar_16 (zG_sb X.2.2.2.2.2.1 hj) (vp_in_nI hkl (by omega)) rfl ?_
        refine z_iload X d_StringLatin1_indexOfChar_17 rfl ?_
        refine z_icmp_ne X 25 d_StringLatin1_indexOfChar_19 (by decide) (fun h19 => ?_) (fun h19 => ?_)
        · skip
          have hne : ¬ (zSb j).getD k 0 = nI c := by
            rw [nI_clamp (by omega), eq] at h19
            rw [eq]
            exact fun z => h19 (((zch c hc q hq).mpr ((nI_eq (by omega) (by omega)).mp z).symm).symm)
          refine z_iinc X d_StringLatin1_indexOfChar_25 rfl (nI_1 _) (by decide) rfl ?_
          refine z_goto X 7 d_StringLatin1_indexOfChar_28 (by decide) ?_
          refine ih (k + 1) (by omega) ?_
          rw [zix, if_neg hne] at hz
          exact hz
        · skip
          have hee : (zSb j).getD k 0 = nI c := by
            rw [nI_clamp (by omega), eq] at h19
            rw [eq, (zch c hc q hq).mp h19.symm]
          refine z_iload X d_StringLatin1_indexOfChar_22 rfl ?_
          exact z_iret X d_StringLatin1_indexOfChar_24 ⟨by rw [zix, if_pos hee] at hz; rw [hz], rfl, rfl⟩
  refine z_iload_n X d_StringLatin1_indexOfChar_0 rfl ?_
  refine z_i2b X d_StringLatin1_indexOfChar_1 rfl ?_
  refine z_istore X d_StringLatin1_indexOfChar_2 (by decide) rfl ?_
  refine z_iload_n X d_StringLatin1_indexOfChar_4 rfl ?_
  refine z_istore X d_StringLatin1_indexOfChar_5 (by decide) rfl ?_
  exact L7 ((zSb j).length + 1) 0 (by omega) rfl
theorem d_StringLatin1_indexOf_0 : decode prog_20_method_22_code 0 = .ok (.iload_n 1, 1) := by decide +kernel
theorem d_StringLatin1_indexOf_1 : decode prog_20_method_22_code 1 = .ok (.invokestatic 88, 3) := by decide +kernel
theorem d_StringLatin1_indexOf_4 : decode prog_20_method_22_code 4 = .ok (.ifCond .ne 5, 3) := by decide +kernel
theorem d_StringLatin1_indexOf_7 : decode prog_20_method_22_code 7 = .ok (.iconst (-1), 1) := by decide +kernel
theorem d_StringLatin1_indexOf_8 : decode prog_20_method_22_code 8 = .ok (.ireturn, 1) := by decide +kernel
theorem d_StringLatin1_indexOf_9 : decode prog_20_method_22_code 9 = .ok (.iload_n 2, 1) := by decide +kernel
theorem d_StringLatin1_indexOf_10 : decode prog_20_method_22_code 10 = .ok (.iconst 0, 1) := by decide +kernel
theorem d_StringLatin1_indexOf_11 : decode prog_20_method_22_code 11 = .ok (.invokestatic 92, 3) := by decide +kernel
theorem d_StringLatin1_indexOf_14 : decode prog_20_method_22_code 14 = .ok (.istore_n 2, 1) := by decide +kernel
theorem d_StringLatin1_indexOf_15 : decode prog_20_method_22_code 15 = .ok (.iload_n 3, 1) := by decide +kernel
theorem d_StringLatin1_indexOf_16 : decode prog_20_method_22_code 16 = .ok (.aload_n 0, 1) := by decide +kernel
theorem d_StringLatin1_indexOf_17 : decode prog_20_method_22_code 17 = .ok (.arraylength, 1) := by decide +kernel
theorem d_StringLatin1_indexOf_18 : decode prog_20_method_22_code 18 = .ok (.invokestatic 38, 3) := by decide +kernel
theorem d_StringLatin1_indexOf_21 : decode prog_20_method_22_code 21 = .ok (.istore_n 3, 1) := by decide +kernel
theorem d_StringLatin1_indexOf_22 : decode prog_20_method_22_code 22 = .ok (.iload_n 2, 1) := by decide +kernel
theorem d_StringLatin1_indexOf_23 : decode prog_20_method_22_code 23 = .ok (.iload_n 3, 1) := by decide +kernel
theorem d_StringLatin1_indexOf_24 : decode prog_20_method_22_code 24 = .ok (.if_icmp .lt 5, 3) := by decide +kernel
theorem d_StringLatin1_indexOf_27 : decode prog_20_method_22_code 27 = .ok (.iconst (-1), 1) := by decide +kernel
theorem d_StringLatin1_indexOf_28 : decode prog_20_method_22_code 28 = .ok (.ireturn, 1) := by decide +kernel
theorem d_StringLatin1_indexOf_29 : decode prog_20_method_22_code 29 = .ok (.aload_n 0, 1) := by decide +kernel
theorem d_StringLatin1_indexOf_30 : decode prog_20_method_22_code 30 = .ok (.iload_n 1, 1) := by decide +kernel
theorem d_StringLatin1_indexOf_31 : decode prog_20_method_22_code 31 = .ok (.iload_n 2, 1) := by decide +kernel
theorem d_StringLatin1_indexOf_32 : decode prog_20_method_22_code 32 = .ok (.iload_n 3, 1) := by decide +kernel
theorem d_StringLatin1_indexOf_33 : decode prog_20_method_22_code 33 = .ok (.invokestatic 95, 3) := by decide +kernel
theorem d_StringLatin1_indexOf_36 : decode prog_20_method_22_code 36 = .ok (.ireturn, 1) := by decide +kernel
set_option maxHeartbeats 4000000 in
set_option maxRecDepth 100000 in
theorem c_StringLatin1_indexOf (hj : j < 16) {x : Int32} : zK l D ck ad b0 y_StringLatin1_indexOf prog_20_method_22_code 4 ((some FieldType.int)) 1 0 0 [.ref (ad.2 j), .int x, .int 0, .int (nI (zSb j).length)] N f (fun r N' f' => r = some (.int (zix x (zSb j) 0)) ∧ N = N' ∧ f = f') := by
  refine zM.ofF zG_w (by decide +kernel) (Nat.le_of_ble_eq_true rfl) ?_
  intro zp ze zst zm zar zbe zme zc X hnm hb0
  have hlen := (zSb_ok j hj).1
  refine z_iload_n X d_StringLatin1_indexOf_0 rfl ?_
  refine z_callS X zG_ok c_StringLatin1_canEncode d_StringLatin1_indexOf_1 ⟨(z_cb (n := 1) X.2.2.2.2.1 ml_StringLatin1_88 mc_StringLatin1_canEncode ini_StringLatin1 (by decide +kernel) rfl rfl ⟨Nat.le_of_ble_eq_true rfl, Nat.le_of_ble_eq_true rfl⟩), X.2.2.2.2.1 _ st_StringLatin1_canEncode⟩ rfl rfl (Nat.le_of_ble_eq_true rfl) ⟨Nat.le_of_ble_eq_true rfl, Nat.le_of_ble_eq_true rfl⟩ (fun r N1 f1 hp hN1 => ?_)
  obtain ⟨rfl, rfl, rfl⟩ := hp
  refine z_if_ne X 9 d_StringLatin1_indexOf_4 (by decide) (fun h4 => ?_) (fun h4 => ?_)
  · skip
    have hin : ¬ (x < 0 ∨ 255 < x) := by
      intro z
      rw [if_pos z] at h4
      exact absurd rfl h4
    obtain ⟨c, hc9, rfl⟩ := nI_of (fun z => hin (Or.inl z))
    have hc : c < 256 := by
      rcases Nat.lt_or_ge c 256 with z | z
      · exact z
      · exact absurd (Or.inr (nI_lt (a := 255) (b := c) (by omega) (by omega))) hin
    refine z_iload_n X d_StringLatin1_indexOf_9 rfl ?_
    refine z_iconst X d_StringLatin1_indexOf_10 (v := 0) (by decide) ?_
    refine z_mmax X d_StringLatin1_indexOf_11 ml_StringLatin1_92 st_Math_max ini_Math mc_lib_max (Nat.le_of_ble_eq_true rfl) (Nat.le_of_ble_eq_true rfl) (Nat.zero_le _) (Nat.zero_le _) ?_
    rw [show (if (0 : Int32) < 0 then (0 : Int32) else 0) = 0 from ite_self _]
    refine z_istore_n X d_StringLatin1_indexOf_14 (by decide) rfl ?_
    refine z_iload_n X d_StringLatin1_indexOf_15 rfl ?_
    refine z_aload_n X d_StringLatin1_indexOf_16 rfl ?_
    refine z_tlen X d_StringLatin1_indexOf_17 (zG_sb X.2.2.2.2.2.1 hj) rfl ?_
    refine z_mmin X d_StringLatin1_indexOf_18 ml_StringLatin1_38 st_Math_min ini_Math mc_lib_min (Nat.le_of_ble_eq_true rfl) (Nat.le_of_ble_eq_true rfl) (Nat.zero_le _) (Nat.zero_le _) ?_
    rw [show (if Int32.ofNat (zSb j).length < nI (zSb j).length then Int32.ofNat (zSb j).length else nI (zSb j).length) = nI (zSb j).length from ite_self _]
    refine z_istore_n X d_StringLatin1_indexOf_21 (by decide) rfl ?_
    refine z_iload_n X d_StringLatin1_indexOf_22 rfl ?_
    refine z_iload_n X d_StringLatin1_indexOf_23 rfl ?_
    refine z_icmp_lt X 29 d_StringLatin1_indexOf_24 (by decide) (fun h24 => ?_) (fun h24 => ?_)
    · skip
      refine z_aload_n X d_StringLatin1_indexOf_29 rfl ?_
      refine z_iload_n X d_StringLatin1_indexOf_30 rfl ?_
      refine z_iload_n X d_StringLatin1_indexOf_31 rfl ?_
      refine z_iload_n X d_StringLatin1_indexOf_32 rfl ?_
      refine z_callS X zG_ok (c_StringLatin1_indexOfChar hj (c := c) hc) d_StringLatin1_indexOf_33 ⟨(z_cb (n := 4) X.2.2.2.2.1 ml_StringLatin1_95 mc_StringLatin1_indexOfChar ini_StringLatin1 (by decide +kernel) rfl rfl ⟨Nat.le_of_ble_eq_true rfl, Nat.le_of_ble_eq_true rfl⟩), X.2.2.2.2.1 _ st_StringLatin1_indexOfChar⟩ rfl rfl (Nat.le_of_ble_eq_true rfl) ⟨Nat.le_of_ble_eq_true rfl, Nat.le_of_ble_eq_true rfl⟩ (fun r N1 f1 hp hN1 => ?_)
      obtain ⟨rfl, rfl, rfl⟩ := hp
      exact z_iret X d_StringLatin1_indexOf_36 ⟨rfl, rfl, rfl⟩
    · skip
      exact absurd (nI_lt (a := 0) (zSb_pos j hj) (by omega)) h24
  · skip
    have hout : x < 0 ∨ 255 < x := by
      by_cases z : x < 0 ∨ 255 < x
      · exact z
      · rw [if_neg z] at h4; exact absurd h4 (by decide)
    refine z_iconst X d_StringLatin1_indexOf_7 (v := -1) (by decide) ?_
    exact z_iret X d_StringLatin1_indexOf_8 ⟨by rw [zix_out hj hout], rfl, rfl⟩
theorem d_String_indexOf2_0 : decode prog_19_method_80_code 0 = .ok (.aload_n 0, 1) := by decide +kernel
theorem d_String_indexOf2_1 : decode prog_19_method_80_code 1 = .ok (.invokevirtual 492, 3) := by decide +kernel
theorem d_String_indexOf2_4 : decode prog_19_method_80_code 4 = .ok (.ifCond .eq 19, 3) := by decide +kernel
theorem d_String_indexOf2_7 : decode prog_19_method_80_code 7 = .ok (.aload_n 0, 1) := by decide +kernel
theorem d_String_indexOf2_8 : decode prog_19_method_80_code 8 = .ok (.getfield 9, 3) := by decide +kernel
theorem d_String_indexOf2_11 : decode prog_19_method_80_code 11 = .ok (.iload_n 1, 1) := by decide +kernel
theorem d_String_indexOf2_12 : decode prog_19_method_80_code 12 = .ok (.iload_n 2, 1) := by decide +kernel
theorem d_String_indexOf2_13 : decode prog_19_method_80_code 13 = .ok (.aload_n 0, 1) := by decide +kernel
theorem d_String_indexOf2_14 : decode prog_19_method_80_code 14 = .ok (.invokevirtual 505, 3) := by decide +kernel
theorem d_String_indexOf2_17 : decode prog_19_method_80_code 17 = .ok (.invokestatic 637, 3) := by decide +kernel
theorem d_String_indexOf2_20 : decode prog_19_method_80_code 20 = .ok (.goto 16, 3) := by decide +kernel
theorem d_String_indexOf2_23 : decode prog_19_method_80_code 23 = .ok (.aload_n 0, 1) := by decide +kernel
theorem d_String_indexOf2_24 : decode prog_19_method_80_code 24 = .ok (.getfield 9, 3) := by decide +kernel
theorem d_String_indexOf2_27 : decode prog_19_method_80_code 27 = .ok (.iload_n 1, 1) := by decide +kernel
theorem d_String_indexOf2_28 : decode prog_19_method_80_code 28 = .ok (.iload_n 2, 1) := by decide +kernel
theorem d_String_indexOf2_29 : decode prog_19_method_80_code 29 = .ok (.aload_n 0, 1) := by decide +kernel
theorem d_String_indexOf2_30 : decode prog_19_method_80_code 30 = .ok (.invokevirtual 505, 3) := by decide +kernel
theorem d_String_indexOf2_33 : decode prog_19_method_80_code 33 = .ok (.invokestatic 640, 3) := by decide +kernel
theorem d_String_indexOf2_36 : decode prog_19_method_80_code 36 = .ok (.ireturn, 1) := by decide +kernel
set_option maxHeartbeats 4000000 in
set_option maxRecDepth 100000 in
theorem c_String_indexOf2 (hj : j < 16) {x : Int32} : zK l D ck ad b0 y_String_indexOf2 prog_19_method_80_code 3 ((some FieldType.int)) 2 0 0 [.ref (ad.1 j), .int x, .int 0] N f (fun r N' f' => r = some (.int (zix x (zSb j) 0)) ∧ N = N' ∧ f = f') := by
  refine zM.ofF zG_w (by decide +kernel) (Nat.le_of_ble_eq_true rfl) ?_
  intro zp ze zst zm zar zbe zme zc X hnm hb0
  refine z_aload_n X d_String_indexOf2_0 rfl ?_
  refine z_callVK X zG_ok (c_String_isLatin1 hj) d_String_indexOf2_1 ⟨(z_cb (n := 0) X.2.2.2.2.1 ml_String_492 mc_String_isLatin1 ini_String (by decide +kernel) rfl rfl ⟨Nat.le_of_ble_eq_true rfl, Nat.le_of_ble_eq_true rfl⟩), X.2.2.2.2.1 _ im_String_isLatin1, X.2.2.2.2.1 _ sel_String_isLatin1⟩ (zG_so X.2.2.2.2.2.1 hj) rfl rfl (Nat.le_of_ble_eq_true rfl) ⟨Nat.le_of_ble_eq_true rfl, Nat.le_of_ble_eq_true rfl⟩ (fun r N1 f1 hp hN1 => ?_)
  obtain ⟨rfl, rfl, rfl⟩ := hp
  refine z_if_eq X 23 d_String_indexOf2_4 (by decide) (fun h4 => ?_) (fun h4 => ?_)
  · skip
    exact absurd h4 (by decide)
  · skip
    refine z_aload_n X d_String_indexOf2_7 rfl ?_
    refine z_getK X d_String_indexOf2_8 (zG_svalue X.2.2.2.2.2.1 hj) fl_String_9 rfl ?_
    refine z_iload_n X d_String_indexOf2_11 rfl ?_
    refine z_iload_n X d_String_indexOf2_12 rfl ?_
    refine z_aload_n X d_String_indexOf2_13 rfl ?_
    refine z_callVK X zG_ok (c_String_length hj) d_String_indexOf2_14 ⟨(z_cb (n := 0) X.2.2.2.2.1 ml_String_505 mc_String_length ini_String (by decide +kernel) rfl rfl ⟨Nat.le_of_ble_eq_true rfl, Nat.le_of_ble_eq_true rfl⟩), X.2.2.2.2.1 _ im_String_length, X.2.2.2.2.1 _ sel_String_length⟩ (zG_so X.2.2.2.2.2.1 hj) rfl rfl (Nat.le_of_ble_eq_true rfl) ⟨Nat.le_of_ble_eq_true rfl, Nat.le_of_ble_eq_true rfl⟩ (fun r N1 f1 hp hN1 => ?_)
    obtain ⟨rfl, rfl, rfl⟩ := hp
    refine z_callS X zG_ok (c_StringLatin1_indexOf hj) d_String_indexOf2_17 ⟨(z_cb (n := 4) X.2.2.2.2.1 ml_String_637 mc_StringLatin1_indexOf ini_StringLatin1 (by decide +kernel) rfl rfl ⟨Nat.le_of_ble_eq_true rfl, Nat.le_of_ble_eq_true rfl⟩), X.2.2.2.2.1 _ st_StringLatin1_indexOf⟩ rfl rfl (Nat.le_of_ble_eq_true rfl) ⟨Nat.le_of_ble_eq_true rfl, Nat.le_of_ble_eq_true rfl⟩ (fun r N1 f1 hp hN1 => ?_)
    obtain ⟨rfl, rfl, rfl⟩ := hp
    refine z_goto X 36 d_String_indexOf2_20 (by decide) ?_
    exact z_iret X d_String_indexOf2_36 ⟨rfl, rfl, rfl⟩
theorem d_String_indexOf_0 : decode prog_19_method_79_code 0 = .ok (.aload_n 0, 1) := by decide +kernel
theorem d_String_indexOf_1 : decode prog_19_method_79_code 1 = .ok (.iload_n 1, 1) := by decide +kernel
theorem d_String_indexOf_2 : decode prog_19_method_79_code 2 = .ok (.iconst 0, 1) := by decide +kernel
theorem d_String_indexOf_3 : decode prog_19_method_79_code 3 = .ok (.invokevirtual 633, 3) := by decide +kernel
theorem d_String_indexOf_6 : decode prog_19_method_79_code 6 = .ok (.ireturn, 1) := by decide +kernel
set_option maxHeartbeats 4000000 in
set_option maxRecDepth 100000 in
theorem c_String_indexOf (hj : j < 16) {x : Int32} : zK l D ck ad b0 y_String_indexOf prog_19_method_79_code 2 ((some FieldType.int)) 3 0 0 [.ref (ad.1 j), .int x] N f (fun r N' f' => r = some (.int (zix x (zSb j) 0)) ∧ N = N' ∧ f = f') := by
  refine zM.ofF zG_w (by decide +kernel) (Nat.le_of_ble_eq_true rfl) ?_
  intro zp ze zst zm zar zbe zme zc X hnm hb0
  refine z_aload_n X d_String_indexOf_0 rfl ?_
  refine z_iload_n X d_String_indexOf_1 rfl ?_
  refine z_iconst X d_String_indexOf_2 (v := 0) (by decide) ?_
  refine z_callVK X zG_ok (c_String_indexOf2 hj) d_String_indexOf_3 ⟨(z_cb (n := 2) X.2.2.2.2.1 ml_String_633 mc_String_indexOf2 ini_String (by decide +kernel) rfl rfl ⟨Nat.le_of_ble_eq_true rfl, Nat.le_of_ble_eq_true rfl⟩), X.2.2.2.2.1 _ im_String_indexOf2, X.2.2.2.2.1 _ sel_String_indexOf2⟩ (zG_so X.2.2.2.2.2.1 hj) rfl rfl (Nat.le_of_ble_eq_true rfl) ⟨Nat.le_of_ble_eq_true rfl, Nat.le_of_ble_eq_true rfl⟩ (fun r N1 f1 hp hN1 => ?_)
  obtain ⟨rfl, rfl, rfl⟩ := hp
  exact z_iret X d_String_indexOf_6 ⟨rfl, rfl, rfl⟩
end
end
section
/-- the reader's state: its ints by field (5 level, 6 depth, 7 sumStart, 8 compared, 9 state, 10 place, 11 token, 12 tokenStart, 13 tokenValue), the tree (kinds, values, rights, used), ruleStarts, andStarts, depths -/
abbrev TSt : Type := (Nat → Int32) × (Nat → Int32) × (Nat → Int32) × Nat
abbrev RSt : Type := (Nat → Int32) × TSt × (Nat → Int32) × (Nat → Int32) × (Nat → Int32)
abbrev oRdr (tx tr rs as ds : Nat) (q : Nat → Int32) : va_E := .inr (2, [.ref tx, .ref tr, .ref rs, .ref as, .ref ds, .int (q 5), .int (q 6), .int (q 7), .int (q 8), .int (q 9), .int (q 10), .int (q 11), .int (q 12), .int (q 13)])
/-- the reader's cells, at the addresses A 0 .. A 9: itself, text, the text's row, ruleStarts, andStarts, depths, tree, kinds, values, rights -/
abbrev wRdr (ck : Nat → ClassId) (A : Nat → Nat) (g : Nat → Int32) (len : Nat) (st : RSt) : va_W := [(A 0, oRdr (A 1) (A 6) (A 3) (A 4) (A 5) st.1), (A 1, oSgn (A 2) (nI len)), (A 2, aI ck 200 g), (A 3, aI ck 11 st.2.2.1), (A 4, aI ck 11 st.2.2.2.1), (A 5, aI ck 11 st.2.2.2.2), (A 6, oTre (A 7) (A 8) (A 9) st.2.1.2.2.2), (A 7, aI ck 40 st.2.1.1), (A 8, aI ck 40 st.2.1.2.1), (A 9, aI ck 40 st.2.1.2.2.1)]
abbrev AA (A : Nat → Nat) : List Nat := [A 0, A 1, A 2, A 3, A 4, A 5, A 6, A 7, A 8, A 9]
def zdig (x : Int32) : Bool := !decide (x < 48) && !decide (57 < x)
def zlet (x : Int32) : Bool := !decide (x < 97) && !decide (122 < x)
theorem zdig_1 {x : Int32} (h : x < 48) : ¬ zdig x = true := by simp [zdig, h]
theorem zdig_2 {x : Int32} (h : 57 < x) : ¬ zdig x = true := by simp [zdig, h]
theorem zdig_t {x : Int32} (h : ¬ x < 48) (h2 : ¬ 57 < x) : zdig x = true := by simp [zdig, h, h2]
theorem zlet_1 {x : Int32} (h : x < 97) : ¬ zlet x = true := by simp [zlet, h]
theorem zlet_2 {x : Int32} (h : 122 < x) : ¬ zlet x = true := by simp [zlet, h]
theorem zlet_t {x : Int32} (h : ¬ x < 97) (h2 : ¬ 122 < x) : zlet x = true := by simp [zlet, h, h2]
/-- as long as the signs are of a kind -/
def zsk (P : Int32 → Bool) (g : Nat → Int32) (len : Nat) : Nat → Int32 → Int32
  | 0, p => p
  | n + 1, p => if P (sgv g len p) = true then zsk P g len n (p + 1) else p
def zbl (x : Int32) : Bool := decide (x = 32)
/-- digits: how far, and their number (the first 'most' of them) -/
def znum (most : Int32) (g : Nat → Int32) (len : Nat) : Nat → Nat → Int32 → Int32 → Int32 × Int32
  | 0, _, p, tv => (p, tv)
  | n + 1, i, p, tv => if zdig (sgv g len p) = true then znum most g len n (i + 1) (p + 1) (if most ≤ nI i then tv else tv * 10 + sgv g len p - 48) else (p, tv)
/-- Reader.readNumber: whether, and the ints behind it -/
def zNum (g : Nat → Int32) (len : Nat) (most : Int32) (q : Nat → Int32) : Bool × (Nat → Int32) :=
  (decide (q 10 < (znum most g len 200 0 (q 10) 0).1) && !decide (most < (znum most g len 200 0 (q 10) 0).1 - q 10), upd (upd q 13 (znum most g len 200 0 (q 10) 0).2) 10 (znum most g len 200 0 (q 10) 0).1)
theorem zNum_1 {g : Nat → Int32} {len : Nat} {most p tv : Int32} {q : Nat → Int32} (hz : znum most g len 200 0 (q 10) 0 = (p, tv)) (h : p ≤ q 10) : (zNum g len most q).1 = false := by
  simp only [zNum, hz]
  rw [decide_eq_false (Int32.not_lt.mpr h)]
  rfl
theorem zNum_2 {g : Nat → Int32} {len : Nat} {most p tv : Int32} {q : Nat → Int32} (hz : znum most g len 200 0 (q 10) 0 = (p, tv)) (h : most < p - q 10) : (zNum g len most q).1 = false := by
  simp only [zNum, hz]
  rw [decide_eq_true h]
  simp
theorem zNum_3 {g : Nat → Int32} {len : Nat} {most p tv : Int32} {q : Nat → Int32} (hz : znum most g len 200 0 (q 10) 0 = (p, tv)) (h : ¬ p ≤ q 10) (h2 : ¬ most < p - q 10) : (zNum g len most q).1 = true := by
  simp only [zNum, hz]
  rw [decide_eq_true (Int32.not_le.mp h), decide_eq_false h2]
  rfl
theorem zNum_q {g : Nat → Int32} {len : Nat} {most p tv : Int32} {q : Nat → Int32} (hz : znum most g len 200 0 (q 10) 0 = (p, tv)) : (zNum g len most q).2 = upd (upd q 13 tv) 10 p := by
  simp only [zNum, hz]
/-- the first k signs of the token are the literal's -/
def zwk (g : Nat → Int32) (len : Nat) (ts : Int32) (l : List Int32) : Nat → Bool
  | 0 => true
  | k + 1 => zwk g len ts l k && decide (sgv g len (ts + nI k) = l.getD k 0)
theorem zwk_no {g : Nat → Int32} {len : Nat} {ts : Int32} {l : List Int32} {k n : Nat} (h : zwk g len ts l k = false) (hk : k ≤ n) : zwk g len ts l n = false := by
  induction n with
  | zero => rw [show k = 0 by omega] at h; exact h
  | succ n ih =>
    by_cases e : k = n + 1
    · rw [← e]; exact h
    · rw [zwk, ih (by omega)]; rfl
def zwd (g : Nat → Int32) (len : Nat) (q : Nat → Int32) (j : Nat) : Bool := decide (q 10 - q 12 = nI (zSb j).length) && zwk g len (q 12) (zSb j) (zSb j).length
/-- Reader.goDeeper, beginLevel, endLevel -/
def rGo (st : RSt) : Int32 × RSt := if st.1 6 < 10 then (1, (upd st.1 6 (st.1 6 + 1), st.2)) else (0, st)
def rBeg (nx : Int32) (st : RSt) : Int32 × RSt := if nx < 0 then (0, st) else if nx < 11 then (1, (upd (upd st.1 5 nx) 9 0, st.2.1, upd st.2.2.1 nx.toNatClampNeg (nI st.2.1.2.2.2), upd st.2.2.2.1 nx.toNatClampNeg (nI st.2.1.2.2.2), upd st.2.2.2.2 nx.toNatClampNeg (st.1 6))) else (0, st)
def rEnd (st : RSt) : Int32 × RSt := if st.1 5 < 1 then (0, st) else if st.1 5 < 11 then (1, (upd (upd st.1 5 (st.1 5 - 1)) 9 5, st.2)) else (0, st)
/-- Reader.kindOfToken -/
def rKind (st : RSt) : Int32 := zix (((st.1 11).toUInt32 % 65536).toInt32) (zSb 6) 0
section
variable {l : Launch} {D : va_G} {ck : Nat → ClassId} {ad : (Nat → Nat) × (Nat → Nat)} {b0 N : Nat} {f : Nat → va_E}
variable {A : Nat → Nat} {g : Nat → Int32} {len : Nat} {st : RSt}
theorem d_Rdr_isDigit_0 : decode prog_4_method_19_code 0 = .ok (.iload_n 0, 1) := by decide +kernel
theorem d_Rdr_isDigit_1 : decode prog_4_method_19_code 1 = .ok (.bipush 48, 2) := by decide +kernel
theorem d_Rdr_isDigit_3 : decode prog_4_method_19_code 3 = .ok (.if_icmp .lt 13, 3) := by decide +kernel
theorem d_Rdr_isDigit_6 : decode prog_4_method_19_code 6 = .ok (.iload_n 0, 1) := by decide +kernel
theorem d_Rdr_isDigit_7 : decode prog_4_method_19_code 7 = .ok (.bipush 57, 2) := by decide +kernel
theorem d_Rdr_isDigit_9 : decode prog_4_method_19_code 9 = .ok (.if_icmp .gt 7, 3) := by decide +kernel
theorem d_Rdr_isDigit_12 : decode prog_4_method_19_code 12 = .ok (.iconst 1, 1) := by decide +kernel
theorem d_Rdr_isDigit_13 : decode prog_4_method_19_code 13 = .ok (.goto 4, 3) := by decide +kernel
theorem d_Rdr_isDigit_16 : decode prog_4_method_19_code 16 = .ok (.iconst 0, 1) := by decide +kernel
theorem d_Rdr_isDigit_17 : decode prog_4_method_19_code 17 = .ok (.ireturn, 1) := by decide +kernel
set_option maxHeartbeats 4000000 in
set_option maxRecDepth 100000 in
theorem c_Rdr_isDigit {x : Int32} : zK l D ck ad b0 y_Rdr_isDigit prog_4_method_19_code 1 ((some FieldType.boolean)) 0 0 0 [.int x] N f (fun r N' f' => r = some (.int (if zdig x = true then 1 else 0)) ∧ N = N' ∧ f = f') := by
  refine zM.of zG_w (by decide) (Nat.le_of_ble_eq_true rfl) ?_
  intro zp ze zst zm zar zbe zme zc X hnm hb0
  refine z_iload_n X d_Rdr_isDigit_0 rfl ?_
  refine z_bipush X d_Rdr_isDigit_1 (v := 48) (by decide) ?_
  refine z_icmp_lt X 16 d_Rdr_isDigit_3 (by decide) (fun h3 => ?_) (fun h3 => ?_)
  · skip
    refine z_iconst X d_Rdr_isDigit_16 (v := 0) (by decide) ?_
    exact z_zret X d_Rdr_isDigit_17 rfl ⟨by first | rw [if_neg (zdig_1 h3)] | rw [if_neg (zdig_2 h9)] | rw [if_pos (zdig_t h3 h9)], rfl, rfl⟩
  · skip
    refine z_iload_n X d_Rdr_isDigit_6 rfl ?_
    refine z_bipush X d_Rdr_isDigit_7 (v := 57) (by decide) ?_
    refine z_icmp_gt X 16 d_Rdr_isDigit_9 (by decide) (fun h9 => ?_) (fun h9 => ?_)
    · skip
      refine z_iconst X d_Rdr_isDigit_16 (v := 0) (by decide) ?_
      exact z_zret X d_Rdr_isDigit_17 rfl ⟨by first | rw [if_neg (zdig_1 h3)] | rw [if_neg (zdig_2 h9)] | rw [if_pos (zdig_t h3 h9)], rfl, rfl⟩
    · skip
      refine z_iconst X d_Rdr_isDigit_12 (v := 1) (by decide) ?_
      refine z_goto X 17 d_Rdr_isDigit_13 (by decide) ?_
      exact z_zret X d_Rdr_isDigit_17 rfl ⟨by first | rw [if_neg (zdig_1 h3)] | rw [if_neg (zdig_2 h9)] | rw [if_pos (zdig_t h3 h9)], rfl, rfl⟩
theorem d_Rdr_isLetter_0 : decode prog_4_method_20_code 0 = .ok (.iload_n 0, 1) := by decide +kernel
theorem d_Rdr_isLetter_1 : decode prog_4_method_20_code 1 = .ok (.bipush 97, 2) := by decide +kernel
theorem d_Rdr_isLetter_3 : decode prog_4_method_20_code 3 = .ok (.if_icmp .lt 13, 3) := by decide +kernel
theorem d_Rdr_isLetter_6 : decode prog_4_method_20_code 6 = .ok (.iload_n 0, 1) := by decide +kernel
theorem d_Rdr_isLetter_7 : decode prog_4_method_20_code 7 = .ok (.bipush 122, 2) := by decide +kernel
theorem d_Rdr_isLetter_9 : decode prog_4_method_20_code 9 = .ok (.if_icmp .gt 7, 3) := by decide +kernel
theorem d_Rdr_isLetter_12 : decode prog_4_method_20_code 12 = .ok (.iconst 1, 1) := by decide +kernel
theorem d_Rdr_isLetter_13 : decode prog_4_method_20_code 13 = .ok (.goto 4, 3) := by decide +kernel
theorem d_Rdr_isLetter_16 : decode prog_4_method_20_code 16 = .ok (.iconst 0, 1) := by decide +kernel
theorem d_Rdr_isLetter_17 : decode prog_4_method_20_code 17 = .ok (.ireturn, 1) := by decide +kernel
set_option maxHeartbeats 4000000 in
set_option maxRecDepth 100000 in
theorem c_Rdr_isLetter {x : Int32} : zK l D ck ad b0 y_Rdr_isLetter prog_4_method_20_code 1 ((some FieldType.boolean)) 0 0 0 [.int x] N f (fun r N' f' => r = some (.int (if zlet x = true then 1 else 0)) ∧ N = N' ∧ f = f') := by
  refine zM.of zG_w (by decide) (Nat.le_of_ble_eq_true rfl) ?_
  intro zp ze zst zm zar zbe zme zc X hnm hb0
  refine z_iload_n X d_Rdr_isLetter_0 rfl ?_
  refine z_bipush X d_Rdr_isLetter_1 (v := 97) (by decide) ?_
  refine z_icmp_lt X 16 d_Rdr_isLetter_3 (by decide) (fun h3 => ?_) (fun h3 => ?_)
  · skip
    refine z_iconst X d_Rdr_isLetter_16 (v := 0) (by decide) ?_
    exact z_zret X d_Rdr_isLetter_17 rfl ⟨by first | rw [if_neg (zlet_1 h3)] | rw [if_neg (zlet_2 h9)] | rw [if_pos (zlet_t h3 h9)], rfl, rfl⟩
  · skip
    refine z_iload_n X d_Rdr_isLetter_6 rfl ?_
    refine z_bipush X d_Rdr_isLetter_7 (v := 122) (by decide) ?_
    refine z_icmp_gt X 16 d_Rdr_isLetter_9 (by decide) (fun h9 => ?_) (fun h9 => ?_)
    · skip
      refine z_iconst X d_Rdr_isLetter_16 (v := 0) (by decide) ?_
      exact z_zret X d_Rdr_isLetter_17 rfl ⟨by first | rw [if_neg (zlet_1 h3)] | rw [if_neg (zlet_2 h9)] | rw [if_pos (zlet_t h3 h9)], rfl, rfl⟩
    · skip
      refine z_iconst X d_Rdr_isLetter_12 (v := 1) (by decide) ?_
      refine z_goto X 17 d_Rdr_isLetter_13 (by decide) ?_
      exact z_zret X d_Rdr_isLetter_17 rfl ⟨by first | rw [if_neg (zlet_1 h3)] | rw [if_neg (zlet_2 h9)] | rw [if_pos (zlet_t h3 h9)], rfl, rfl⟩
theorem d_Rdr_goDeeper_0 : decode prog_4_method_12_code 0 = .ok (.aload_n 0, 1) := by decide +kernel
theorem d_Rdr_goDeeper_1 : decode prog_4_method_12_code 1 = .ok (.getfield 46, 3) := by decide +kernel
theorem d_Rdr_goDeeper_4 : decode prog_4_method_12_code 4 = .ok (.bipush 10, 2) := by decide +kernel
theorem d_Rdr_goDeeper_6 : decode prog_4_method_12_code 6 = .ok (.if_icmp .lt 5, 3) := by decide +kernel
theorem d_Rdr_goDeeper_9 : decode prog_4_method_12_code 9 = .ok (.iconst 0, 1) := by decide +kernel
theorem d_Rdr_goDeeper_10 : decode prog_4_method_12_code 10 = .ok (.ireturn, 1) := by decide +kernel
theorem d_Rdr_goDeeper_11 : decode prog_4_method_12_code 11 = .ok (.aload_n 0, 1) := by decide +kernel
theorem d_Rdr_goDeeper_12 : decode prog_4_method_12_code 12 = .ok (.dup, 1) := by decide +kernel
theorem d_Rdr_goDeeper_13 : decode prog_4_method_12_code 13 = .ok (.getfield 46, 3) := by decide +kernel
theorem d_Rdr_goDeeper_16 : decode prog_4_method_12_code 16 = .ok (.iconst 1, 1) := by decide +kernel
theorem d_Rdr_goDeeper_17 : decode prog_4_method_12_code 17 = .ok (.iadd, 1) := by decide +kernel
theorem d_Rdr_goDeeper_18 : decode prog_4_method_12_code 18 = .ok (.putfield 46, 3) := by decide +kernel
theorem d_Rdr_goDeeper_21 : decode prog_4_method_12_code 21 = .ok (.iconst 1, 1) := by decide +kernel
theorem d_Rdr_goDeeper_22 : decode prog_4_method_12_code 22 = .ok (.ireturn, 1) := by decide +kernel
set_option maxHeartbeats 4000000 in
set_option maxRecDepth 100000 in
theorem c_Rdr_goDeeper (hP : zP b0 N f (wRdr ck A g len st)) : zK l D ck ad b0 y_Rdr_goDeeper prog_4_method_12_code 1 ((some FieldType.boolean)) 0 0 0 [.ref (A 0)] N f (fun r N' f' => r = some (.int (rGo st).1) ∧ N = N' ∧ zP b0 N f' (wRdr ck A g len ((rGo st).2)) ∧ zF N f f' (AA A)) := by
  refine zM.of zG_w (by decide) (Nat.le_of_ble_eq_true rfl) ?_
  intro zp ze zst zm zar zbe zme zc X hnm hb0
  have hF : zF N f f (AA A) := zF.rf
  refine z_aload_n X d_Rdr_goDeeper_0 rfl ?_
  refine z_get X d_Rdr_goDeeper_1 (hP.lo 0 rfl) (hP.at 0 rfl) cl_Rdr in_Rdr 6 (by decide) fl_Rdr_46 rfl rfl ?_
  refine z_bipush X d_Rdr_goDeeper_4 (v := 10) (by decide) ?_
  refine z_icmp_lt X 11 d_Rdr_goDeeper_6 (by decide) (fun h6 => ?_) (fun h6 => ?_)
  · skip
    refine z_aload_n X d_Rdr_goDeeper_11 rfl ?_
    refine z_dup X d_Rdr_goDeeper_12 rfl ?_
    refine z_get X d_Rdr_goDeeper_13 (hP.lo 0 rfl) (hP.at 0 rfl) cl_Rdr in_Rdr 6 (by decide) fl_Rdr_46 rfl rfl ?_
    refine z_iconst X d_Rdr_goDeeper_16 (v := 1) (by decide) ?_
    refine z_iadd X d_Rdr_goDeeper_17 ?_
    refine z_putP X t_Rdr ty_Rdr n_Rdr d_Rdr_goDeeper_18 hP 0 rfl cl_Rdr in_Rdr 6 (by decide) fl_Rdr_46 rfl rfl rfl rfl rfl (Nat.le_of_ble_eq_true rfl) (fun hP => ?_)
    have hF := hF.by (by simp) hP
    refine z_iconst X d_Rdr_goDeeper_21 (v := 1) (by decide) ?_
    exact z_zret X d_Rdr_goDeeper_22 rfl ⟨by rw [rGo, if_pos h6], rfl, by rw [rGo, if_pos h6]; exact hP, hF⟩
  · skip
    refine z_iconst X d_Rdr_goDeeper_9 (v := 0) (by decide) ?_
    exact z_zret X d_Rdr_goDeeper_10 rfl ⟨by rw [rGo, if_neg h6], rfl, by rw [rGo, if_neg h6]; exact hP, hF⟩
theorem d_Rdr_beginLevel_0 : decode prog_4_method_13_code 0 = .ok (.iload_n 1, 1) := by decide +kernel
theorem d_Rdr_beginLevel_1 : decode prog_4_method_13_code 1 = .ok (.ifCond .lt 12, 3) := by decide +kernel
theorem d_Rdr_beginLevel_4 : decode prog_4_method_13_code 4 = .ok (.iload_n 1, 1) := by decide +kernel
theorem d_Rdr_beginLevel_5 : decode prog_4_method_13_code 5 = .ok (.aload_n 0, 1) := by decide +kernel
theorem d_Rdr_beginLevel_6 : decode prog_4_method_13_code 6 = .ok (.getfield 32, 3) := by decide +kernel
theorem d_Rdr_beginLevel_9 : decode prog_4_method_13_code 9 = .ok (.arraylength, 1) := by decide +kernel
theorem d_Rdr_beginLevel_10 : decode prog_4_method_13_code 10 = .ok (.if_icmp .lt 5, 3) := by decide +kernel
theorem d_Rdr_beginLevel_13 : decode prog_4_method_13_code 13 = .ok (.iconst 0, 1) := by decide +kernel
theorem d_Rdr_beginLevel_14 : decode prog_4_method_13_code 14 = .ok (.ireturn, 1) := by decide +kernel
theorem d_Rdr_beginLevel_15 : decode prog_4_method_13_code 15 = .ok (.aload_n 0, 1) := by decide +kernel
theorem d_Rdr_beginLevel_16 : decode prog_4_method_13_code 16 = .ok (.iload_n 1, 1) := by decide +kernel
theorem d_Rdr_beginLevel_17 : decode prog_4_method_13_code 17 = .ok (.putfield 72, 3) := by decide +kernel
theorem d_Rdr_beginLevel_20 : decode prog_4_method_13_code 20 = .ok (.aload_n 0, 1) := by decide +kernel
theorem d_Rdr_beginLevel_21 : decode prog_4_method_13_code 21 = .ok (.getfield 25, 3) := by decide +kernel
theorem d_Rdr_beginLevel_24 : decode prog_4_method_13_code 24 = .ok (.iload_n 1, 1) := by decide +kernel
theorem d_Rdr_beginLevel_25 : decode prog_4_method_13_code 25 = .ok (.aload_n 0, 1) := by decide +kernel
theorem d_Rdr_beginLevel_26 : decode prog_4_method_13_code 26 = .ok (.getfield 21, 3) := by decide +kernel
theorem d_Rdr_beginLevel_29 : decode prog_4_method_13_code 29 = .ok (.invokevirtual 98, 3) := by decide +kernel
theorem d_Rdr_beginLevel_32 : decode prog_4_method_13_code 32 = .ok (.iastore, 1) := by decide +kernel
theorem d_Rdr_beginLevel_33 : decode prog_4_method_13_code 33 = .ok (.aload_n 0, 1) := by decide +kernel
theorem d_Rdr_beginLevel_34 : decode prog_4_method_13_code 34 = .ok (.getfield 29, 3) := by decide +kernel
theorem d_Rdr_beginLevel_37 : decode prog_4_method_13_code 37 = .ok (.iload_n 1, 1) := by decide +kernel
theorem d_Rdr_beginLevel_38 : decode prog_4_method_13_code 38 = .ok (.aload_n 0, 1) := by decide +kernel
theorem d_Rdr_beginLevel_39 : decode prog_4_method_13_code 39 = .ok (.getfield 21, 3) := by decide +kernel
theorem d_Rdr_beginLevel_42 : decode prog_4_method_13_code 42 = .ok (.invokevirtual 98, 3) := by decide +kernel
theorem d_Rdr_beginLevel_45 : decode prog_4_method_13_code 45 = .ok (.iastore, 1) := by decide +kernel
theorem d_Rdr_beginLevel_46 : decode prog_4_method_13_code 46 = .ok (.aload_n 0, 1) := by decide +kernel
theorem d_Rdr_beginLevel_47 : decode prog_4_method_13_code 47 = .ok (.getfield 32, 3) := by decide +kernel
theorem d_Rdr_beginLevel_50 : decode prog_4_method_13_code 50 = .ok (.iload_n 1, 1) := by decide +kernel
theorem d_Rdr_beginLevel_51 : decode prog_4_method_13_code 51 = .ok (.aload_n 0, 1) := by decide +kernel
theorem d_Rdr_beginLevel_52 : decode prog_4_method_13_code 52 = .ok (.getfield 46, 3) := by decide +kernel
theorem d_Rdr_beginLevel_55 : decode prog_4_method_13_code 55 = .ok (.iastore, 1) := by decide +kernel
theorem d_Rdr_beginLevel_56 : decode prog_4_method_13_code 56 = .ok (.aload_n 0, 1) := by decide +kernel
theorem d_Rdr_beginLevel_57 : decode prog_4_method_13_code 57 = .ok (.iconst 0, 1) := by decide +kernel
theorem d_Rdr_beginLevel_58 : decode prog_4_method_13_code 58 = .ok (.putfield 66, 3) := by decide +kernel
theorem d_Rdr_beginLevel_61 : decode prog_4_method_13_code 61 = .ok (.iconst 1, 1) := by decide +kernel
theorem d_Rdr_beginLevel_62 : decode prog_4_method_13_code 62 = .ok (.ireturn, 1) := by decide +kernel
set_option maxHeartbeats 4000000 in
set_option maxRecDepth 100000 in
theorem c_Rdr_beginLevel (hP : zP b0 N f (wRdr ck A g len st)) {nx : Int32} : zK l D ck ad b0 y_Rdr_beginLevel prog_4_method_13_code 2 ((some FieldType.boolean)) 1 0 0 [.ref (A 0), .int nx] N f (fun r N' f' => r = some (.int (rBeg nx st).1) ∧ N = N' ∧ zP b0 N f' (wRdr ck A g len ((rBeg nx st).2)) ∧ zF N f f' (AA A)) := by
  refine zM.of zG_w (by decide) (Nat.le_of_ble_eq_true rfl) ?_
  intro zp ze zst zm zar zbe zme zc X hnm hb0
  have hF : zF N f f (AA A) := zF.rf
  refine z_iload_n X d_Rdr_beginLevel_0 rfl ?_
  refine z_if_lt X 13 d_Rdr_beginLevel_1 (by decide) (fun h1 => ?_) (fun h1 => ?_)
  · skip
    refine z_iconst X d_Rdr_beginLevel_13 (v := 0) (by decide) ?_
    exact z_zret X d_Rdr_beginLevel_14 rfl ⟨by first | rw [rBeg, if_pos h1] | rw [rBeg, if_neg h1, if_neg h10], rfl, by first | (rw [rBeg, if_pos h1]; exact hP) | (rw [rBeg, if_neg h1, if_neg h10]; exact hP), hF⟩
  · skip
    refine z_iload_n X d_Rdr_beginLevel_4 rfl ?_
    refine z_aload_n X d_Rdr_beginLevel_5 rfl ?_
    refine z_get X d_Rdr_beginLevel_6 (hP.lo 0 rfl) (hP.at 0 rfl) cl_Rdr in_Rdr 4 (by decide) fl_Rdr_32 rfl rfl ?_
    refine z_alen X d_Rdr_beginLevel_9 (hP.lo 5 rfl) (hP.at 5 rfl) (t0 := 0) rfl rfl ?_
    refine z_icmp_lt X 15 d_Rdr_beginLevel_10 (by decide) (fun h10 => ?_) (fun h10 => ?_)
    · skip
      have h10 : nx < 11 := h10
      refine z_aload_n X d_Rdr_beginLevel_15 rfl ?_
      refine z_iload_n X d_Rdr_beginLevel_16 rfl ?_
      refine z_putP X t_Rdr ty_Rdr n_Rdr d_Rdr_beginLevel_17 hP 0 rfl cl_Rdr in_Rdr 5 (by decide) fl_Rdr_72 rfl rfl rfl rfl rfl (Nat.le_of_ble_eq_true rfl) (fun hP => ?_)
      have hF := hF.by (by simp) hP
      refine z_aload_n X d_Rdr_beginLevel_20 rfl ?_
      refine z_get X d_Rdr_beginLevel_21 (hP.lo 0 rfl) (hP.at 0 rfl) cl_Rdr in_Rdr 2 (by decide) fl_Rdr_25 rfl rfl ?_
      refine z_iload_n X d_Rdr_beginLevel_24 rfl ?_
      refine z_aload_n X d_Rdr_beginLevel_25 rfl ?_
      refine z_get X d_Rdr_beginLevel_26 (hP.lo 0 rfl) (hP.at 0 rfl) cl_Rdr in_Rdr 1 (by decide) fl_Rdr_21 rfl rfl ?_
      refine z_callV X zG_ok (c_Tre_size (hP.sub [6, 7, 8, 9] (by decide) rfl)) d_Rdr_beginLevel_29 ⟨(z_cb (n := 0) X.2.2.2.2.1 ml_Rdr_98 mc_Tre_size ini_Tre (by decide +kernel) rfl rfl ⟨Nat.le_of_ble_eq_true rfl, Nat.le_of_ble_eq_true rfl⟩), X.2.2.2.2.1 _ im_Tre_size, X.2.2.2.2.1 _ sel_Tre_size⟩ (hP.lo 6 rfl) (hP.at 6 rfl) cl_Tre rfl rfl (Nat.le_of_ble_eq_true rfl) ⟨Nat.le_of_ble_eq_true rfl, Nat.le_of_ble_eq_true rfl⟩ (fun r N1 f1 hp hN1 => ?_)
      obtain ⟨rfl, rfl, rfl⟩ := hp
      refine z_iastP X d_Rdr_beginLevel_32 hP 3 rfl (t0 := 0) rfl (by rw [vp_in_iff]; have a1 := Int32.not_lt.mp h1; rw [Int32.le_iff_toInt_le] at a1; have a2 := h10; rw [Int32.lt_iff_toInt_lt] at a2; simp at a1; exact ⟨a1, a2⟩) (fun hP => ?_)
      have hF := hF.by (by simp) hP
      refine z_aload_n X d_Rdr_beginLevel_33 rfl ?_
      refine z_get X d_Rdr_beginLevel_34 (hP.lo 0 rfl) (hP.at 0 rfl) cl_Rdr in_Rdr 3 (by decide) fl_Rdr_29 rfl rfl ?_
      refine z_iload_n X d_Rdr_beginLevel_37 rfl ?_
      refine z_aload_n X d_Rdr_beginLevel_38 rfl ?_
      refine z_get X d_Rdr_beginLevel_39 (hP.lo 0 rfl) (hP.at 0 rfl) cl_Rdr in_Rdr 1 (by decide) fl_Rdr_21 rfl rfl ?_
      refine z_callV X zG_ok (c_Tre_size (hP.sub [6, 7, 8, 9] (by decide) rfl)) d_Rdr_beginLevel_42 ⟨(z_cb (n := 0) X.2.2.2.2.1 ml_Rdr_98 mc_Tre_size ini_Tre (by decide +kernel) rfl rfl ⟨Nat.le_of_ble_eq_true rfl, Nat.le_of_ble_eq_true rfl⟩), X.2.2.2.2.1 _ im_Tre_size, X.2.2.2.2.1 _ sel_Tre_size⟩ (hP.lo 6 rfl) (hP.at 6 rfl) cl_Tre rfl rfl (Nat.le_of_ble_eq_true rfl) ⟨Nat.le_of_ble_eq_true rfl, Nat.le_of_ble_eq_true rfl⟩ (fun r N1 f1 hp hN1 => ?_)
      obtain ⟨rfl, rfl, rfl⟩ := hp
      refine z_iastP X d_Rdr_beginLevel_45 hP 4 rfl (t0 := 0) rfl (by rw [vp_in_iff]; have a1 := Int32.not_lt.mp h1; rw [Int32.le_iff_toInt_le] at a1; have a2 := h10; rw [Int32.lt_iff_toInt_lt] at a2; simp at a1; exact ⟨a1, a2⟩) (fun hP => ?_)
      have hF := hF.by (by simp) hP
      refine z_aload_n X d_Rdr_beginLevel_46 rfl ?_
      refine z_get X d_Rdr_beginLevel_47 (hP.lo 0 rfl) (hP.at 0 rfl) cl_Rdr in_Rdr 4 (by decide) fl_Rdr_32 rfl rfl ?_
      refine z_iload_n X d_Rdr_beginLevel_50 rfl ?_
      refine z_aload_n X d_Rdr_beginLevel_51 rfl ?_
      refine z_get X d_Rdr_beginLevel_52 (hP.lo 0 rfl) (hP.at 0 rfl) cl_Rdr in_Rdr 6 (by decide) fl_Rdr_46 rfl rfl ?_
      refine z_iastP X d_Rdr_beginLevel_55 hP 5 rfl (t0 := 0) rfl (by rw [vp_in_iff]; have a1 := Int32.not_lt.mp h1; rw [Int32.le_iff_toInt_le] at a1; have a2 := h10; rw [Int32.lt_iff_toInt_lt] at a2; simp at a1; exact ⟨a1, a2⟩) (fun hP => ?_)
      have hF := hF.by (by simp) hP
      refine z_aload_n X d_Rdr_beginLevel_56 rfl ?_
      refine z_iconst X d_Rdr_beginLevel_57 (v := 0) (by decide) ?_
      refine z_putP X t_Rdr ty_Rdr n_Rdr d_Rdr_beginLevel_58 hP 0 rfl cl_Rdr in_Rdr 9 (by decide) fl_Rdr_66 rfl rfl rfl rfl rfl (Nat.le_of_ble_eq_true rfl) (fun hP => ?_)
      have hF := hF.by (by simp) hP
      refine z_iconst X d_Rdr_beginLevel_61 (v := 1) (by decide) ?_
      exact z_zret X d_Rdr_beginLevel_62 rfl ⟨by rw [rBeg, if_neg h1, if_pos h10], rfl, by rw [rBeg, if_neg h1, if_pos h10]; exact hP, hF⟩
    · skip
      have h10 : ¬ nx < 11 := h10
      refine z_iconst X d_Rdr_beginLevel_13 (v := 0) (by decide) ?_
      exact z_zret X d_Rdr_beginLevel_14 rfl ⟨by first | rw [rBeg, if_pos h1] | rw [rBeg, if_neg h1, if_neg h10], rfl, by first | (rw [rBeg, if_pos h1]; exact hP) | (rw [rBeg, if_neg h1, if_neg h10]; exact hP), hF⟩
theorem d_Rdr_endLevel_0 : decode prog_4_method_14_code 0 = .ok (.aload_n 0, 1) := by decide +kernel
theorem d_Rdr_endLevel_1 : decode prog_4_method_14_code 1 = .ok (.getfield 72, 3) := by decide +kernel
theorem d_Rdr_endLevel_4 : decode prog_4_method_14_code 4 = .ok (.iconst 1, 1) := by decide +kernel
theorem d_Rdr_endLevel_5 : decode prog_4_method_14_code 5 = .ok (.if_icmp .lt 15, 3) := by decide +kernel
theorem d_Rdr_endLevel_8 : decode prog_4_method_14_code 8 = .ok (.aload_n 0, 1) := by decide +kernel
theorem d_Rdr_endLevel_9 : decode prog_4_method_14_code 9 = .ok (.getfield 72, 3) := by decide +kernel
theorem d_Rdr_endLevel_12 : decode prog_4_method_14_code 12 = .ok (.aload_n 0, 1) := by decide +kernel
theorem d_Rdr_endLevel_13 : decode prog_4_method_14_code 13 = .ok (.getfield 32, 3) := by decide +kernel
theorem d_Rdr_endLevel_16 : decode prog_4_method_14_code 16 = .ok (.arraylength, 1) := by decide +kernel
theorem d_Rdr_endLevel_17 : decode prog_4_method_14_code 17 = .ok (.if_icmp .lt 5, 3) := by decide +kernel
theorem d_Rdr_endLevel_20 : decode prog_4_method_14_code 20 = .ok (.iconst 0, 1) := by decide +kernel
theorem d_Rdr_endLevel_21 : decode prog_4_method_14_code 21 = .ok (.ireturn, 1) := by decide +kernel
theorem d_Rdr_endLevel_22 : decode prog_4_method_14_code 22 = .ok (.aload_n 0, 1) := by decide +kernel
theorem d_Rdr_endLevel_23 : decode prog_4_method_14_code 23 = .ok (.dup, 1) := by decide +kernel
theorem d_Rdr_endLevel_24 : decode prog_4_method_14_code 24 = .ok (.getfield 72, 3) := by decide +kernel
theorem d_Rdr_endLevel_27 : decode prog_4_method_14_code 27 = .ok (.iconst 1, 1) := by decide +kernel
theorem d_Rdr_endLevel_28 : decode prog_4_method_14_code 28 = .ok (.isub, 1) := by decide +kernel
theorem d_Rdr_endLevel_29 : decode prog_4_method_14_code 29 = .ok (.putfield 72, 3) := by decide +kernel
theorem d_Rdr_endLevel_32 : decode prog_4_method_14_code 32 = .ok (.aload_n 0, 1) := by decide +kernel
theorem d_Rdr_endLevel_33 : decode prog_4_method_14_code 33 = .ok (.iconst 5, 1) := by decide +kernel
theorem d_Rdr_endLevel_34 : decode prog_4_method_14_code 34 = .ok (.putfield 66, 3) := by decide +kernel
theorem d_Rdr_endLevel_37 : decode prog_4_method_14_code 37 = .ok (.iconst 1, 1) := by decide +kernel
theorem d_Rdr_endLevel_38 : decode prog_4_method_14_code 38 = .ok (.ireturn, 1) := by decide +kernel
set_option maxHeartbeats 4000000 in
set_option maxRecDepth 100000 in
theorem c_Rdr_endLevel (hP : zP b0 N f (wRdr ck A g len st)) : zK l D ck ad b0 y_Rdr_endLevel prog_4_method_14_code 1 ((some FieldType.boolean)) 0 0 0 [.ref (A 0)] N f (fun r N' f' => r = some (.int (rEnd st).1) ∧ N = N' ∧ zP b0 N f' (wRdr ck A g len ((rEnd st).2)) ∧ zF N f f' (AA A)) := by
  refine zM.of zG_w (by decide) (Nat.le_of_ble_eq_true rfl) ?_
  intro zp ze zst zm zar zbe zme zc X hnm hb0
  have hF : zF N f f (AA A) := zF.rf
  refine z_aload_n X d_Rdr_endLevel_0 rfl ?_
  refine z_get X d_Rdr_endLevel_1 (hP.lo 0 rfl) (hP.at 0 rfl) cl_Rdr in_Rdr 5 (by decide) fl_Rdr_72 rfl rfl ?_
  refine z_iconst X d_Rdr_endLevel_4 (v := 1) (by decide) ?_
  refine z_icmp_lt X 20 d_Rdr_endLevel_5 (by decide) (fun h5 => ?_) (fun h5 => ?_)
  · skip
    refine z_iconst X d_Rdr_endLevel_20 (v := 0) (by decide) ?_
    exact z_zret X d_Rdr_endLevel_21 rfl ⟨by first | rw [rEnd, if_pos h5] | rw [rEnd, if_neg h5, if_neg h17], rfl, by first | (rw [rEnd, if_pos h5]; exact hP) | (rw [rEnd, if_neg h5, if_neg h17]; exact hP), hF⟩
  · skip
    refine z_aload_n X d_Rdr_endLevel_8 rfl ?_
    refine z_get X d_Rdr_endLevel_9 (hP.lo 0 rfl) (hP.at 0 rfl) cl_Rdr in_Rdr 5 (by decide) fl_Rdr_72 rfl rfl ?_
    refine z_aload_n X d_Rdr_endLevel_12 rfl ?_
    refine z_get X d_Rdr_endLevel_13 (hP.lo 0 rfl) (hP.at 0 rfl) cl_Rdr in_Rdr 4 (by decide) fl_Rdr_32 rfl rfl ?_
    refine z_alen X d_Rdr_endLevel_16 (hP.lo 5 rfl) (hP.at 5 rfl) (t0 := 0) rfl rfl ?_
    refine z_icmp_lt X 22 d_Rdr_endLevel_17 (by decide) (fun h17 => ?_) (fun h17 => ?_)
    · skip
      have h17 : st.1 5 < 11 := h17
      refine z_aload_n X d_Rdr_endLevel_22 rfl ?_
      refine z_dup X d_Rdr_endLevel_23 rfl ?_
      refine z_get X d_Rdr_endLevel_24 (hP.lo 0 rfl) (hP.at 0 rfl) cl_Rdr in_Rdr 5 (by decide) fl_Rdr_72 rfl rfl ?_
      refine z_iconst X d_Rdr_endLevel_27 (v := 1) (by decide) ?_
      refine z_isub X d_Rdr_endLevel_28 ?_
      refine z_putP X t_Rdr ty_Rdr n_Rdr d_Rdr_endLevel_29 hP 0 rfl cl_Rdr in_Rdr 5 (by decide) fl_Rdr_72 rfl rfl rfl rfl rfl (Nat.le_of_ble_eq_true rfl) (fun hP => ?_)
      have hF := hF.by (by simp) hP
      refine z_aload_n X d_Rdr_endLevel_32 rfl ?_
      refine z_iconst X d_Rdr_endLevel_33 (v := 5) (by decide) ?_
      refine z_putP X t_Rdr ty_Rdr n_Rdr d_Rdr_endLevel_34 hP 0 rfl cl_Rdr in_Rdr 9 (by decide) fl_Rdr_66 rfl rfl rfl rfl rfl (Nat.le_of_ble_eq_true rfl) (fun hP => ?_)
      have hF := hF.by (by simp) hP
      refine z_iconst X d_Rdr_endLevel_37 (v := 1) (by decide) ?_
      exact z_zret X d_Rdr_endLevel_38 rfl ⟨by rw [rEnd, if_neg h5, if_pos h17], rfl, by rw [rEnd, if_neg h5, if_pos h17]; exact hP, hF⟩
    · skip
      have h17 : ¬ st.1 5 < 11 := h17
      refine z_iconst X d_Rdr_endLevel_20 (v := 0) (by decide) ?_
      exact z_zret X d_Rdr_endLevel_21 rfl ⟨by first | rw [rEnd, if_pos h5] | rw [rEnd, if_neg h5, if_neg h17], rfl, by first | (rw [rEnd, if_pos h5]; exact hP) | (rw [rEnd, if_neg h5, if_neg h17]; exact hP), hF⟩
theorem d_Rdr_kindOfToken_0 : decode prog_4_method_10_code 0 = .ok (.ldc 121, 2) := by decide +kernel
theorem d_Rdr_kindOfToken_2 : decode prog_4_method_10_code 2 = .ok (.aload_n 0, 1) := by decide +kernel
theorem d_Rdr_kindOfToken_3 : decode prog_4_method_10_code 3 = .ok (.getfield 63, 3) := by decide +kernel
theorem d_Rdr_kindOfToken_6 : decode prog_4_method_10_code 6 = .ok (.i2c, 1) := by decide +kernel
theorem d_Rdr_kindOfToken_7 : decode prog_4_method_10_code 7 = .ok (.invokevirtual 123, 3) := by decide +kernel
theorem d_Rdr_kindOfToken_10 : decode prog_4_method_10_code 10 = .ok (.ireturn, 1) := by decide +kernel
set_option maxHeartbeats 4000000 in
set_option maxRecDepth 100000 in
theorem c_Rdr_kindOfToken (hP : zP b0 N f (wRdr ck A g len st)) : zK l D ck ad b0 y_Rdr_kindOfToken prog_4_method_10_code 1 ((some FieldType.int)) 4 0 0 [.ref (A 0)] N f (fun r N' f' => r = some (.int (rKind st)) ∧ N = N' ∧ f = f') := by
  refine zM.of zG_w (by decide) (Nat.le_of_ble_eq_true rfl) ?_
  intro zp ze zst zm zar zbe zme zc X hnm hb0
  refine z_ldcS X d_Rdr_kindOfToken_0 (zG_sr (j := 6) X.2.2.2.2.2.1 (by decide)) ?_
  refine z_aload_n X d_Rdr_kindOfToken_2 rfl ?_
  refine z_get X d_Rdr_kindOfToken_3 (hP.lo 0 rfl) (hP.at 0 rfl) cl_Rdr in_Rdr 11 (by decide) fl_Rdr_63 rfl rfl ?_
  refine z_i2c X d_Rdr_kindOfToken_6 rfl ?_
  refine z_callVK X zG_ok (c_String_indexOf (j := 6) (by decide)) d_Rdr_kindOfToken_7 ⟨(z_cb (n := 1) X.2.2.2.2.1 ml_Rdr_123 mc_String_indexOf ini_String (by decide +kernel) rfl rfl ⟨Nat.le_of_ble_eq_true rfl, Nat.le_of_ble_eq_true rfl⟩), X.2.2.2.2.1 _ im_String_indexOf, X.2.2.2.2.1 _ sel_String_indexOf⟩ (zG_so (j := 6) X.2.2.2.2.2.1 (by decide)) rfl rfl (Nat.le_of_ble_eq_true rfl) ⟨Nat.le_of_ble_eq_true rfl, Nat.le_of_ble_eq_true rfl⟩ (fun r N1 f1 hp hN1 => ?_)
  obtain ⟨rfl, rfl, rfl⟩ := hp
  exact z_iret X d_Rdr_kindOfToken_10 ⟨rfl, rfl, rfl⟩
theorem d_Rdr_isWord_0 : decode prog_4_method_18_code 0 = .ok (.aload_n 0, 1) := by decide +kernel
theorem d_Rdr_isWord_1 : decode prog_4_method_18_code 1 = .ok (.getfield 42, 3) := by decide +kernel
theorem d_Rdr_isWord_4 : decode prog_4_method_18_code 4 = .ok (.aload_n 0, 1) := by decide +kernel
theorem d_Rdr_isWord_5 : decode prog_4_method_18_code 5 = .ok (.getfield 60, 3) := by decide +kernel
theorem d_Rdr_isWord_8 : decode prog_4_method_18_code 8 = .ok (.isub, 1) := by decide +kernel
theorem d_Rdr_isWord_9 : decode prog_4_method_18_code 9 = .ok (.aload_n 1, 1) := by decide +kernel
theorem d_Rdr_isWord_10 : decode prog_4_method_18_code 10 = .ok (.invokevirtual 161, 3) := by decide +kernel
theorem d_Rdr_isWord_13 : decode prog_4_method_18_code 13 = .ok (.if_icmp .eq 5, 3) := by decide +kernel
theorem d_Rdr_isWord_16 : decode prog_4_method_18_code 16 = .ok (.iconst 0, 1) := by decide +kernel
theorem d_Rdr_isWord_17 : decode prog_4_method_18_code 17 = .ok (.ireturn, 1) := by decide +kernel
theorem d_Rdr_isWord_18 : decode prog_4_method_18_code 18 = .ok (.iconst 0, 1) := by decide +kernel
theorem d_Rdr_isWord_19 : decode prog_4_method_18_code 19 = .ok (.istore_n 2, 1) := by decide +kernel
theorem d_Rdr_isWord_20 : decode prog_4_method_18_code 20 = .ok (.iload_n 2, 1) := by decide +kernel
theorem d_Rdr_isWord_21 : decode prog_4_method_18_code 21 = .ok (.aload_n 1, 1) := by decide +kernel
theorem d_Rdr_isWord_22 : decode prog_4_method_18_code 22 = .ok (.invokevirtual 161, 3) := by decide +kernel
theorem d_Rdr_isWord_25 : decode prog_4_method_18_code 25 = .ok (.if_icmp .ge 32, 3) := by decide +kernel
theorem d_Rdr_isWord_28 : decode prog_4_method_18_code 28 = .ok (.aload_n 0, 1) := by decide +kernel
theorem d_Rdr_isWord_29 : decode prog_4_method_18_code 29 = .ok (.getfield 12, 3) := by decide +kernel
theorem d_Rdr_isWord_32 : decode prog_4_method_18_code 32 = .ok (.aload_n 0, 1) := by decide +kernel
theorem d_Rdr_isWord_33 : decode prog_4_method_18_code 33 = .ok (.getfield 60, 3) := by decide +kernel
theorem d_Rdr_isWord_36 : decode prog_4_method_18_code 36 = .ok (.iload_n 2, 1) := by decide +kernel
theorem d_Rdr_isWord_37 : decode prog_4_method_18_code 37 = .ok (.iadd, 1) := by decide +kernel
theorem d_Rdr_isWord_38 : decode prog_4_method_18_code 38 = .ok (.invokevirtual 132, 3) := by decide +kernel
theorem d_Rdr_isWord_41 : decode prog_4_method_18_code 41 = .ok (.aload_n 1, 1) := by decide +kernel
theorem d_Rdr_isWord_42 : decode prog_4_method_18_code 42 = .ok (.iload_n 2, 1) := by decide +kernel
theorem d_Rdr_isWord_43 : decode prog_4_method_18_code 43 = .ok (.invokevirtual 164, 3) := by decide +kernel
theorem d_Rdr_isWord_46 : decode prog_4_method_18_code 46 = .ok (.if_icmp .eq 5, 3) := by decide +kernel
theorem d_Rdr_isWord_49 : decode prog_4_method_18_code 49 = .ok (.iconst 0, 1) := by decide +kernel
theorem d_Rdr_isWord_50 : decode prog_4_method_18_code 50 = .ok (.ireturn, 1) := by decide +kernel
theorem d_Rdr_isWord_51 : decode prog_4_method_18_code 51 = .ok (.iinc 2 1, 3) := by decide +kernel
theorem d_Rdr_isWord_54 : decode prog_4_method_18_code 54 = .ok (.goto (-34), 3) := by decide +kernel
theorem d_Rdr_isWord_57 : decode prog_4_method_18_code 57 = .ok (.iconst 1, 1) := by decide +kernel
theorem d_Rdr_isWord_58 : decode prog_4_method_18_code 58 = .ok (.ireturn, 1) := by decide +kernel
set_option maxHeartbeats 4000000 in
set_option maxRecDepth 100000 in
theorem c_Rdr_isWord (hP : zP b0 N f (wRdr ck A g len st)) (hlen : len ≤ 200) {j : Nat} (hj : j < 16) : zK l D ck ad b0 y_Rdr_isWord prog_4_method_18_code 3 ((some FieldType.boolean)) 4 0 0 [.ref (A 0), .ref (ad.1 j)] N f (fun r N' f' => r = some (.int (if zwd g len st.1 j = true then 1 else 0)) ∧ N = N' ∧ f = f') := by
  refine zM.of zG_w (by decide) (Nat.le_of_ble_eq_true rfl) ?_
  intro zp ze zst zm zar zbe zme zc X hnm hb0
  have hl9 := (zSb_ok j hj).1
  have L20 : ∀ (nn : Nat) (k : Nat), (k ≤ (zSb j).length ∧ k + nn = (zSb j).length + 1) → (st.1 10 - st.1 12 = nI (zSb j).length) → zwk g len (st.1 12) (zSb j) k = true → zW zp l ze (zR 4 0 0) zst zm zar zbe zme zc D zcl b0 3 0 0 (MQ zbe (zQ D zcl b0 (fun r N' f' => r = some (.int (if zwd g len st.1 j = true then 1 else 0)) ∧ N = N' ∧ f = f')) zar zst 0 0 (zA b0)) N f 20 [(0, .ref (A 0)), (1, .ref (ad.1 j)), (2, .int (nI k))] [] := by
    intro nn
    induction nn with
    | zero =>
      intro k hk h13 hz
      omega
    | succ nn ih =>
      intro k hk h13 hz
      refine z_iload_n X d_Rdr_isWord_20 rfl ?_
      refine z_aload_n X d_Rdr_isWord_21 rfl ?_
      refine z_callVK X zG_ok (c_String_length hj) d_Rdr_isWord_22 ⟨(z_cb (n := 0) X.2.2.2.2.1 ml_Rdr_161 mc_String_length ini_String (by decide +kernel) rfl rfl ⟨Nat.le_of_ble_eq_true rfl, Nat.le_of_ble_eq_true rfl⟩), X.2.2.2.2.1 _ im_String_length, X.2.2.2.2.1 _ sel_String_length⟩ (zG_so X.2.2.2.2.2.1 hj) rfl rfl (Nat.le_of_ble_eq_true rfl) ⟨Nat.le_of_ble_eq_true rfl, Nat.le_of_ble_eq_true rfl⟩ (fun r N1 f1 hp hN1 => ?_)
      obtain ⟨rfl, rfl, rfl⟩ := hp
      refine z_icmp_ge X 57 d_Rdr_isWord_25 (by decide) (fun h25 => ?_) (fun h25 => ?_)
      · skip
        have hk2 : k = (zSb j).length := by have := (nI_leI (a := (zSb j).length) (b := k) (by omega) (by omega)).mp h25; omega
        subst hk2
        refine z_iconst X d_Rdr_isWord_57 (v := 1) (by decide) ?_
        exact z_zret X d_Rdr_isWord_58 rfl ⟨by rw [if_pos (by rw [zwd, hz, decide_eq_true h13]; rfl)], rfl, rfl⟩
      · skip
        have hk2 : k < (zSb j).length := by
          rcases Nat.lt_or_ge k (zSb j).length with z | z
          · exact z
          · exact absurd (nI_le z (by omega)) h25
        refine z_aload_n X d_Rdr_isWord_28 rfl ?_
        refine z_get X d_Rdr_isWord_29 (hP.lo 0 rfl) (hP.at 0 rfl) cl_Rdr in_Rdr 0 (by decide) fl_Rdr_12 rfl rfl ?_
        refine z_aload_n X d_Rdr_isWord_32 rfl ?_
        refine z_get X d_Rdr_isWord_33 (hP.lo 0 rfl) (hP.at 0 rfl) cl_Rdr in_Rdr 12 (by decide) fl_Rdr_60 rfl rfl ?_
        refine z_iload_n X d_Rdr_isWord_36 rfl ?_
        refine z_iadd X d_Rdr_isWord_37 ?_
        refine z_callV X zG_ok (c_Sgn_get (hP.sub [1, 2] (by decide) rfl) hlen) d_Rdr_isWord_38 ⟨(z_cb (n := 1) X.2.2.2.2.1 ml_Rdr_132 mc_Sgn_get ini_Sgn (by decide +kernel) rfl rfl ⟨Nat.le_of_ble_eq_true rfl, Nat.le_of_ble_eq_true rfl⟩), X.2.2.2.2.1 _ im_Sgn_get, X.2.2.2.2.1 _ sel_Sgn_get⟩ (hP.lo 1 rfl) (hP.at 1 rfl) cl_Sgn rfl rfl (Nat.le_of_ble_eq_true rfl) ⟨Nat.le_of_ble_eq_true rfl, Nat.le_of_ble_eq_true rfl⟩ (fun r N1 f1 hp hN1 => ?_)
        obtain ⟨rfl, rfl, rfl⟩ := hp
        refine z_aload_n X d_Rdr_isWord_41 rfl ?_
        refine z_iload_n X d_Rdr_isWord_42 rfl ?_
        refine z_callVK X zG_ok (c_String_charAt hj (k := k) hk2) d_Rdr_isWord_43 ⟨(z_cb (n := 1) X.2.2.2.2.1 ml_Rdr_164 mc_String_charAt ini_String (by decide +kernel) rfl rfl ⟨Nat.le_of_ble_eq_true rfl, Nat.le_of_ble_eq_true rfl⟩), X.2.2.2.2.1 _ im_String_charAt, X.2.2.2.2.1 _ sel_String_charAt⟩ (zG_so X.2.2.2.2.2.1 hj) rfl rfl (Nat.le_of_ble_eq_true rfl) ⟨Nat.le_of_ble_eq_true rfl, Nat.le_of_ble_eq_true rfl⟩ (fun r N1 f1 hp hN1 => ?_)
        obtain ⟨rfl, rfl, rfl⟩ := hp
        refine z_icmp_eq X 51 d_Rdr_isWord_46 (by decide) (fun h46 => ?_) (fun h46 => ?_)
        · skip
          refine z_iinc X d_Rdr_isWord_51 rfl (nI_1 _) (by decide) rfl ?_
          refine z_goto X 20 d_Rdr_isWord_54 (by decide) ?_
          refine ih (k + 1) (by omega) h13 ?_
          rw [zwk, hz, decide_eq_true h46]
          rfl
        · skip
          refine z_iconst X d_Rdr_isWord_49 (v := 0) (by decide) ?_
          exact z_zret X d_Rdr_isWord_50 rfl ⟨by rw [if_neg (by rw [zwd, zwk_no (k := k + 1) (by rw [zwk, decide_eq_false h46]; simp) (by omega)]; simp)], rfl, rfl⟩
  refine z_aload_n X d_Rdr_isWord_0 rfl ?_
  refine z_get X d_Rdr_isWord_1 (hP.lo 0 rfl) (hP.at 0 rfl) cl_Rdr in_Rdr 10 (by decide) fl_Rdr_42 rfl rfl ?_
  refine z_aload_n X d_Rdr_isWord_4 rfl ?_
  refine z_get X d_Rdr_isWord_5 (hP.lo 0 rfl) (hP.at 0 rfl) cl_Rdr in_Rdr 12 (by decide) fl_Rdr_60 rfl rfl ?_
  refine z_isub X d_Rdr_isWord_8 ?_
  refine z_aload_n X d_Rdr_isWord_9 rfl ?_
  refine z_callVK X zG_ok (c_String_length hj) d_Rdr_isWord_10 ⟨(z_cb (n := 0) X.2.2.2.2.1 ml_Rdr_161 mc_String_length ini_String (by decide +kernel) rfl rfl ⟨Nat.le_of_ble_eq_true rfl, Nat.le_of_ble_eq_true rfl⟩), X.2.2.2.2.1 _ im_String_length, X.2.2.2.2.1 _ sel_String_length⟩ (zG_so X.2.2.2.2.2.1 hj) rfl rfl (Nat.le_of_ble_eq_true rfl) ⟨Nat.le_of_ble_eq_true rfl, Nat.le_of_ble_eq_true rfl⟩ (fun r N1 f1 hp hN1 => ?_)
  obtain ⟨rfl, rfl, rfl⟩ := hp
  refine z_icmp_eq X 18 d_Rdr_isWord_13 (by decide) (fun h13 => ?_) (fun h13 => ?_)
  · skip
    refine z_iconst X d_Rdr_isWord_18 (v := 0) (by decide) ?_
    refine z_istore_n X d_Rdr_isWord_19 (by decide) rfl ?_
    exact L20 ((zSb j).length + 1) 0 (by omega) h13 rfl
  · skip
    refine z_iconst X d_Rdr_isWord_16 (v := 0) (by decide) ?_
    exact z_zret X d_Rdr_isWord_17 rfl ⟨by rw [if_neg (by simp [zwd, h13])], rfl, rfl⟩
theorem d_Rdr_readNumber_0 : decode prog_4_method_16_code 0 = .ok (.aload_n 0, 1) := by decide +kernel
theorem d_Rdr_readNumber_1 : decode prog_4_method_16_code 1 = .ok (.getfield 42, 3) := by decide +kernel
theorem d_Rdr_readNumber_4 : decode prog_4_method_16_code 4 = .ok (.istore_n 2, 1) := by decide +kernel
theorem d_Rdr_readNumber_5 : decode prog_4_method_16_code 5 = .ok (.aload_n 0, 1) := by decide +kernel
theorem d_Rdr_readNumber_6 : decode prog_4_method_16_code 6 = .ok (.iconst 0, 1) := by decide +kernel
theorem d_Rdr_readNumber_7 : decode prog_4_method_16_code 7 = .ok (.putfield 105, 3) := by decide +kernel
theorem d_Rdr_readNumber_10 : decode prog_4_method_16_code 10 = .ok (.iconst 0, 1) := by decide +kernel
theorem d_Rdr_readNumber_11 : decode prog_4_method_16_code 11 = .ok (.istore_n 3, 1) := by decide +kernel
theorem d_Rdr_readNumber_12 : decode prog_4_method_16_code 12 = .ok (.iload_n 3, 1) := by decide +kernel
theorem d_Rdr_readNumber_13 : decode prog_4_method_16_code 13 = .ok (.sipush 200, 3) := by decide +kernel
theorem d_Rdr_readNumber_16 : decode prog_4_method_16_code 16 = .ok (.if_icmp .ge 74, 3) := by decide +kernel
theorem d_Rdr_readNumber_19 : decode prog_4_method_16_code 19 = .ok (.aload_n 0, 1) := by decide +kernel
theorem d_Rdr_readNumber_20 : decode prog_4_method_16_code 20 = .ok (.getfield 12, 3) := by decide +kernel
theorem d_Rdr_readNumber_23 : decode prog_4_method_16_code 23 = .ok (.aload_n 0, 1) := by decide +kernel
theorem d_Rdr_readNumber_24 : decode prog_4_method_16_code 24 = .ok (.getfield 42, 3) := by decide +kernel
theorem d_Rdr_readNumber_27 : decode prog_4_method_16_code 27 = .ok (.invokevirtual 132, 3) := by decide +kernel
theorem d_Rdr_readNumber_30 : decode prog_4_method_16_code 30 = .ok (.invokestatic 135, 3) := by decide +kernel
theorem d_Rdr_readNumber_33 : decode prog_4_method_16_code 33 = .ok (.ifCond .eq 57, 3) := by decide +kernel
theorem d_Rdr_readNumber_36 : decode prog_4_method_16_code 36 = .ok (.aload_n 0, 1) := by decide +kernel
theorem d_Rdr_readNumber_37 : decode prog_4_method_16_code 37 = .ok (.iload_n 3, 1) := by decide +kernel
theorem d_Rdr_readNumber_38 : decode prog_4_method_16_code 38 = .ok (.iload_n 1, 1) := by decide +kernel
theorem d_Rdr_readNumber_39 : decode prog_4_method_16_code 39 = .ok (.if_icmp .ge 28, 3) := by decide +kernel
theorem d_Rdr_readNumber_42 : decode prog_4_method_16_code 42 = .ok (.aload_n 0, 1) := by decide +kernel
theorem d_Rdr_readNumber_43 : decode prog_4_method_16_code 43 = .ok (.getfield 105, 3) := by decide +kernel
theorem d_Rdr_readNumber_46 : decode prog_4_method_16_code 46 = .ok (.bipush 10, 2) := by decide +kernel
theorem d_Rdr_readNumber_48 : decode prog_4_method_16_code 48 = .ok (.imul, 1) := by decide +kernel
theorem d_Rdr_readNumber_49 : decode prog_4_method_16_code 49 = .ok (.aload_n 0, 1) := by decide +kernel
theorem d_Rdr_readNumber_50 : decode prog_4_method_16_code 50 = .ok (.getfield 12, 3) := by decide +kernel
theorem d_Rdr_readNumber_53 : decode prog_4_method_16_code 53 = .ok (.aload_n 0, 1) := by decide +kernel
theorem d_Rdr_readNumber_54 : decode prog_4_method_16_code 54 = .ok (.getfield 42, 3) := by decide +kernel
theorem d_Rdr_readNumber_57 : decode prog_4_method_16_code 57 = .ok (.invokevirtual 132, 3) := by decide +kernel
theorem d_Rdr_readNumber_60 : decode prog_4_method_16_code 60 = .ok (.iadd, 1) := by decide +kernel
theorem d_Rdr_readNumber_61 : decode prog_4_method_16_code 61 = .ok (.bipush 48, 2) := by decide +kernel
theorem d_Rdr_readNumber_63 : decode prog_4_method_16_code 63 = .ok (.isub, 1) := by decide +kernel
theorem d_Rdr_readNumber_64 : decode prog_4_method_16_code 64 = .ok (.goto 7, 3) := by decide +kernel
theorem d_Rdr_readNumber_67 : decode prog_4_method_16_code 67 = .ok (.aload_n 0, 1) := by decide +kernel
theorem d_Rdr_readNumber_68 : decode prog_4_method_16_code 68 = .ok (.getfield 105, 3) := by decide +kernel
theorem d_Rdr_readNumber_71 : decode prog_4_method_16_code 71 = .ok (.putfield 105, 3) := by decide +kernel
theorem d_Rdr_readNumber_74 : decode prog_4_method_16_code 74 = .ok (.aload_n 0, 1) := by decide +kernel
theorem d_Rdr_readNumber_75 : decode prog_4_method_16_code 75 = .ok (.dup, 1) := by decide +kernel
theorem d_Rdr_readNumber_76 : decode prog_4_method_16_code 76 = .ok (.getfield 42, 3) := by decide +kernel
theorem d_Rdr_readNumber_79 : decode prog_4_method_16_code 79 = .ok (.iconst 1, 1) := by decide +kernel
theorem d_Rdr_readNumber_80 : decode prog_4_method_16_code 80 = .ok (.iadd, 1) := by decide +kernel
theorem d_Rdr_readNumber_81 : decode prog_4_method_16_code 81 = .ok (.putfield 42, 3) := by decide +kernel
theorem d_Rdr_readNumber_84 : decode prog_4_method_16_code 84 = .ok (.iinc 3 1, 3) := by decide +kernel
theorem d_Rdr_readNumber_87 : decode prog_4_method_16_code 87 = .ok (.goto (-75), 3) := by decide +kernel
theorem d_Rdr_readNumber_90 : decode prog_4_method_16_code 90 = .ok (.aload_n 0, 1) := by decide +kernel
theorem d_Rdr_readNumber_91 : decode prog_4_method_16_code 91 = .ok (.getfield 42, 3) := by decide +kernel
theorem d_Rdr_readNumber_94 : decode prog_4_method_16_code 94 = .ok (.iload_n 2, 1) := by decide +kernel
theorem d_Rdr_readNumber_95 : decode prog_4_method_16_code 95 = .ok (.if_icmp .le 17, 3) := by decide +kernel
theorem d_Rdr_readNumber_98 : decode prog_4_method_16_code 98 = .ok (.aload_n 0, 1) := by decide +kernel
theorem d_Rdr_readNumber_99 : decode prog_4_method_16_code 99 = .ok (.getfield 42, 3) := by decide +kernel
theorem d_Rdr_readNumber_102 : decode prog_4_method_16_code 102 = .ok (.iload_n 2, 1) := by decide +kernel
theorem d_Rdr_readNumber_103 : decode prog_4_method_16_code 103 = .ok (.isub, 1) := by decide +kernel
theorem d_Rdr_readNumber_104 : decode prog_4_method_16_code 104 = .ok (.iload_n 1, 1) := by decide +kernel
theorem d_Rdr_readNumber_105 : decode prog_4_method_16_code 105 = .ok (.if_icmp .gt 7, 3) := by decide +kernel
theorem d_Rdr_readNumber_108 : decode prog_4_method_16_code 108 = .ok (.iconst 1, 1) := by decide +kernel
theorem d_Rdr_readNumber_109 : decode prog_4_method_16_code 109 = .ok (.goto 4, 3) := by decide +kernel
theorem d_Rdr_readNumber_112 : decode prog_4_method_16_code 112 = .ok (.iconst 0, 1) := by decide +kernel
theorem d_Rdr_readNumber_113 : decode prog_4_method_16_code 113 = .ok (.ireturn, 1) := by decide +kernel
set_option maxHeartbeats 4000000 in
set_option maxRecDepth 100000 in
theorem c_Rdr_readNumber (hP : zP b0 N f (wRdr ck A g len st)) (hlen : len ≤ 200) {most : Int32} : zK l D ck ad b0 y_Rdr_readNumber prog_4_method_16_code 4 ((some FieldType.boolean)) 1 0 0 [.ref (A 0), .int most] N f (fun r N' f' => r = some (.int (zb (zNum g len most st.1).1)) ∧ N = N' ∧ zP b0 N f' (wRdr ck A g len (((zNum g len most st.1).2, st.2))) ∧ zF N f f' (AA A)) := by
  refine zM.of zG_w (by decide) (Nat.le_of_ble_eq_true rfl) ?_
  intro zp ze zst zm zar zbe zme zc X hnm hb0
  have hF : zF N f f (AA A) := zF.rf
  have L12 : ∀ (nn : Nat) (i : Nat) (p tv : Int32) (f1 : Nat → va_E), (i ≤ 200 ∧ i + nn = 201) → znum most g len 200 0 (st.1 10) 0 = znum most g len (200 - i) i p tv → zP b0 N f1 (wRdr ck A g len (upd (upd st.1 13 (tv)) 10 (p), st.2)) → zF N f f1 (AA A) → zW zp l ze (zR 1 0 0) zst zm zar zbe zme zc D zcl b0 4 0 0 (MQ zbe (zQ D zcl b0 (fun r N' f' => r = some (.int (zb (zNum g len most st.1).1)) ∧ N = N' ∧ zP b0 N f' (wRdr ck A g len (((zNum g len most st.1).2, st.2))) ∧ zF N f f' (AA A))) zar zst 0 0 (zA b0)) N f1 12 [(0, .ref (A 0)), (1, .int most), (2, .int (st.1 10)), (3, .int (nI i))] [] := by
    intro nn
    induction nn with
    | zero =>
      intro i p tv f1 hi hz0 hP hF
      omega
    | succ nn ih =>
      intro i p tv f1 hi hz0 hP hF
      have hP0 := hP
      refine z_iload_n X d_Rdr_readNumber_12 rfl ?_
      refine z_sipush X d_Rdr_readNumber_13 (v := 200) (by decide) ?_
      refine z_icmp_ge X 90 d_Rdr_readNumber_16 (by decide) (fun h16 => ?_) (fun h16 => ?_)
      · skip
        have hi2 : i = 200 := by have := (nI_leI (a := 200) (b := i) (by decide) (by omega)).mp h16; omega
        subst hi2
        have hz : znum most g len 200 0 (st.1 10) 0 = (p, tv) := hz0
        refine z_aload_n X d_Rdr_readNumber_90 rfl ?_
        refine z_get X d_Rdr_readNumber_91 (hP.lo 0 rfl) (hP.at 0 rfl) cl_Rdr in_Rdr 10 (by decide) fl_Rdr_42 rfl rfl ?_
        refine z_iload_n X d_Rdr_readNumber_94 rfl ?_
        refine z_icmp_le X 112 d_Rdr_readNumber_95 (by decide) (fun h95 => ?_) (fun h95 => ?_)
        · skip
          have e9 := zNum_1 hz h95
          refine z_iconst X d_Rdr_readNumber_112 (v := 0) (by decide) ?_
          exact z_zret X d_Rdr_readNumber_113 rfl ⟨by rw [e9]; rfl, rfl, by rw [zNum_q hz]; exact hP, hF⟩
        · skip
          refine z_aload_n X d_Rdr_readNumber_98 rfl ?_
          refine z_get X d_Rdr_readNumber_99 (hP.lo 0 rfl) (hP.at 0 rfl) cl_Rdr in_Rdr 10 (by decide) fl_Rdr_42 rfl rfl ?_
          refine z_iload_n X d_Rdr_readNumber_102 rfl ?_
          refine z_isub X d_Rdr_readNumber_103 ?_
          refine z_iload_n X d_Rdr_readNumber_104 rfl ?_
          refine z_icmp_gt X 112 d_Rdr_readNumber_105 (by decide) (fun h105 => ?_) (fun h105 => ?_)
          · skip
            have e9 := zNum_2 hz h105
            refine z_iconst X d_Rdr_readNumber_112 (v := 0) (by decide) ?_
            exact z_zret X d_Rdr_readNumber_113 rfl ⟨by rw [e9]; rfl, rfl, by rw [zNum_q hz]; exact hP, hF⟩
          · skip
            have e9 := zNum_3 hz h95 h105
            refine z_iconst X d_Rdr_readNumber_108 (v := 1) (by decide) ?_
            refine z_goto X 113 d_Rdr_readNumber_109 (by decide) ?_
            exact z_zret X d_Rdr_readNumber_113 rfl ⟨by rw [e9]; rfl, rfl, by rw [zNum_q hz]; exact hP, hF⟩
      · skip
        have hi2 : i < 200 := by
          rcases Nat.lt_or_ge i 200 with z | z
          · exact z
          · exact absurd (nI_le (a := 200) (b := i) z (by omega)) h16
        refine z_aload_n X d_Rdr_readNumber_19 rfl ?_
        refine z_get X d_Rdr_readNumber_20 (hP.lo 0 rfl) (hP.at 0 rfl) cl_Rdr in_Rdr 0 (by decide) fl_Rdr_12 rfl rfl ?_
        refine z_aload_n X d_Rdr_readNumber_23 rfl ?_
        refine z_get X d_Rdr_readNumber_24 (hP.lo 0 rfl) (hP.at 0 rfl) cl_Rdr in_Rdr 10 (by decide) fl_Rdr_42 rfl rfl ?_
        refine z_callV X zG_ok (c_Sgn_get (hP.sub [1, 2] (by decide) rfl) hlen) d_Rdr_readNumber_27 ⟨(z_cb (n := 1) X.2.2.2.2.1 ml_Rdr_132 mc_Sgn_get ini_Sgn (by decide +kernel) rfl rfl ⟨Nat.le_of_ble_eq_true rfl, Nat.le_of_ble_eq_true rfl⟩), X.2.2.2.2.1 _ im_Sgn_get, X.2.2.2.2.1 _ sel_Sgn_get⟩ (hP.lo 1 rfl) (hP.at 1 rfl) cl_Sgn rfl rfl (Nat.le_of_ble_eq_true rfl) ⟨Nat.le_of_ble_eq_true rfl, Nat.le_of_ble_eq_true rfl⟩ (fun r N1 f1 hp hN1 => ?_)
        obtain ⟨rfl, rfl, rfl⟩ := hp
        refine z_callS X zG_ok c_Rdr_isDigit d_Rdr_readNumber_30 ⟨(z_cb (n := 1) X.2.2.2.2.1 ml_Rdr_135 mc_Rdr_isDigit ini_Rdr (by decide +kernel) rfl rfl ⟨Nat.le_of_ble_eq_true rfl, Nat.le_of_ble_eq_true rfl⟩), X.2.2.2.2.1 _ st_Rdr_isDigit⟩ rfl rfl (Nat.le_of_ble_eq_true rfl) ⟨Nat.le_of_ble_eq_true rfl, Nat.le_of_ble_eq_true rfl⟩ (fun r N1 f1 hp hN1 => ?_)
        obtain ⟨rfl, rfl, rfl⟩ := hp
        refine z_if_eq X 90 d_Rdr_readNumber_33 (by decide) (fun h33 => ?_) (fun h33 => ?_)
        · skip
          have hd : ¬ zdig (sgv g len p) = true := zb_f h33
          have hz : znum most g len 200 0 (st.1 10) 0 = (p, tv) := by rw [hz0, show 200 - i = (200 - (i + 1)) + 1 by omega, znum, if_neg hd]
          refine z_aload_n X d_Rdr_readNumber_90 rfl ?_
          refine z_get X d_Rdr_readNumber_91 (hP.lo 0 rfl) (hP.at 0 rfl) cl_Rdr in_Rdr 10 (by decide) fl_Rdr_42 rfl rfl ?_
          refine z_iload_n X d_Rdr_readNumber_94 rfl ?_
          refine z_icmp_le X 112 d_Rdr_readNumber_95 (by decide) (fun h95 => ?_) (fun h95 => ?_)
          · skip
            have e9 := zNum_1 hz h95
            refine z_iconst X d_Rdr_readNumber_112 (v := 0) (by decide) ?_
            exact z_zret X d_Rdr_readNumber_113 rfl ⟨by rw [e9]; rfl, rfl, by rw [zNum_q hz]; exact hP, hF⟩
          · skip
            refine z_aload_n X d_Rdr_readNumber_98 rfl ?_
            refine z_get X d_Rdr_readNumber_99 (hP.lo 0 rfl) (hP.at 0 rfl) cl_Rdr in_Rdr 10 (by decide) fl_Rdr_42 rfl rfl ?_
            refine z_iload_n X d_Rdr_readNumber_102 rfl ?_
            refine z_isub X d_Rdr_readNumber_103 ?_
            refine z_iload_n X d_Rdr_readNumber_104 rfl ?_
            refine z_icmp_gt X 112 d_Rdr_readNumber_105 (by decide) (fun h105 => ?_) (fun h105 => ?_)
            · skip
              have e9 := zNum_2 hz h105
              refine z_iconst X d_Rdr_readNumber_112 (v := 0) (by decide) ?_
              exact z_zret X d_Rdr_readNumber_113 rfl ⟨by rw [e9]; rfl, rfl, by rw [zNum_q hz]; exact hP, hF⟩
            · skip
              have e9 := zNum_3 hz h95 h105
              refine z_iconst X d_Rdr_readNumber_108 (v := 1) (by decide) ?_
              refine z_goto X 113 d_Rdr_readNumber_109 (by decide) ?_
              exact z_zret X d_Rdr_readNumber_113 rfl ⟨by rw [e9]; rfl, rfl, by rw [zNum_q hz]; exact hP, hF⟩
        · skip
          have hd : zdig (sgv g len p) = true := zb_t h33
          refine z_aload_n X d_Rdr_readNumber_36 rfl ?_
          refine z_iload_n X d_Rdr_readNumber_37 rfl ?_
          refine z_iload_n X d_Rdr_readNumber_38 rfl ?_
          refine z_icmp_ge X 67 d_Rdr_readNumber_39 (by decide) (fun h39 => ?_) (fun h39 => ?_)
          · skip
            have etv : (if most ≤ nI i then tv else tv * 10 + sgv g len p - 48) = tv := if_pos h39
            refine z_aload_n X d_Rdr_readNumber_67 rfl ?_
            refine z_get X d_Rdr_readNumber_68 (hP.lo 0 rfl) (hP.at 0 rfl) cl_Rdr in_Rdr 13 (by decide) fl_Rdr_105 rfl rfl ?_
            refine z_putP X t_Rdr ty_Rdr n_Rdr d_Rdr_readNumber_71 hP 0 rfl cl_Rdr in_Rdr 13 (by decide) fl_Rdr_105 rfl rfl rfl rfl rfl (Nat.le_of_ble_eq_true rfl) (fun hP => ?_)
            have hF := hF.by (by simp) hP
            refine z_aload_n X d_Rdr_readNumber_74 rfl ?_
            refine z_dup X d_Rdr_readNumber_75 rfl ?_
            refine z_get X d_Rdr_readNumber_76 (hP.lo 0 rfl) (hP.at 0 rfl) cl_Rdr in_Rdr 10 (by decide) fl_Rdr_42 rfl rfl ?_
            refine z_iconst X d_Rdr_readNumber_79 (v := 1) (by decide) ?_
            refine z_iadd X d_Rdr_readNumber_80 ?_
            refine z_putP X t_Rdr ty_Rdr n_Rdr d_Rdr_readNumber_81 hP 0 rfl cl_Rdr in_Rdr 10 (by decide) fl_Rdr_42 rfl rfl rfl rfl rfl (Nat.le_of_ble_eq_true rfl) (fun hP => ?_)
            have hF := hF.by (by simp) hP
            refine z_iinc X d_Rdr_readNumber_84 rfl (nI_1 _) (by decide) rfl ?_
            refine z_goto X 12 d_Rdr_readNumber_87 (by decide) ?_
            refine ih (i + 1) (p + 1) (if most ≤ nI i then tv else tv * 10 + sgv g len p - 48) _ (by omega) ?_ (by rw [etv]; exact hP) hF
            rw [hz0, show 200 - i = (200 - (i + 1)) + 1 by omega, znum, if_pos hd]
          · skip
            have etv : (if most ≤ nI i then tv else tv * 10 + sgv g len p - 48) = tv * 10 + sgv g len p - 48 := if_neg h39
            refine z_aload_n X d_Rdr_readNumber_42 rfl ?_
            refine z_get X d_Rdr_readNumber_43 (hP.lo 0 rfl) (hP.at 0 rfl) cl_Rdr in_Rdr 13 (by decide) fl_Rdr_105 rfl rfl ?_
            refine z_bipush X d_Rdr_readNumber_46 (v := 10) (by decide) ?_
            refine z_imul X d_Rdr_readNumber_48 ?_
            refine z_aload_n X d_Rdr_readNumber_49 rfl ?_
            refine z_get X d_Rdr_readNumber_50 (hP.lo 0 rfl) (hP.at 0 rfl) cl_Rdr in_Rdr 0 (by decide) fl_Rdr_12 rfl rfl ?_
            refine z_aload_n X d_Rdr_readNumber_53 rfl ?_
            refine z_get X d_Rdr_readNumber_54 (hP.lo 0 rfl) (hP.at 0 rfl) cl_Rdr in_Rdr 10 (by decide) fl_Rdr_42 rfl rfl ?_
            refine z_callV X zG_ok (c_Sgn_get (hP.sub [1, 2] (by decide) rfl) hlen) d_Rdr_readNumber_57 ⟨(z_cb (n := 1) X.2.2.2.2.1 ml_Rdr_132 mc_Sgn_get ini_Sgn (by decide +kernel) rfl rfl ⟨Nat.le_of_ble_eq_true rfl, Nat.le_of_ble_eq_true rfl⟩), X.2.2.2.2.1 _ im_Sgn_get, X.2.2.2.2.1 _ sel_Sgn_get⟩ (hP.lo 1 rfl) (hP.at 1 rfl) cl_Sgn rfl rfl (Nat.le_of_ble_eq_true rfl) ⟨Nat.le_of_ble_eq_true rfl, Nat.le_of_ble_eq_true rfl⟩ (fun r N1 f1 hp hN1 => ?_)
            obtain ⟨rfl, rfl, rfl⟩ := hp
            refine z_iadd X d_Rdr_readNumber_60 ?_
            refine z_bipush X d_Rdr_readNumber_61 (v := 48) (by decide) ?_
            refine z_isub X d_Rdr_readNumber_63 ?_
            refine z_goto X 71 d_Rdr_readNumber_64 (by decide) ?_
            refine z_putP X t_Rdr ty_Rdr n_Rdr d_Rdr_readNumber_71 hP 0 rfl cl_Rdr in_Rdr 13 (by decide) fl_Rdr_105 rfl rfl rfl rfl rfl (Nat.le_of_ble_eq_true rfl) (fun hP => ?_)
            have hF := hF.by (by simp) hP
            refine z_aload_n X d_Rdr_readNumber_74 rfl ?_
            refine z_dup X d_Rdr_readNumber_75 rfl ?_
            refine z_get X d_Rdr_readNumber_76 (hP.lo 0 rfl) (hP.at 0 rfl) cl_Rdr in_Rdr 10 (by decide) fl_Rdr_42 rfl rfl ?_
            refine z_iconst X d_Rdr_readNumber_79 (v := 1) (by decide) ?_
            refine z_iadd X d_Rdr_readNumber_80 ?_
            refine z_putP X t_Rdr ty_Rdr n_Rdr d_Rdr_readNumber_81 hP 0 rfl cl_Rdr in_Rdr 10 (by decide) fl_Rdr_42 rfl rfl rfl rfl rfl (Nat.le_of_ble_eq_true rfl) (fun hP => ?_)
            have hF := hF.by (by simp) hP
            refine z_iinc X d_Rdr_readNumber_84 rfl (nI_1 _) (by decide) rfl ?_
            refine z_goto X 12 d_Rdr_readNumber_87 (by decide) ?_
            refine ih (i + 1) (p + 1) (if most ≤ nI i then tv else tv * 10 + sgv g len p - 48) _ (by omega) ?_ (by rw [etv]; exact hP) hF
            rw [hz0, show 200 - i = (200 - (i + 1)) + 1 by omega, znum, if_pos hd]
  refine z_aload_n X d_Rdr_readNumber_0 rfl ?_
  refine z_get X d_Rdr_readNumber_1 (hP.lo 0 rfl) (hP.at 0 rfl) cl_Rdr in_Rdr 10 (by decide) fl_Rdr_42 rfl rfl ?_
  refine z_istore_n X d_Rdr_readNumber_4 (by decide) rfl ?_
  refine z_aload_n X d_Rdr_readNumber_5 rfl ?_
  refine z_iconst X d_Rdr_readNumber_6 (v := 0) (by decide) ?_
  refine z_putP X t_Rdr ty_Rdr n_Rdr d_Rdr_readNumber_7 hP 0 rfl cl_Rdr in_Rdr 13 (by decide) fl_Rdr_105 rfl rfl rfl rfl rfl (Nat.le_of_ble_eq_true rfl) (fun hP => ?_)
  have hF := hF.by (by simp) hP
  refine z_iconst X d_Rdr_readNumber_10 (v := 0) (by decide) ?_
  refine z_istore_n X d_Rdr_readNumber_11 (by decide) rfl ?_
  exact L12 201 0 (st.1 10) 0 _ (by omega) rfl hP hF
end
end
section
/-- Reader.readWord: the token, and the ints behind it -/
def zWord (g : Nat → Int32) (len : Nat) (q : Nat → Int32) : Int32 × (Nat → Int32) :=
  if zwd g len (upd q 10 (zsk zlet g len 200 (q 10))) 1 = true then ((if (zNum g len 2 (upd q 10 (zsk zlet g len 200 (q 10)))).1 = true then (if 20 ≤ (zNum g len 2 (upd q 10 (zsk zlet g len 200 (q 10)))).2 13 then 1 else 3) else 1), (zNum g len 2 (upd q 10 (zsk zlet g len 200 (q 10)))).2)
  else ((if zwd g len (upd q 10 (zsk zlet g len 200 (q 10))) 2 = true then 4 else if zwd g len (upd q 10 (zsk zlet g len 200 (q 10))) 3 = true then 5 else if zwd g len (upd q 10 (zsk zlet g len 200 (q 10))) 4 = true then 6 else if zwd g len (upd q 10 (zsk zlet g len 200 (q 10))) 5 = true then 7 else 1), upd q 10 (zsk zlet g len 200 (q 10)))
/-- Reader.readToken behind the blanks: place p -/
def zTok2 (g : Nat → Int32) (len : Nat) (q : Nat → Int32) : Nat → Int32 :=
  if sgv g len (q 10) = -1 then upd q 11 0
  else if zdig (sgv g len (q 10)) = true then upd (zNum g len 7 q).2 11 (if (zNum g len 7 q).1 = true then 2 else 1)
  else if zlet (sgv g len (q 10)) = true then upd (zWord g len q).2 11 (zWord g len q).1
  else upd (upd q 11 (sgv g len (q 10))) 10 (q 10 + 1)
def zTok (g : Nat → Int32) (len : Nat) (q : Nat → Int32) : Nat → Int32 := zTok2 g len (upd (upd q 10 (zsk zbl g len 200 (q 10))) 12 (zsk zbl g len 200 (q 10)))
section
variable {l : Launch} {D : va_G} {ck : Nat → ClassId} {ad : (Nat → Nat) × (Nat → Nat)} {b0 N : Nat} {f : Nat → va_E}
variable {A : Nat → Nat} {g : Nat → Int32} {len : Nat} {st : RSt}
theorem upd_self10 (q : Nat → Int32) (k : Nat) : upd q k (q k) = q := by
  funext j
  by_cases h : j = k
  · subst h; simp [upd]
  · simp [upd, h]
theorem d_Rdr_readWord_0 : decode prog_4_method_17_code 0 = .ok (.iconst 0, 1) := by decide +kernel
theorem d_Rdr_readWord_1 : decode prog_4_method_17_code 1 = .ok (.istore_n 1, 1) := by decide +kernel
theorem d_Rdr_readWord_2 : decode prog_4_method_17_code 2 = .ok (.iload_n 1, 1) := by decide +kernel
theorem d_Rdr_readWord_3 : decode prog_4_method_17_code 3 = .ok (.sipush 200, 3) := by decide +kernel
theorem d_Rdr_readWord_6 : decode prog_4_method_17_code 6 = .ok (.if_icmp .ge 36, 3) := by decide +kernel
theorem d_Rdr_readWord_9 : decode prog_4_method_17_code 9 = .ok (.aload_n 0, 1) := by decide +kernel
theorem d_Rdr_readWord_10 : decode prog_4_method_17_code 10 = .ok (.getfield 12, 3) := by decide +kernel
theorem d_Rdr_readWord_13 : decode prog_4_method_17_code 13 = .ok (.aload_n 0, 1) := by decide +kernel
theorem d_Rdr_readWord_14 : decode prog_4_method_17_code 14 = .ok (.getfield 42, 3) := by decide +kernel
theorem d_Rdr_readWord_17 : decode prog_4_method_17_code 17 = .ok (.invokevirtual 132, 3) := by decide +kernel
theorem d_Rdr_readWord_20 : decode prog_4_method_17_code 20 = .ok (.invokestatic 141, 3) := by decide +kernel
theorem d_Rdr_readWord_23 : decode prog_4_method_17_code 23 = .ok (.ifCond .eq 19, 3) := by decide +kernel
theorem d_Rdr_readWord_26 : decode prog_4_method_17_code 26 = .ok (.aload_n 0, 1) := by decide +kernel
theorem d_Rdr_readWord_27 : decode prog_4_method_17_code 27 = .ok (.dup, 1) := by decide +kernel
theorem d_Rdr_readWord_28 : decode prog_4_method_17_code 28 = .ok (.getfield 42, 3) := by decide +kernel
theorem d_Rdr_readWord_31 : decode prog_4_method_17_code 31 = .ok (.iconst 1, 1) := by decide +kernel
theorem d_Rdr_readWord_32 : decode prog_4_method_17_code 32 = .ok (.iadd, 1) := by decide +kernel
theorem d_Rdr_readWord_33 : decode prog_4_method_17_code 33 = .ok (.putfield 42, 3) := by decide +kernel
theorem d_Rdr_readWord_36 : decode prog_4_method_17_code 36 = .ok (.iinc 1 1, 3) := by decide +kernel
theorem d_Rdr_readWord_39 : decode prog_4_method_17_code 39 = .ok (.goto (-37), 3) := by decide +kernel
theorem d_Rdr_readWord_42 : decode prog_4_method_17_code 42 = .ok (.aload_n 0, 1) := by decide +kernel
theorem d_Rdr_readWord_43 : decode prog_4_method_17_code 43 = .ok (.ldc 147, 2) := by decide +kernel
theorem d_Rdr_readWord_45 : decode prog_4_method_17_code 45 = .ok (.invokevirtual 149, 3) := by decide +kernel
theorem d_Rdr_readWord_48 : decode prog_4_method_17_code 48 = .ok (.ifCond .eq 26, 3) := by decide +kernel
theorem d_Rdr_readWord_51 : decode prog_4_method_17_code 51 = .ok (.aload_n 0, 1) := by decide +kernel
theorem d_Rdr_readWord_52 : decode prog_4_method_17_code 52 = .ok (.iconst 2, 1) := by decide +kernel
theorem d_Rdr_readWord_53 : decode prog_4_method_17_code 53 = .ok (.invokevirtual 138, 3) := by decide +kernel
theorem d_Rdr_readWord_56 : decode prog_4_method_17_code 56 = .ok (.ifCond .eq 16, 3) := by decide +kernel
theorem d_Rdr_readWord_59 : decode prog_4_method_17_code 59 = .ok (.aload_n 0, 1) := by decide +kernel
theorem d_Rdr_readWord_60 : decode prog_4_method_17_code 60 = .ok (.getfield 105, 3) := by decide +kernel
theorem d_Rdr_readWord_63 : decode prog_4_method_17_code 63 = .ok (.bipush 20, 2) := by decide +kernel
theorem d_Rdr_readWord_65 : decode prog_4_method_17_code 65 = .ok (.if_icmp .ge 7, 3) := by decide +kernel
theorem d_Rdr_readWord_68 : decode prog_4_method_17_code 68 = .ok (.iconst 3, 1) := by decide +kernel
theorem d_Rdr_readWord_69 : decode prog_4_method_17_code 69 = .ok (.goto 4, 3) := by decide +kernel
theorem d_Rdr_readWord_72 : decode prog_4_method_17_code 72 = .ok (.iconst 1, 1) := by decide +kernel
theorem d_Rdr_readWord_73 : decode prog_4_method_17_code 73 = .ok (.ireturn, 1) := by decide +kernel
theorem d_Rdr_readWord_74 : decode prog_4_method_17_code 74 = .ok (.aload_n 0, 1) := by decide +kernel
theorem d_Rdr_readWord_75 : decode prog_4_method_17_code 75 = .ok (.ldc 153, 2) := by decide +kernel
theorem d_Rdr_readWord_77 : decode prog_4_method_17_code 77 = .ok (.invokevirtual 149, 3) := by decide +kernel
theorem d_Rdr_readWord_80 : decode prog_4_method_17_code 80 = .ok (.ifCond .eq 5, 3) := by decide +kernel
theorem d_Rdr_readWord_83 : decode prog_4_method_17_code 83 = .ok (.iconst 4, 1) := by decide +kernel
theorem d_Rdr_readWord_84 : decode prog_4_method_17_code 84 = .ok (.ireturn, 1) := by decide +kernel
theorem d_Rdr_readWord_85 : decode prog_4_method_17_code 85 = .ok (.aload_n 0, 1) := by decide +kernel
theorem d_Rdr_readWord_86 : decode prog_4_method_17_code 86 = .ok (.ldc 155, 2) := by decide +kernel
theorem d_Rdr_readWord_88 : decode prog_4_method_17_code 88 = .ok (.invokevirtual 149, 3) := by decide +kernel
theorem d_Rdr_readWord_91 : decode prog_4_method_17_code 91 = .ok (.ifCond .eq 5, 3) := by decide +kernel
theorem d_Rdr_readWord_94 : decode prog_4_method_17_code 94 = .ok (.iconst 5, 1) := by decide +kernel
theorem d_Rdr_readWord_95 : decode prog_4_method_17_code 95 = .ok (.ireturn, 1) := by decide +kernel
theorem d_Rdr_readWord_96 : decode prog_4_method_17_code 96 = .ok (.aload_n 0, 1) := by decide +kernel
theorem d_Rdr_readWord_97 : decode prog_4_method_17_code 97 = .ok (.ldc 157, 2) := by decide +kernel
theorem d_Rdr_readWord_99 : decode prog_4_method_17_code 99 = .ok (.invokevirtual 149, 3) := by decide +kernel
theorem d_Rdr_readWord_102 : decode prog_4_method_17_code 102 = .ok (.ifCond .eq 6, 3) := by decide +kernel
theorem d_Rdr_readWord_105 : decode prog_4_method_17_code 105 = .ok (.bipush 6, 2) := by decide +kernel
theorem d_Rdr_readWord_107 : decode prog_4_method_17_code 107 = .ok (.ireturn, 1) := by decide +kernel
theorem d_Rdr_readWord_108 : decode prog_4_method_17_code 108 = .ok (.aload_n 0, 1) := by decide +kernel
theorem d_Rdr_readWord_109 : decode prog_4_method_17_code 109 = .ok (.ldc 159, 2) := by decide +kernel
theorem d_Rdr_readWord_111 : decode prog_4_method_17_code 111 = .ok (.invokevirtual 149, 3) := by decide +kernel
theorem d_Rdr_readWord_114 : decode prog_4_method_17_code 114 = .ok (.ifCond .eq 8, 3) := by decide +kernel
theorem d_Rdr_readWord_117 : decode prog_4_method_17_code 117 = .ok (.bipush 7, 2) := by decide +kernel
theorem d_Rdr_readWord_119 : decode prog_4_method_17_code 119 = .ok (.goto 4, 3) := by decide +kernel
theorem d_Rdr_readWord_122 : decode prog_4_method_17_code 122 = .ok (.iconst 1, 1) := by decide +kernel
theorem d_Rdr_readWord_123 : decode prog_4_method_17_code 123 = .ok (.ireturn, 1) := by decide +kernel
set_option maxHeartbeats 4000000 in
set_option maxRecDepth 100000 in
theorem c_Rdr_readWord (hP : zP b0 N f (wRdr ck A g len st)) (hlen : len ≤ 200) : zK l D ck ad b0 y_Rdr_readWord prog_4_method_17_code 2 ((some FieldType.int)) 5 0 0 [.ref (A 0)] N f (fun r N' f' => r = some (.int (zWord g len st.1).1) ∧ N = N' ∧ zP b0 N f' (wRdr ck A g len (((zWord g len st.1).2, st.2))) ∧ zF N f f' (AA A)) := by
  refine zM.of zG_w (by decide) (Nat.le_of_ble_eq_true rfl) ?_
  intro zp ze zst zm zar zbe zme zc X hnm hb0
  have hF : zF N f f (AA A) := zF.rf
  have L2 : ∀ (nn : Nat) (i : Nat) (p : Int32) (f1 : Nat → va_E), (i ≤ 200 ∧ i + nn = 201) → zsk zlet g len 200 (st.1 10) = zsk zlet g len (200 - i) p → zP b0 N f1 (wRdr ck A g len (upd st.1 10 p, st.2)) → zF N f f1 (AA A) → zW zp l ze (zR 5 0 0) zst zm zar zbe zme zc D zcl b0 2 0 0 (MQ zbe (zQ D zcl b0 (fun r N' f' => r = some (.int (zWord g len st.1).1) ∧ N = N' ∧ zP b0 N f' (wRdr ck A g len (((zWord g len st.1).2, st.2))) ∧ zF N f f' (AA A))) zar zst 0 0 (zA b0)) N f1 2 [(0, .ref (A 0)), (1, .int (nI i))] [] := by
    intro nn
    induction nn with
    | zero =>
      intro i p f1 hi hz0 hP hF
      omega
    | succ nn ih =>
      intro i p f1 hi hz0 hP hF
      refine z_iload_n X d_Rdr_readWord_2 rfl ?_
      refine z_sipush X d_Rdr_readWord_3 (v := 200) (by decide) ?_
      refine z_icmp_ge X 42 d_Rdr_readWord_6 (by decide) (fun h6 => ?_) (fun h6 => ?_)
      · skip
        have hi2 : i = 200 := by have := (nI_leI (a := 200) (b := i) (by decide) (by omega)).mp h6; omega
        subst hi2
        have hz : zsk zlet g len 200 (st.1 10) = p := hz0
        rw [← hz] at hP
        refine z_aload_n X d_Rdr_readWord_42 rfl ?_
        refine z_ldcS X d_Rdr_readWord_43 (zG_sr (j := 1) X.2.2.2.2.2.1 (by decide)) ?_
        refine z_callV X zG_ok (c_Rdr_isWord hP hlen (j := 1) (by decide)) d_Rdr_readWord_45 ⟨(z_cb (n := 1) X.2.2.2.2.1 ml_Rdr_149 mc_Rdr_isWord ini_Rdr (by decide +kernel) rfl rfl ⟨Nat.le_of_ble_eq_true rfl, Nat.le_of_ble_eq_true rfl⟩), X.2.2.2.2.1 _ im_Rdr_isWord, X.2.2.2.2.1 _ sel_Rdr_isWord⟩ (hP.lo 0 rfl) (hP.at 0 rfl) cl_Rdr rfl rfl (Nat.le_of_ble_eq_true rfl) ⟨Nat.le_of_ble_eq_true rfl, Nat.le_of_ble_eq_true rfl⟩ (fun r N1 f1 hp hN1 => ?_)
        obtain ⟨rfl, rfl, rfl⟩ := hp
        refine z_if_eq X 74 d_Rdr_readWord_48 (by decide) (fun h48 => ?_) (fun h48 => ?_)
        · skip
          have w1 := zb_f h48
          refine z_aload_n X d_Rdr_readWord_74 rfl ?_
          refine z_ldcS X d_Rdr_readWord_75 (zG_sr (j := 2) X.2.2.2.2.2.1 (by decide)) ?_
          refine z_callV X zG_ok (c_Rdr_isWord hP hlen (j := 2) (by decide)) d_Rdr_readWord_77 ⟨(z_cb (n := 1) X.2.2.2.2.1 ml_Rdr_149 mc_Rdr_isWord ini_Rdr (by decide +kernel) rfl rfl ⟨Nat.le_of_ble_eq_true rfl, Nat.le_of_ble_eq_true rfl⟩), X.2.2.2.2.1 _ im_Rdr_isWord, X.2.2.2.2.1 _ sel_Rdr_isWord⟩ (hP.lo 0 rfl) (hP.at 0 rfl) cl_Rdr rfl rfl (Nat.le_of_ble_eq_true rfl) ⟨Nat.le_of_ble_eq_true rfl, Nat.le_of_ble_eq_true rfl⟩ (fun r N1 f1 hp hN1 => ?_)
          obtain ⟨rfl, rfl, rfl⟩ := hp
          refine z_if_eq X 85 d_Rdr_readWord_80 (by decide) (fun h80 => ?_) (fun h80 => ?_)
          · skip
            have w2 := zb_f h80
            refine z_aload_n X d_Rdr_readWord_85 rfl ?_
            refine z_ldcS X d_Rdr_readWord_86 (zG_sr (j := 3) X.2.2.2.2.2.1 (by decide)) ?_
            refine z_callV X zG_ok (c_Rdr_isWord hP hlen (j := 3) (by decide)) d_Rdr_readWord_88 ⟨(z_cb (n := 1) X.2.2.2.2.1 ml_Rdr_149 mc_Rdr_isWord ini_Rdr (by decide +kernel) rfl rfl ⟨Nat.le_of_ble_eq_true rfl, Nat.le_of_ble_eq_true rfl⟩), X.2.2.2.2.1 _ im_Rdr_isWord, X.2.2.2.2.1 _ sel_Rdr_isWord⟩ (hP.lo 0 rfl) (hP.at 0 rfl) cl_Rdr rfl rfl (Nat.le_of_ble_eq_true rfl) ⟨Nat.le_of_ble_eq_true rfl, Nat.le_of_ble_eq_true rfl⟩ (fun r N1 f1 hp hN1 => ?_)
            obtain ⟨rfl, rfl, rfl⟩ := hp
            refine z_if_eq X 96 d_Rdr_readWord_91 (by decide) (fun h91 => ?_) (fun h91 => ?_)
            · skip
              have w3 := zb_f h91
              refine z_aload_n X d_Rdr_readWord_96 rfl ?_
              refine z_ldcS X d_Rdr_readWord_97 (zG_sr (j := 4) X.2.2.2.2.2.1 (by decide)) ?_
              refine z_callV X zG_ok (c_Rdr_isWord hP hlen (j := 4) (by decide)) d_Rdr_readWord_99 ⟨(z_cb (n := 1) X.2.2.2.2.1 ml_Rdr_149 mc_Rdr_isWord ini_Rdr (by decide +kernel) rfl rfl ⟨Nat.le_of_ble_eq_true rfl, Nat.le_of_ble_eq_true rfl⟩), X.2.2.2.2.1 _ im_Rdr_isWord, X.2.2.2.2.1 _ sel_Rdr_isWord⟩ (hP.lo 0 rfl) (hP.at 0 rfl) cl_Rdr rfl rfl (Nat.le_of_ble_eq_true rfl) ⟨Nat.le_of_ble_eq_true rfl, Nat.le_of_ble_eq_true rfl⟩ (fun r N1 f1 hp hN1 => ?_)
              obtain ⟨rfl, rfl, rfl⟩ := hp
              refine z_if_eq X 108 d_Rdr_readWord_102 (by decide) (fun h102 => ?_) (fun h102 => ?_)
              · skip
                have w4 := zb_f h102
                refine z_aload_n X d_Rdr_readWord_108 rfl ?_
                refine z_ldcS X d_Rdr_readWord_109 (zG_sr (j := 5) X.2.2.2.2.2.1 (by decide)) ?_
                refine z_callV X zG_ok (c_Rdr_isWord hP hlen (j := 5) (by decide)) d_Rdr_readWord_111 ⟨(z_cb (n := 1) X.2.2.2.2.1 ml_Rdr_149 mc_Rdr_isWord ini_Rdr (by decide +kernel) rfl rfl ⟨Nat.le_of_ble_eq_true rfl, Nat.le_of_ble_eq_true rfl⟩), X.2.2.2.2.1 _ im_Rdr_isWord, X.2.2.2.2.1 _ sel_Rdr_isWord⟩ (hP.lo 0 rfl) (hP.at 0 rfl) cl_Rdr rfl rfl (Nat.le_of_ble_eq_true rfl) ⟨Nat.le_of_ble_eq_true rfl, Nat.le_of_ble_eq_true rfl⟩ (fun r N1 f1 hp hN1 => ?_)
                obtain ⟨rfl, rfl, rfl⟩ := hp
                refine z_if_eq X 122 d_Rdr_readWord_114 (by decide) (fun h114 => ?_) (fun h114 => ?_)
                · skip
                  have w5 := zb_f h114
                  refine z_iconst X d_Rdr_readWord_122 (v := 1) (by decide) ?_
                  exact z_iret X d_Rdr_readWord_123 ⟨by first | (simp only [zWord]; rw [if_neg w1, if_neg w2, if_neg w3, if_neg w4, if_pos w5]) | (simp only [zWord]; rw [if_neg w1, if_neg w2, if_neg w3, if_neg w4, if_neg w5]), rfl, by simp only [zWord]; rw [if_neg w1]; exact hP, hF⟩
                · skip
                  have w5 := zb_t h114
                  refine z_bipush X d_Rdr_readWord_117 (v := 7) (by decide) ?_
                  refine z_goto X 123 d_Rdr_readWord_119 (by decide) ?_
                  exact z_iret X d_Rdr_readWord_123 ⟨by first | (simp only [zWord]; rw [if_neg w1, if_neg w2, if_neg w3, if_neg w4, if_pos w5]) | (simp only [zWord]; rw [if_neg w1, if_neg w2, if_neg w3, if_neg w4, if_neg w5]), rfl, by simp only [zWord]; rw [if_neg w1]; exact hP, hF⟩
              · skip
                have w4 := zb_t h102
                refine z_bipush X d_Rdr_readWord_105 (v := 6) (by decide) ?_
                exact z_iret X d_Rdr_readWord_107 ⟨by simp only [zWord]; rw [if_neg w1, if_neg w2, if_neg w3, if_pos w4], rfl, by simp only [zWord]; rw [if_neg w1]; exact hP, hF⟩
            · skip
              have w3 := zb_t h91
              refine z_iconst X d_Rdr_readWord_94 (v := 5) (by decide) ?_
              exact z_iret X d_Rdr_readWord_95 ⟨by simp only [zWord]; rw [if_neg w1, if_neg w2, if_pos w3], rfl, by simp only [zWord]; rw [if_neg w1]; exact hP, hF⟩
          · skip
            have w2 := zb_t h80
            refine z_iconst X d_Rdr_readWord_83 (v := 4) (by decide) ?_
            exact z_iret X d_Rdr_readWord_84 ⟨by simp only [zWord]; rw [if_neg w1, if_pos w2], rfl, by simp only [zWord]; rw [if_neg w1]; exact hP, hF⟩
        · skip
          have w1 := zb_t h48
          refine z_aload_n X d_Rdr_readWord_51 rfl ?_
          refine z_iconst X d_Rdr_readWord_52 (v := 2) (by decide) ?_
          refine z_callV X zG_ok (c_Rdr_readNumber hP hlen) d_Rdr_readWord_53 ⟨(z_cb (n := 1) X.2.2.2.2.1 ml_Rdr_138 mc_Rdr_readNumber ini_Rdr (by decide +kernel) rfl rfl ⟨Nat.le_of_ble_eq_true rfl, Nat.le_of_ble_eq_true rfl⟩), X.2.2.2.2.1 _ im_Rdr_readNumber, X.2.2.2.2.1 _ sel_Rdr_readNumber⟩ (hP.lo 0 rfl) (hP.at 0 rfl) cl_Rdr rfl rfl (Nat.le_of_ble_eq_true rfl) ⟨Nat.le_of_ble_eq_true rfl, Nat.le_of_ble_eq_true rfl⟩ (fun r N1 f1 hp hN1 => ?_)
          obtain ⟨rfl, rfl, hP, hF1⟩ := hp
          have hF := hF.join hF1 (Nat.le_refl _) (fun _ h => Or.inl h)
          refine z_if_eq X 72 d_Rdr_readWord_56 (by decide) (fun h56 => ?_) (fun h56 => ?_)
          · skip
            have nb := zb_0.mp h56
            refine z_iconst X d_Rdr_readWord_72 (v := 1) (by decide) ?_
            exact z_iret X d_Rdr_readWord_73 ⟨by first | (simp only [zWord]; rw [if_pos w1, if_pos nb, if_pos h65]) | (simp only [zWord]; rw [if_pos w1, if_pos nb, if_neg h65]) | (simp only [zWord]; rw [if_pos w1, if_neg (by rw [nb]; decide)]), rfl, by simp only [zWord]; rw [if_pos w1]; exact hP, hF⟩
          · skip
            have nb : (zNum g len 2 (upd st.1 10 (zsk zlet g len 200 (st.1 10)))).1 = true := by
              cases hq : (zNum g len 2 (upd st.1 10 (zsk zlet g len 200 (st.1 10)))).1
              · exact absurd (zb_0.mpr hq) h56
              · rfl
            refine z_aload_n X d_Rdr_readWord_59 rfl ?_
            refine z_get X d_Rdr_readWord_60 (hP.lo 0 rfl) (hP.at 0 rfl) cl_Rdr in_Rdr 13 (by decide) fl_Rdr_105 rfl rfl ?_
            refine z_bipush X d_Rdr_readWord_63 (v := 20) (by decide) ?_
            refine z_icmp_ge X 72 d_Rdr_readWord_65 (by decide) (fun h65 => ?_) (fun h65 => ?_)
            · skip
              refine z_iconst X d_Rdr_readWord_72 (v := 1) (by decide) ?_
              exact z_iret X d_Rdr_readWord_73 ⟨by first | (simp only [zWord]; rw [if_pos w1, if_pos nb, if_pos h65]) | (simp only [zWord]; rw [if_pos w1, if_pos nb, if_neg h65]) | (simp only [zWord]; rw [if_pos w1, if_neg (by rw [nb]; decide)]), rfl, by simp only [zWord]; rw [if_pos w1]; exact hP, hF⟩
            · skip
              refine z_iconst X d_Rdr_readWord_68 (v := 3) (by decide) ?_
              refine z_goto X 73 d_Rdr_readWord_69 (by decide) ?_
              exact z_iret X d_Rdr_readWord_73 ⟨by first | (simp only [zWord]; rw [if_pos w1, if_pos nb, if_pos h65]) | (simp only [zWord]; rw [if_pos w1, if_pos nb, if_neg h65]) | (simp only [zWord]; rw [if_pos w1, if_neg (by rw [nb]; decide)]), rfl, by simp only [zWord]; rw [if_pos w1]; exact hP, hF⟩
      · skip
        have hi2 : i < 200 := by
          rcases Nat.lt_or_ge i 200 with z | z
          · exact z
          · exact absurd (nI_le (a := 200) (b := i) z (by omega)) h6
        refine z_aload_n X d_Rdr_readWord_9 rfl ?_
        refine z_get X d_Rdr_readWord_10 (hP.lo 0 rfl) (hP.at 0 rfl) cl_Rdr in_Rdr 0 (by decide) fl_Rdr_12 rfl rfl ?_
        refine z_aload_n X d_Rdr_readWord_13 rfl ?_
        refine z_get X d_Rdr_readWord_14 (hP.lo 0 rfl) (hP.at 0 rfl) cl_Rdr in_Rdr 10 (by decide) fl_Rdr_42 rfl rfl ?_
        refine z_callV X zG_ok (c_Sgn_get (hP.sub [1, 2] (by decide) rfl) hlen) d_Rdr_readWord_17 ⟨(z_cb (n := 1) X.2.2.2.2.1 ml_Rdr_132 mc_Sgn_get ini_Sgn (by decide +kernel) rfl rfl ⟨Nat.le_of_ble_eq_true rfl, Nat.le_of_ble_eq_true rfl⟩), X.2.2.2.2.1 _ im_Sgn_get, X.2.2.2.2.1 _ sel_Sgn_get⟩ (hP.lo 1 rfl) (hP.at 1 rfl) cl_Sgn rfl rfl (Nat.le_of_ble_eq_true rfl) ⟨Nat.le_of_ble_eq_true rfl, Nat.le_of_ble_eq_true rfl⟩ (fun r N1 f1 hp hN1 => ?_)
        obtain ⟨rfl, rfl, rfl⟩ := hp
        refine z_callS X zG_ok c_Rdr_isLetter d_Rdr_readWord_20 ⟨(z_cb (n := 1) X.2.2.2.2.1 ml_Rdr_141 mc_Rdr_isLetter ini_Rdr (by decide +kernel) rfl rfl ⟨Nat.le_of_ble_eq_true rfl, Nat.le_of_ble_eq_true rfl⟩), X.2.2.2.2.1 _ st_Rdr_isLetter⟩ rfl rfl (Nat.le_of_ble_eq_true rfl) ⟨Nat.le_of_ble_eq_true rfl, Nat.le_of_ble_eq_true rfl⟩ (fun r N1 f1 hp hN1 => ?_)
        obtain ⟨rfl, rfl, rfl⟩ := hp
        refine z_if_eq X 42 d_Rdr_readWord_23 (by decide) (fun h23 => ?_) (fun h23 => ?_)
        · skip
          have hd : ¬ zlet (sgv g len p) = true := zb_f h23
          have hz : zsk zlet g len 200 (st.1 10) = p := by rw [hz0, show 200 - i = (200 - (i + 1)) + 1 by omega, zsk, if_neg hd]
          rw [← hz] at hP
          refine z_aload_n X d_Rdr_readWord_42 rfl ?_
          refine z_ldcS X d_Rdr_readWord_43 (zG_sr (j := 1) X.2.2.2.2.2.1 (by decide)) ?_
          refine z_callV X zG_ok (c_Rdr_isWord hP hlen (j := 1) (by decide)) d_Rdr_readWord_45 ⟨(z_cb (n := 1) X.2.2.2.2.1 ml_Rdr_149 mc_Rdr_isWord ini_Rdr (by decide +kernel) rfl rfl ⟨Nat.le_of_ble_eq_true rfl, Nat.le_of_ble_eq_true rfl⟩), X.2.2.2.2.1 _ im_Rdr_isWord, X.2.2.2.2.1 _ sel_Rdr_isWord⟩ (hP.lo 0 rfl) (hP.at 0 rfl) cl_Rdr rfl rfl (Nat.le_of_ble_eq_true rfl) ⟨Nat.le_of_ble_eq_true rfl, Nat.le_of_ble_eq_true rfl⟩ (fun r N1 f1 hp hN1 => ?_)
          obtain ⟨rfl, rfl, rfl⟩ := hp
          refine z_if_eq X 74 d_Rdr_readWord_48 (by decide) (fun h48 => ?_) (fun h48 => ?_)
          · skip
            have w1 := zb_f h48
            refine z_aload_n X d_Rdr_readWord_74 rfl ?_
            refine z_ldcS X d_Rdr_readWord_75 (zG_sr (j := 2) X.2.2.2.2.2.1 (by decide)) ?_
            refine z_callV X zG_ok (c_Rdr_isWord hP hlen (j := 2) (by decide)) d_Rdr_readWord_77 ⟨(z_cb (n := 1) X.2.2.2.2.1 ml_Rdr_149 mc_Rdr_isWord ini_Rdr (by decide +kernel) rfl rfl ⟨Nat.le_of_ble_eq_true rfl, Nat.le_of_ble_eq_true rfl⟩), X.2.2.2.2.1 _ im_Rdr_isWord, X.2.2.2.2.1 _ sel_Rdr_isWord⟩ (hP.lo 0 rfl) (hP.at 0 rfl) cl_Rdr rfl rfl (Nat.le_of_ble_eq_true rfl) ⟨Nat.le_of_ble_eq_true rfl, Nat.le_of_ble_eq_true rfl⟩ (fun r N1 f1 hp hN1 => ?_)
            obtain ⟨rfl, rfl, rfl⟩ := hp
            refine z_if_eq X 85 d_Rdr_readWord_80 (by decide) (fun h80 => ?_) (fun h80 => ?_)
            · skip
              have w2 := zb_f h80
              refine z_aload_n X d_Rdr_readWord_85 rfl ?_
              refine z_ldcS X d_Rdr_readWord_86 (zG_sr (j := 3) X.2.2.2.2.2.1 (by decide)) ?_
              refine z_callV X zG_ok (c_Rdr_isWord hP hlen (j := 3) (by decide)) d_Rdr_readWord_88 ⟨(z_cb (n := 1) X.2.2.2.2.1 ml_Rdr_149 mc_Rdr_isWord ini_Rdr (by decide +kernel) rfl rfl ⟨Nat.le_of_ble_eq_true rfl, Nat.le_of_ble_eq_true rfl⟩), X.2.2.2.2.1 _ im_Rdr_isWord, X.2.2.2.2.1 _ sel_Rdr_isWord⟩ (hP.lo 0 rfl) (hP.at 0 rfl) cl_Rdr rfl rfl (Nat.le_of_ble_eq_true rfl) ⟨Nat.le_of_ble_eq_true rfl, Nat.le_of_ble_eq_true rfl⟩ (fun r N1 f1 hp hN1 => ?_)
              obtain ⟨rfl, rfl, rfl⟩ := hp
              refine z_if_eq X 96 d_Rdr_readWord_91 (by decide) (fun h91 => ?_) (fun h91 => ?_)
              · skip
                have w3 := zb_f h91
                refine z_aload_n X d_Rdr_readWord_96 rfl ?_
                refine z_ldcS X d_Rdr_readWord_97 (zG_sr (j := 4) X.2.2.2.2.2.1 (by decide)) ?_
                refine z_callV X zG_ok (c_Rdr_isWord hP hlen (j := 4) (by decide)) d_Rdr_readWord_99 ⟨(z_cb (n := 1) X.2.2.2.2.1 ml_Rdr_149 mc_Rdr_isWord ini_Rdr (by decide +kernel) rfl rfl ⟨Nat.le_of_ble_eq_true rfl, Nat.le_of_ble_eq_true rfl⟩), X.2.2.2.2.1 _ im_Rdr_isWord, X.2.2.2.2.1 _ sel_Rdr_isWord⟩ (hP.lo 0 rfl) (hP.at 0 rfl) cl_Rdr rfl rfl (Nat.le_of_ble_eq_true rfl) ⟨Nat.le_of_ble_eq_true rfl, Nat.le_of_ble_eq_true rfl⟩ (fun r N1 f1 hp hN1 => ?_)
                obtain ⟨rfl, rfl, rfl⟩ := hp
                refine z_if_eq X 108 d_Rdr_readWord_102 (by decide) (fun h102 => ?_) (fun h102 => ?_)
                · skip
                  have w4 := zb_f h102
                  refine z_aload_n X d_Rdr_readWord_108 rfl ?_
                  refine z_ldcS X d_Rdr_readWord_109 (zG_sr (j := 5) X.2.2.2.2.2.1 (by decide)) ?_
                  refine z_callV X zG_ok (c_Rdr_isWord hP hlen (j := 5) (by decide)) d_Rdr_readWord_111 ⟨(z_cb (n := 1) X.2.2.2.2.1 ml_Rdr_149 mc_Rdr_isWord ini_Rdr (by decide +kernel) rfl rfl ⟨Nat.le_of_ble_eq_true rfl, Nat.le_of_ble_eq_true rfl⟩), X.2.2.2.2.1 _ im_Rdr_isWord, X.2.2.2.2.1 _ sel_Rdr_isWord⟩ (hP.lo 0 rfl) (hP.at 0 rfl) cl_Rdr rfl rfl (Nat.le_of_ble_eq_true rfl) ⟨Nat.le_of_ble_eq_true rfl, Nat.le_of_ble_eq_true rfl⟩ (fun r N1 f1 hp hN1 => ?_)
                  obtain ⟨rfl, rfl, rfl⟩ := hp
                  refine z_if_eq X 122 d_Rdr_readWord_114 (by decide) (fun h114 => ?_) (fun h114 => ?_)
                  · skip
                    have w5 := zb_f h114
                    refine z_iconst X d_Rdr_readWord_122 (v := 1) (by decide) ?_
                    exact z_iret X d_Rdr_readWord_123 ⟨by first | (simp only [zWord]; rw [if_neg w1, if_neg w2, if_neg w3, if_neg w4, if_pos w5]) | (simp only [zWord]; rw [if_neg w1, if_neg w2, if_neg w3, if_neg w4, if_neg w5]), rfl, by simp only [zWord]; rw [if_neg w1]; exact hP, hF⟩
                  · skip
                    have w5 := zb_t h114
                    refine z_bipush X d_Rdr_readWord_117 (v := 7) (by decide) ?_
                    refine z_goto X 123 d_Rdr_readWord_119 (by decide) ?_
                    exact z_iret X d_Rdr_readWord_123 ⟨by first | (simp only [zWord]; rw [if_neg w1, if_neg w2, if_neg w3, if_neg w4, if_pos w5]) | (simp only [zWord]; rw [if_neg w1, if_neg w2, if_neg w3, if_neg w4, if_neg w5]), rfl, by simp only [zWord]; rw [if_neg w1]; exact hP, hF⟩
                · skip
                  have w4 := zb_t h102
                  refine z_bipush X d_Rdr_readWord_105 (v := 6) (by decide) ?_
                  exact z_iret X d_Rdr_readWord_107 ⟨by simp only [zWord]; rw [if_neg w1, if_neg w2, if_neg w3, if_pos w4], rfl, by simp only [zWord]; rw [if_neg w1]; exact hP, hF⟩
              · skip
                have w3 := zb_t h91
                refine z_iconst X d_Rdr_readWord_94 (v := 5) (by decide) ?_
                exact z_iret X d_Rdr_readWord_95 ⟨by simp only [zWord]; rw [if_neg w1, if_neg w2, if_pos w3], rfl, by simp only [zWord]; rw [if_neg w1]; exact hP, hF⟩
            · skip
              have w2 := zb_t h80
              refine z_iconst X d_Rdr_readWord_83 (v := 4) (by decide) ?_
              exact z_iret X d_Rdr_readWord_84 ⟨by simp only [zWord]; rw [if_neg w1, if_pos w2], rfl, by simp only [zWord]; rw [if_neg w1]; exact hP, hF⟩
          · skip
            have w1 := zb_t h48
            refine z_aload_n X d_Rdr_readWord_51 rfl ?_
            refine z_iconst X d_Rdr_readWord_52 (v := 2) (by decide) ?_
            refine z_callV X zG_ok (c_Rdr_readNumber hP hlen) d_Rdr_readWord_53 ⟨(z_cb (n := 1) X.2.2.2.2.1 ml_Rdr_138 mc_Rdr_readNumber ini_Rdr (by decide +kernel) rfl rfl ⟨Nat.le_of_ble_eq_true rfl, Nat.le_of_ble_eq_true rfl⟩), X.2.2.2.2.1 _ im_Rdr_readNumber, X.2.2.2.2.1 _ sel_Rdr_readNumber⟩ (hP.lo 0 rfl) (hP.at 0 rfl) cl_Rdr rfl rfl (Nat.le_of_ble_eq_true rfl) ⟨Nat.le_of_ble_eq_true rfl, Nat.le_of_ble_eq_true rfl⟩ (fun r N1 f1 hp hN1 => ?_)
            obtain ⟨rfl, rfl, hP, hF1⟩ := hp
            have hF := hF.join hF1 (Nat.le_refl _) (fun _ h => Or.inl h)
            refine z_if_eq X 72 d_Rdr_readWord_56 (by decide) (fun h56 => ?_) (fun h56 => ?_)
            · skip
              have nb := zb_0.mp h56
              refine z_iconst X d_Rdr_readWord_72 (v := 1) (by decide) ?_
              exact z_iret X d_Rdr_readWord_73 ⟨by first | (simp only [zWord]; rw [if_pos w1, if_pos nb, if_pos h65]) | (simp only [zWord]; rw [if_pos w1, if_pos nb, if_neg h65]) | (simp only [zWord]; rw [if_pos w1, if_neg (by rw [nb]; decide)]), rfl, by simp only [zWord]; rw [if_pos w1]; exact hP, hF⟩
            · skip
              have nb : (zNum g len 2 (upd st.1 10 (zsk zlet g len 200 (st.1 10)))).1 = true := by
                cases hq : (zNum g len 2 (upd st.1 10 (zsk zlet g len 200 (st.1 10)))).1
                · exact absurd (zb_0.mpr hq) h56
                · rfl
              refine z_aload_n X d_Rdr_readWord_59 rfl ?_
              refine z_get X d_Rdr_readWord_60 (hP.lo 0 rfl) (hP.at 0 rfl) cl_Rdr in_Rdr 13 (by decide) fl_Rdr_105 rfl rfl ?_
              refine z_bipush X d_Rdr_readWord_63 (v := 20) (by decide) ?_
              refine z_icmp_ge X 72 d_Rdr_readWord_65 (by decide) (fun h65 => ?_) (fun h65 => ?_)
              · skip
                refine z_iconst X d_Rdr_readWord_72 (v := 1) (by decide) ?_
                exact z_iret X d_Rdr_readWord_73 ⟨by first | (simp only [zWord]; rw [if_pos w1, if_pos nb, if_pos h65]) | (simp only [zWord]; rw [if_pos w1, if_pos nb, if_neg h65]) | (simp only [zWord]; rw [if_pos w1, if_neg (by rw [nb]; decide)]), rfl, by simp only [zWord]; rw [if_pos w1]; exact hP, hF⟩
              · skip
                refine z_iconst X d_Rdr_readWord_68 (v := 3) (by decide) ?_
                refine z_goto X 73 d_Rdr_readWord_69 (by decide) ?_
                exact z_iret X d_Rdr_readWord_73 ⟨by first | (simp only [zWord]; rw [if_pos w1, if_pos nb, if_pos h65]) | (simp only [zWord]; rw [if_pos w1, if_pos nb, if_neg h65]) | (simp only [zWord]; rw [if_pos w1, if_neg (by rw [nb]; decide)]), rfl, by simp only [zWord]; rw [if_pos w1]; exact hP, hF⟩
        · skip
          have hd : zlet (sgv g len p) = true := zb_t h23
          refine z_aload_n X d_Rdr_readWord_26 rfl ?_
          refine z_dup X d_Rdr_readWord_27 rfl ?_
          refine z_get X d_Rdr_readWord_28 (hP.lo 0 rfl) (hP.at 0 rfl) cl_Rdr in_Rdr 10 (by decide) fl_Rdr_42 rfl rfl ?_
          refine z_iconst X d_Rdr_readWord_31 (v := 1) (by decide) ?_
          refine z_iadd X d_Rdr_readWord_32 ?_
          refine z_putP X t_Rdr ty_Rdr n_Rdr d_Rdr_readWord_33 hP 0 rfl cl_Rdr in_Rdr 10 (by decide) fl_Rdr_42 rfl rfl rfl rfl rfl (Nat.le_of_ble_eq_true rfl) (fun hP => ?_)
          have hF := hF.by (by simp) hP
          refine z_iinc X d_Rdr_readWord_36 rfl (nI_1 _) (by decide) rfl ?_
          refine z_goto X 2 d_Rdr_readWord_39 (by decide) ?_
          refine ih (i + 1) (p + 1) _ (by omega) ?_ hP hF
          rw [hz0, show 200 - i = (200 - (i + 1)) + 1 by omega, zsk, if_pos hd]
  refine z_iconst X d_Rdr_readWord_0 (v := 0) (by decide) ?_
  refine z_istore_n X d_Rdr_readWord_1 (by decide) rfl ?_
  exact L2 201 0 (st.1 10) f (by omega) rfl (by rw [upd_self10]; exact hP) hF
theorem d_Rdr_readToken_0 : decode prog_4_method_15_code 0 = .ok (.iconst 0, 1) := by decide +kernel
theorem d_Rdr_readToken_1 : decode prog_4_method_15_code 1 = .ok (.istore_n 1, 1) := by decide +kernel
theorem d_Rdr_readToken_2 : decode prog_4_method_15_code 2 = .ok (.iload_n 1, 1) := by decide +kernel
theorem d_Rdr_readToken_3 : decode prog_4_method_15_code 3 = .ok (.sipush 200, 3) := by decide +kernel
theorem d_Rdr_readToken_6 : decode prog_4_method_15_code 6 = .ok (.if_icmp .ge 35, 3) := by decide +kernel
theorem d_Rdr_readToken_9 : decode prog_4_method_15_code 9 = .ok (.aload_n 0, 1) := by decide +kernel
theorem d_Rdr_readToken_10 : decode prog_4_method_15_code 10 = .ok (.getfield 12, 3) := by decide +kernel
theorem d_Rdr_readToken_13 : decode prog_4_method_15_code 13 = .ok (.aload_n 0, 1) := by decide +kernel
theorem d_Rdr_readToken_14 : decode prog_4_method_15_code 14 = .ok (.getfield 42, 3) := by decide +kernel
theorem d_Rdr_readToken_17 : decode prog_4_method_15_code 17 = .ok (.invokevirtual 132, 3) := by decide +kernel
theorem d_Rdr_readToken_20 : decode prog_4_method_15_code 20 = .ok (.bipush 32, 2) := by decide +kernel
theorem d_Rdr_readToken_22 : decode prog_4_method_15_code 22 = .ok (.if_icmp .ne 19, 3) := by decide +kernel
theorem d_Rdr_readToken_25 : decode prog_4_method_15_code 25 = .ok (.aload_n 0, 1) := by decide +kernel
theorem d_Rdr_readToken_26 : decode prog_4_method_15_code 26 = .ok (.dup, 1) := by decide +kernel
theorem d_Rdr_readToken_27 : decode prog_4_method_15_code 27 = .ok (.getfield 42, 3) := by decide +kernel
theorem d_Rdr_readToken_30 : decode prog_4_method_15_code 30 = .ok (.iconst 1, 1) := by decide +kernel
theorem d_Rdr_readToken_31 : decode prog_4_method_15_code 31 = .ok (.iadd, 1) := by decide +kernel
theorem d_Rdr_readToken_32 : decode prog_4_method_15_code 32 = .ok (.putfield 42, 3) := by decide +kernel
theorem d_Rdr_readToken_35 : decode prog_4_method_15_code 35 = .ok (.iinc 1 1, 3) := by decide +kernel
theorem d_Rdr_readToken_38 : decode prog_4_method_15_code 38 = .ok (.goto (-36), 3) := by decide +kernel
theorem d_Rdr_readToken_41 : decode prog_4_method_15_code 41 = .ok (.aload_n 0, 1) := by decide +kernel
theorem d_Rdr_readToken_42 : decode prog_4_method_15_code 42 = .ok (.aload_n 0, 1) := by decide +kernel
theorem d_Rdr_readToken_43 : decode prog_4_method_15_code 43 = .ok (.getfield 42, 3) := by decide +kernel
theorem d_Rdr_readToken_46 : decode prog_4_method_15_code 46 = .ok (.putfield 60, 3) := by decide +kernel
theorem d_Rdr_readToken_49 : decode prog_4_method_15_code 49 = .ok (.aload_n 0, 1) := by decide +kernel
theorem d_Rdr_readToken_50 : decode prog_4_method_15_code 50 = .ok (.getfield 12, 3) := by decide +kernel
theorem d_Rdr_readToken_53 : decode prog_4_method_15_code 53 = .ok (.aload_n 0, 1) := by decide +kernel
theorem d_Rdr_readToken_54 : decode prog_4_method_15_code 54 = .ok (.getfield 42, 3) := by decide +kernel
theorem d_Rdr_readToken_57 : decode prog_4_method_15_code 57 = .ok (.invokevirtual 132, 3) := by decide +kernel
theorem d_Rdr_readToken_60 : decode prog_4_method_15_code 60 = .ok (.istore_n 1, 1) := by decide +kernel
theorem d_Rdr_readToken_61 : decode prog_4_method_15_code 61 = .ok (.iload_n 1, 1) := by decide +kernel
theorem d_Rdr_readToken_62 : decode prog_4_method_15_code 62 = .ok (.iconst (-1), 1) := by decide +kernel
theorem d_Rdr_readToken_63 : decode prog_4_method_15_code 63 = .ok (.if_icmp .ne 11, 3) := by decide +kernel
theorem d_Rdr_readToken_66 : decode prog_4_method_15_code 66 = .ok (.aload_n 0, 1) := by decide +kernel
theorem d_Rdr_readToken_67 : decode prog_4_method_15_code 67 = .ok (.iconst 0, 1) := by decide +kernel
theorem d_Rdr_readToken_68 : decode prog_4_method_15_code 68 = .ok (.putfield 63, 3) := by decide +kernel
theorem d_Rdr_readToken_71 : decode prog_4_method_15_code 71 = .ok (.goto 64, 3) := by decide +kernel
theorem d_Rdr_readToken_74 : decode prog_4_method_15_code 74 = .ok (.iload_n 1, 1) := by decide +kernel
theorem d_Rdr_readToken_75 : decode prog_4_method_15_code 75 = .ok (.invokestatic 135, 3) := by decide +kernel
theorem d_Rdr_readToken_78 : decode prog_4_method_15_code 78 = .ok (.ifCond .eq 24, 3) := by decide +kernel
theorem d_Rdr_readToken_81 : decode prog_4_method_15_code 81 = .ok (.aload_n 0, 1) := by decide +kernel
theorem d_Rdr_readToken_82 : decode prog_4_method_15_code 82 = .ok (.aload_n 0, 1) := by decide +kernel
theorem d_Rdr_readToken_83 : decode prog_4_method_15_code 83 = .ok (.bipush 7, 2) := by decide +kernel
theorem d_Rdr_readToken_85 : decode prog_4_method_15_code 85 = .ok (.invokevirtual 138, 3) := by decide +kernel
theorem d_Rdr_readToken_88 : decode prog_4_method_15_code 88 = .ok (.ifCond .eq 7, 3) := by decide +kernel
theorem d_Rdr_readToken_91 : decode prog_4_method_15_code 91 = .ok (.iconst 2, 1) := by decide +kernel
theorem d_Rdr_readToken_92 : decode prog_4_method_15_code 92 = .ok (.goto 4, 3) := by decide +kernel
theorem d_Rdr_readToken_95 : decode prog_4_method_15_code 95 = .ok (.iconst 1, 1) := by decide +kernel
theorem d_Rdr_readToken_96 : decode prog_4_method_15_code 96 = .ok (.putfield 63, 3) := by decide +kernel
theorem d_Rdr_readToken_99 : decode prog_4_method_15_code 99 = .ok (.goto 36, 3) := by decide +kernel
theorem d_Rdr_readToken_102 : decode prog_4_method_15_code 102 = .ok (.iload_n 1, 1) := by decide +kernel
theorem d_Rdr_readToken_103 : decode prog_4_method_15_code 103 = .ok (.invokestatic 141, 3) := by decide +kernel
theorem d_Rdr_readToken_106 : decode prog_4_method_15_code 106 = .ok (.ifCond .eq 14, 3) := by decide +kernel
theorem d_Rdr_readToken_109 : decode prog_4_method_15_code 109 = .ok (.aload_n 0, 1) := by decide +kernel
theorem d_Rdr_readToken_110 : decode prog_4_method_15_code 110 = .ok (.aload_n 0, 1) := by decide +kernel
theorem d_Rdr_readToken_111 : decode prog_4_method_15_code 111 = .ok (.invokevirtual 144, 3) := by decide +kernel
theorem d_Rdr_readToken_114 : decode prog_4_method_15_code 114 = .ok (.putfield 63, 3) := by decide +kernel
theorem d_Rdr_readToken_117 : decode prog_4_method_15_code 117 = .ok (.goto 18, 3) := by decide +kernel
theorem d_Rdr_readToken_120 : decode prog_4_method_15_code 120 = .ok (.aload_n 0, 1) := by decide +kernel
theorem d_Rdr_readToken_121 : decode prog_4_method_15_code 121 = .ok (.iload_n 1, 1) := by decide +kernel
theorem d_Rdr_readToken_122 : decode prog_4_method_15_code 122 = .ok (.putfield 63, 3) := by decide +kernel
theorem d_Rdr_readToken_125 : decode prog_4_method_15_code 125 = .ok (.aload_n 0, 1) := by decide +kernel
theorem d_Rdr_readToken_126 : decode prog_4_method_15_code 126 = .ok (.dup, 1) := by decide +kernel
theorem d_Rdr_readToken_127 : decode prog_4_method_15_code 127 = .ok (.getfield 42, 3) := by decide +kernel
theorem d_Rdr_readToken_130 : decode prog_4_method_15_code 130 = .ok (.iconst 1, 1) := by decide +kernel
theorem d_Rdr_readToken_131 : decode prog_4_method_15_code 131 = .ok (.iadd, 1) := by decide +kernel
theorem d_Rdr_readToken_132 : decode prog_4_method_15_code 132 = .ok (.putfield 42, 3) := by decide +kernel
theorem d_Rdr_readToken_135 : decode prog_4_method_15_code 135 = .ok (.return_, 1) := by decide +kernel
set_option maxHeartbeats 4000000 in
set_option maxRecDepth 100000 in
theorem c_Rdr_readToken (hP : zP b0 N f (wRdr ck A g len st)) (hlen : len ≤ 200) : zK l D ck ad b0 y_Rdr_readToken prog_4_method_15_code 2 (none) 6 0 0 [.ref (A 0)] N f (fun r N' f' => r = none ∧ N = N' ∧ zP b0 N f' (wRdr ck A g len ((zTok g len st.1, st.2))) ∧ zF N f f' (AA A)) := by
  refine zM.of zG_w (by decide) (Nat.le_of_ble_eq_true rfl) ?_
  intro zp ze zst zm zar zbe zme zc X hnm hb0
  have hF : zF N f f (AA A) := zF.rf
  have L2 : ∀ (nn : Nat) (i : Nat) (p : Int32) (f1 : Nat → va_E), (i ≤ 200 ∧ i + nn = 201) → zsk zbl g len 200 (st.1 10) = zsk zbl g len (200 - i) p → zP b0 N f1 (wRdr ck A g len (upd st.1 10 p, st.2)) → zF N f f1 (AA A) → zW zp l ze (zR 6 0 0) zst zm zar zbe zme zc D zcl b0 2 0 0 (MQ zbe (zQ D zcl b0 (fun r N' f' => r = none ∧ N = N' ∧ zP b0 N f' (wRdr ck A g len ((zTok g len st.1, st.2))) ∧ zF N f f' (AA A))) zar zst 0 0 (zA b0)) N f1 2 [(0, .ref (A 0)), (1, .int (nI i))] [] := by
    intro nn
    induction nn with
    | zero =>
      intro i p f1 hi hz0 hP hF
      omega
    | succ nn ih =>
      intro i p f1 hi hz0 hP hF
      refine z_iload_n X d_Rdr_readToken_2 rfl ?_
      refine z_sipush X d_Rdr_readToken_3 (v := 200) (by decide) ?_
      refine z_icmp_ge X 41 d_Rdr_readToken_6 (by decide) (fun h6 => ?_) (fun h6 => ?_)
      · skip
        have hi2 : i = 200 := by have := (nI_leI (a := 200) (b := i) (by decide) (by omega)).mp h6; omega
        subst hi2
        have hz : zsk zbl g len 200 (st.1 10) = p := hz0
        have ez : zTok g len st.1 = zTok2 g len (upd (upd st.1 10 p) 12 p) := by rw [zTok, hz]
        refine z_aload_n X d_Rdr_readToken_41 rfl ?_
        refine z_aload_n X d_Rdr_readToken_42 rfl ?_
        refine z_get X d_Rdr_readToken_43 (hP.lo 0 rfl) (hP.at 0 rfl) cl_Rdr in_Rdr 10 (by decide) fl_Rdr_42 rfl rfl ?_
        refine z_putP X t_Rdr ty_Rdr n_Rdr d_Rdr_readToken_46 hP 0 rfl cl_Rdr in_Rdr 12 (by decide) fl_Rdr_60 rfl rfl rfl rfl rfl (Nat.le_of_ble_eq_true rfl) (fun hP => ?_)
        have hF := hF.by (by simp) hP
        refine z_aload_n X d_Rdr_readToken_49 rfl ?_
        refine z_get X d_Rdr_readToken_50 (hP.lo 0 rfl) (hP.at 0 rfl) cl_Rdr in_Rdr 0 (by decide) fl_Rdr_12 rfl rfl ?_
        refine z_aload_n X d_Rdr_readToken_53 rfl ?_
        refine z_get X d_Rdr_readToken_54 (hP.lo 0 rfl) (hP.at 0 rfl) cl_Rdr in_Rdr 10 (by decide) fl_Rdr_42 rfl rfl ?_
        refine z_callV X zG_ok (c_Sgn_get (hP.sub [1, 2] (by decide) rfl) hlen) d_Rdr_readToken_57 ⟨(z_cb (n := 1) X.2.2.2.2.1 ml_Rdr_132 mc_Sgn_get ini_Sgn (by decide +kernel) rfl rfl ⟨Nat.le_of_ble_eq_true rfl, Nat.le_of_ble_eq_true rfl⟩), X.2.2.2.2.1 _ im_Sgn_get, X.2.2.2.2.1 _ sel_Sgn_get⟩ (hP.lo 1 rfl) (hP.at 1 rfl) cl_Sgn rfl rfl (Nat.le_of_ble_eq_true rfl) ⟨Nat.le_of_ble_eq_true rfl, Nat.le_of_ble_eq_true rfl⟩ (fun r N1 f1 hp hN1 => ?_)
        obtain ⟨rfl, rfl, rfl⟩ := hp
        refine z_istore_n X d_Rdr_readToken_60 (by decide) rfl ?_
        refine z_iload_n X d_Rdr_readToken_61 rfl ?_
        refine z_iconst X d_Rdr_readToken_62 (v := -1) (by decide) ?_
        refine z_icmp_ne X 74 d_Rdr_readToken_63 (by decide) (fun h63 => ?_) (fun h63 => ?_)
        · skip
          have h63 : ¬ sgv g len p = -1 := h63
          refine z_iload_n X d_Rdr_readToken_74 rfl ?_
          refine z_callS X zG_ok c_Rdr_isDigit d_Rdr_readToken_75 ⟨(z_cb (n := 1) X.2.2.2.2.1 ml_Rdr_135 mc_Rdr_isDigit ini_Rdr (by decide +kernel) rfl rfl ⟨Nat.le_of_ble_eq_true rfl, Nat.le_of_ble_eq_true rfl⟩), X.2.2.2.2.1 _ st_Rdr_isDigit⟩ rfl rfl (Nat.le_of_ble_eq_true rfl) ⟨Nat.le_of_ble_eq_true rfl, Nat.le_of_ble_eq_true rfl⟩ (fun r N1 f1 hp hN1 => ?_)
          obtain ⟨rfl, rfl, rfl⟩ := hp
          refine z_if_eq X 102 d_Rdr_readToken_78 (by decide) (fun h78 => ?_) (fun h78 => ?_)
          · skip
            have hdg : ¬ zdig (sgv g len p) = true := zb_f h78
            refine z_iload_n X d_Rdr_readToken_102 rfl ?_
            refine z_callS X zG_ok c_Rdr_isLetter d_Rdr_readToken_103 ⟨(z_cb (n := 1) X.2.2.2.2.1 ml_Rdr_141 mc_Rdr_isLetter ini_Rdr (by decide +kernel) rfl rfl ⟨Nat.le_of_ble_eq_true rfl, Nat.le_of_ble_eq_true rfl⟩), X.2.2.2.2.1 _ st_Rdr_isLetter⟩ rfl rfl (Nat.le_of_ble_eq_true rfl) ⟨Nat.le_of_ble_eq_true rfl, Nat.le_of_ble_eq_true rfl⟩ (fun r N1 f1 hp hN1 => ?_)
            obtain ⟨rfl, rfl, rfl⟩ := hp
            refine z_if_eq X 120 d_Rdr_readToken_106 (by decide) (fun h106 => ?_) (fun h106 => ?_)
            · skip
              have hlt : ¬ zlet (sgv g len p) = true := zb_f h106
              have e9 : zTok g len st.1 = upd (upd (upd (upd st.1 10 p) 12 p) 11 (sgv g len p)) 10 (p + 1) := by rw [ez, zTok2, if_neg (show ¬ sgv g len ((upd (upd st.1 10 p) 12 p) 10) = -1 from h63), if_neg (show ¬ zdig (sgv g len ((upd (upd st.1 10 p) 12 p) 10)) = true from hdg), if_neg (show ¬ zlet (sgv g len ((upd (upd st.1 10 p) 12 p) 10)) = true from hlt)]; rfl
              refine z_aload_n X d_Rdr_readToken_120 rfl ?_
              refine z_iload_n X d_Rdr_readToken_121 rfl ?_
              refine z_putP X t_Rdr ty_Rdr n_Rdr d_Rdr_readToken_122 hP 0 rfl cl_Rdr in_Rdr 11 (by decide) fl_Rdr_63 rfl rfl rfl rfl rfl (Nat.le_of_ble_eq_true rfl) (fun hP => ?_)
              have hF := hF.by (by simp) hP
              refine z_aload_n X d_Rdr_readToken_125 rfl ?_
              refine z_dup X d_Rdr_readToken_126 rfl ?_
              refine z_get X d_Rdr_readToken_127 (hP.lo 0 rfl) (hP.at 0 rfl) cl_Rdr in_Rdr 10 (by decide) fl_Rdr_42 rfl rfl ?_
              refine z_iconst X d_Rdr_readToken_130 (v := 1) (by decide) ?_
              refine z_iadd X d_Rdr_readToken_131 ?_
              refine z_putP X t_Rdr ty_Rdr n_Rdr d_Rdr_readToken_132 hP 0 rfl cl_Rdr in_Rdr 10 (by decide) fl_Rdr_42 rfl rfl rfl rfl rfl (Nat.le_of_ble_eq_true rfl) (fun hP => ?_)
              have hF := hF.by (by simp) hP
              exact z_vret X d_Rdr_readToken_135 ⟨rfl, rfl, by rw [e9]; exact hP, hF⟩
            · skip
              have hlt : zlet (sgv g len p) = true := zb_t h106
              have e9 : zTok g len st.1 = upd (zWord g len (upd (upd st.1 10 p) 12 p)).2 11 (zWord g len (upd (upd st.1 10 p) 12 p)).1 := by rw [ez, zTok2, if_neg (show ¬ sgv g len ((upd (upd st.1 10 p) 12 p) 10) = -1 from h63), if_neg (show ¬ zdig (sgv g len ((upd (upd st.1 10 p) 12 p) 10)) = true from hdg), if_pos (show zlet (sgv g len ((upd (upd st.1 10 p) 12 p) 10)) = true from hlt)]
              refine z_aload_n X d_Rdr_readToken_109 rfl ?_
              refine z_aload_n X d_Rdr_readToken_110 rfl ?_
              refine z_callV X zG_ok (c_Rdr_readWord (st := (upd (upd st.1 10 p) 12 p, st.2)) hP hlen) d_Rdr_readToken_111 ⟨(z_cb (n := 0) X.2.2.2.2.1 ml_Rdr_144 mc_Rdr_readWord ini_Rdr (by decide +kernel) rfl rfl ⟨Nat.le_of_ble_eq_true rfl, Nat.le_of_ble_eq_true rfl⟩), X.2.2.2.2.1 _ im_Rdr_readWord, X.2.2.2.2.1 _ sel_Rdr_readWord⟩ (hP.lo 0 rfl) (hP.at 0 rfl) cl_Rdr rfl rfl (Nat.le_of_ble_eq_true rfl) ⟨Nat.le_of_ble_eq_true rfl, Nat.le_of_ble_eq_true rfl⟩ (fun r N1 f1 hp hN1 => ?_)
              obtain ⟨rfl, rfl, hP, hF1⟩ := hp
              have hF := hF.join hF1 (Nat.le_refl _) (fun _ h => Or.inl h)
              refine z_putP X t_Rdr ty_Rdr n_Rdr d_Rdr_readToken_114 hP 0 rfl cl_Rdr in_Rdr 11 (by decide) fl_Rdr_63 rfl rfl rfl rfl rfl (Nat.le_of_ble_eq_true rfl) (fun hP => ?_)
              have hF := hF.by (by simp) hP
              refine z_goto X 135 d_Rdr_readToken_117 (by decide) ?_
              exact z_vret X d_Rdr_readToken_135 ⟨rfl, rfl, by rw [e9]; exact hP, hF⟩
          · skip
            have hdg : zdig (sgv g len p) = true := zb_t h78
            have e8 : zTok g len st.1 = upd (zNum g len 7 (upd (upd st.1 10 p) 12 p)).2 11 (if (zNum g len 7 (upd (upd st.1 10 p) 12 p)).1 = true then 2 else 1) := by rw [ez, zTok2, if_neg (show ¬ sgv g len ((upd (upd st.1 10 p) 12 p) 10) = -1 from h63), if_pos (show zdig (sgv g len ((upd (upd st.1 10 p) 12 p) 10)) = true from hdg)]
            refine z_aload_n X d_Rdr_readToken_81 rfl ?_
            refine z_aload_n X d_Rdr_readToken_82 rfl ?_
            refine z_bipush X d_Rdr_readToken_83 (v := 7) (by decide) ?_
            refine z_callV X zG_ok (c_Rdr_readNumber (st := (upd (upd st.1 10 p) 12 p, st.2)) hP hlen) d_Rdr_readToken_85 ⟨(z_cb (n := 1) X.2.2.2.2.1 ml_Rdr_138 mc_Rdr_readNumber ini_Rdr (by decide +kernel) rfl rfl ⟨Nat.le_of_ble_eq_true rfl, Nat.le_of_ble_eq_true rfl⟩), X.2.2.2.2.1 _ im_Rdr_readNumber, X.2.2.2.2.1 _ sel_Rdr_readNumber⟩ (hP.lo 0 rfl) (hP.at 0 rfl) cl_Rdr rfl rfl (Nat.le_of_ble_eq_true rfl) ⟨Nat.le_of_ble_eq_true rfl, Nat.le_of_ble_eq_true rfl⟩ (fun r N1 f1 hp hN1 => ?_)
            obtain ⟨rfl, rfl, hP, hF1⟩ := hp
            have hF := hF.join hF1 (Nat.le_refl _) (fun _ h => Or.inl h)
            refine z_if_eq X 95 d_Rdr_readToken_88 (by decide) (fun h88 => ?_) (fun h88 => ?_)
            · skip
              have nb := zb_0.mp h88
              have e9 := e8
              rw [if_neg (by rw [nb]; decide)] at e9
              refine z_iconst X d_Rdr_readToken_95 (v := 1) (by decide) ?_
              refine z_putP X t_Rdr ty_Rdr n_Rdr d_Rdr_readToken_96 hP 0 rfl cl_Rdr in_Rdr 11 (by decide) fl_Rdr_63 rfl rfl rfl rfl rfl (Nat.le_of_ble_eq_true rfl) (fun hP => ?_)
              have hF := hF.by (by simp) hP
              refine z_goto X 135 d_Rdr_readToken_99 (by decide) ?_
              exact z_vret X d_Rdr_readToken_135 ⟨rfl, rfl, by rw [e9]; exact hP, hF⟩
            · skip
              have nb : (zNum g len 7 (upd (upd st.1 10 p) 12 p)).1 = true := by
                cases hq : (zNum g len 7 (upd (upd st.1 10 p) 12 p)).1
                · exact absurd (zb_0.mpr hq) h88
                · rfl
              have e9 := e8
              rw [if_pos nb] at e9
              refine z_iconst X d_Rdr_readToken_91 (v := 2) (by decide) ?_
              refine z_goto X 96 d_Rdr_readToken_92 (by decide) ?_
              refine z_putP X t_Rdr ty_Rdr n_Rdr d_Rdr_readToken_96 hP 0 rfl cl_Rdr in_Rdr 11 (by decide) fl_Rdr_63 rfl rfl rfl rfl rfl (Nat.le_of_ble_eq_true rfl) (fun hP => ?_)
              have hF := hF.by (by simp) hP
              refine z_goto X 135 d_Rdr_readToken_99 (by decide) ?_
              exact z_vret X d_Rdr_readToken_135 ⟨rfl, rfl, by rw [e9]; exact hP, hF⟩
        · skip
          have h63 : sgv g len p = -1 := h63
          have e9 : zTok g len st.1 = upd (upd (upd st.1 10 p) 12 p) 11 0 := by rw [ez, zTok2, if_pos (show sgv g len ((upd (upd st.1 10 p) 12 p) 10) = -1 from h63)]
          refine z_aload_n X d_Rdr_readToken_66 rfl ?_
          refine z_iconst X d_Rdr_readToken_67 (v := 0) (by decide) ?_
          refine z_putP X t_Rdr ty_Rdr n_Rdr d_Rdr_readToken_68 hP 0 rfl cl_Rdr in_Rdr 11 (by decide) fl_Rdr_63 rfl rfl rfl rfl rfl (Nat.le_of_ble_eq_true rfl) (fun hP => ?_)
          have hF := hF.by (by simp) hP
          refine z_goto X 135 d_Rdr_readToken_71 (by decide) ?_
          exact z_vret X d_Rdr_readToken_135 ⟨rfl, rfl, by rw [e9]; exact hP, hF⟩
      · skip
        have hi2 : i < 200 := by
          rcases Nat.lt_or_ge i 200 with z | z
          · exact z
          · exact absurd (nI_le (a := 200) (b := i) z (by omega)) h6
        refine z_aload_n X d_Rdr_readToken_9 rfl ?_
        refine z_get X d_Rdr_readToken_10 (hP.lo 0 rfl) (hP.at 0 rfl) cl_Rdr in_Rdr 0 (by decide) fl_Rdr_12 rfl rfl ?_
        refine z_aload_n X d_Rdr_readToken_13 rfl ?_
        refine z_get X d_Rdr_readToken_14 (hP.lo 0 rfl) (hP.at 0 rfl) cl_Rdr in_Rdr 10 (by decide) fl_Rdr_42 rfl rfl ?_
        refine z_callV X zG_ok (c_Sgn_get (hP.sub [1, 2] (by decide) rfl) hlen) d_Rdr_readToken_17 ⟨(z_cb (n := 1) X.2.2.2.2.1 ml_Rdr_132 mc_Sgn_get ini_Sgn (by decide +kernel) rfl rfl ⟨Nat.le_of_ble_eq_true rfl, Nat.le_of_ble_eq_true rfl⟩), X.2.2.2.2.1 _ im_Sgn_get, X.2.2.2.2.1 _ sel_Sgn_get⟩ (hP.lo 1 rfl) (hP.at 1 rfl) cl_Sgn rfl rfl (Nat.le_of_ble_eq_true rfl) ⟨Nat.le_of_ble_eq_true rfl, Nat.le_of_ble_eq_true rfl⟩ (fun r N1 f1 hp hN1 => ?_)
        obtain ⟨rfl, rfl, rfl⟩ := hp
        refine z_bipush X d_Rdr_readToken_20 (v := 32) (by decide) ?_
        refine z_icmp_ne X 41 d_Rdr_readToken_22 (by decide) (fun h22 => ?_) (fun h22 => ?_)
        · skip
          have hd : ¬ zbl (sgv g len p) = true := fun z => h22 (of_decide_eq_true z)
          have hz : zsk zbl g len 200 (st.1 10) = p := by rw [hz0, show 200 - i = (200 - (i + 1)) + 1 by omega, zsk, if_neg hd]
          have ez : zTok g len st.1 = zTok2 g len (upd (upd st.1 10 p) 12 p) := by rw [zTok, hz]
          refine z_aload_n X d_Rdr_readToken_41 rfl ?_
          refine z_aload_n X d_Rdr_readToken_42 rfl ?_
          refine z_get X d_Rdr_readToken_43 (hP.lo 0 rfl) (hP.at 0 rfl) cl_Rdr in_Rdr 10 (by decide) fl_Rdr_42 rfl rfl ?_
          refine z_putP X t_Rdr ty_Rdr n_Rdr d_Rdr_readToken_46 hP 0 rfl cl_Rdr in_Rdr 12 (by decide) fl_Rdr_60 rfl rfl rfl rfl rfl (Nat.le_of_ble_eq_true rfl) (fun hP => ?_)
          have hF := hF.by (by simp) hP
          refine z_aload_n X d_Rdr_readToken_49 rfl ?_
          refine z_get X d_Rdr_readToken_50 (hP.lo 0 rfl) (hP.at 0 rfl) cl_Rdr in_Rdr 0 (by decide) fl_Rdr_12 rfl rfl ?_
          refine z_aload_n X d_Rdr_readToken_53 rfl ?_
          refine z_get X d_Rdr_readToken_54 (hP.lo 0 rfl) (hP.at 0 rfl) cl_Rdr in_Rdr 10 (by decide) fl_Rdr_42 rfl rfl ?_
          refine z_callV X zG_ok (c_Sgn_get (hP.sub [1, 2] (by decide) rfl) hlen) d_Rdr_readToken_57 ⟨(z_cb (n := 1) X.2.2.2.2.1 ml_Rdr_132 mc_Sgn_get ini_Sgn (by decide +kernel) rfl rfl ⟨Nat.le_of_ble_eq_true rfl, Nat.le_of_ble_eq_true rfl⟩), X.2.2.2.2.1 _ im_Sgn_get, X.2.2.2.2.1 _ sel_Sgn_get⟩ (hP.lo 1 rfl) (hP.at 1 rfl) cl_Sgn rfl rfl (Nat.le_of_ble_eq_true rfl) ⟨Nat.le_of_ble_eq_true rfl, Nat.le_of_ble_eq_true rfl⟩ (fun r N1 f1 hp hN1 => ?_)
          obtain ⟨rfl, rfl, rfl⟩ := hp
          refine z_istore_n X d_Rdr_readToken_60 (by decide) rfl ?_
          refine z_iload_n X d_Rdr_readToken_61 rfl ?_
          refine z_iconst X d_Rdr_readToken_62 (v := -1) (by decide) ?_
          refine z_icmp_ne X 74 d_Rdr_readToken_63 (by decide) (fun h63 => ?_) (fun h63 => ?_)
          · skip
            have h63 : ¬ sgv g len p = -1 := h63
            refine z_iload_n X d_Rdr_readToken_74 rfl ?_
            refine z_callS X zG_ok c_Rdr_isDigit d_Rdr_readToken_75 ⟨(z_cb (n := 1) X.2.2.2.2.1 ml_Rdr_135 mc_Rdr_isDigit ini_Rdr (by decide +kernel) rfl rfl ⟨Nat.le_of_ble_eq_true rfl, Nat.le_of_ble_eq_true rfl⟩), X.2.2.2.2.1 _ st_Rdr_isDigit⟩ rfl rfl (Nat.le_of_ble_eq_true rfl) ⟨Nat.le_of_ble_eq_true rfl, Nat.le_of_ble_eq_true rfl⟩ (fun r N1 f1 hp hN1 => ?_)
            obtain ⟨rfl, rfl, rfl⟩ := hp
            refine z_if_eq X 102 d_Rdr_readToken_78 (by decide) (fun h78 => ?_) (fun h78 => ?_)
            · skip
              have hdg : ¬ zdig (sgv g len p) = true := zb_f h78
              refine z_iload_n X d_Rdr_readToken_102 rfl ?_
              refine z_callS X zG_ok c_Rdr_isLetter d_Rdr_readToken_103 ⟨(z_cb (n := 1) X.2.2.2.2.1 ml_Rdr_141 mc_Rdr_isLetter ini_Rdr (by decide +kernel) rfl rfl ⟨Nat.le_of_ble_eq_true rfl, Nat.le_of_ble_eq_true rfl⟩), X.2.2.2.2.1 _ st_Rdr_isLetter⟩ rfl rfl (Nat.le_of_ble_eq_true rfl) ⟨Nat.le_of_ble_eq_true rfl, Nat.le_of_ble_eq_true rfl⟩ (fun r N1 f1 hp hN1 => ?_)
              obtain ⟨rfl, rfl, rfl⟩ := hp
              refine z_if_eq X 120 d_Rdr_readToken_106 (by decide) (fun h106 => ?_) (fun h106 => ?_)
              · skip
                have hlt : ¬ zlet (sgv g len p) = true := zb_f h106
                have e9 : zTok g len st.1 = upd (upd (upd (upd st.1 10 p) 12 p) 11 (sgv g len p)) 10 (p + 1) := by rw [ez, zTok2, if_neg (show ¬ sgv g len ((upd (upd st.1 10 p) 12 p) 10) = -1 from h63), if_neg (show ¬ zdig (sgv g len ((upd (upd st.1 10 p) 12 p) 10)) = true from hdg), if_neg (show ¬ zlet (sgv g len ((upd (upd st.1 10 p) 12 p) 10)) = true from hlt)]; rfl
                refine z_aload_n X d_Rdr_readToken_120 rfl ?_
                refine z_iload_n X d_Rdr_readToken_121 rfl ?_
                refine z_putP X t_Rdr ty_Rdr n_Rdr d_Rdr_readToken_122 hP 0 rfl cl_Rdr in_Rdr 11 (by decide) fl_Rdr_63 rfl rfl rfl rfl rfl (Nat.le_of_ble_eq_true rfl) (fun hP => ?_)
                have hF := hF.by (by simp) hP
                refine z_aload_n X d_Rdr_readToken_125 rfl ?_
                refine z_dup X d_Rdr_readToken_126 rfl ?_
                refine z_get X d_Rdr_readToken_127 (hP.lo 0 rfl) (hP.at 0 rfl) cl_Rdr in_Rdr 10 (by decide) fl_Rdr_42 rfl rfl ?_
                refine z_iconst X d_Rdr_readToken_130 (v := 1) (by decide) ?_
                refine z_iadd X d_Rdr_readToken_131 ?_
                refine z_putP X t_Rdr ty_Rdr n_Rdr d_Rdr_readToken_132 hP 0 rfl cl_Rdr in_Rdr 10 (by decide) fl_Rdr_42 rfl rfl rfl rfl rfl (Nat.le_of_ble_eq_true rfl) (fun hP => ?_)
                have hF := hF.by (by simp) hP
                exact z_vret X d_Rdr_readToken_135 ⟨rfl, rfl, by rw [e9]; exact hP, hF⟩
              · skip
                have hlt : zlet (sgv g len p) = true := zb_t h106
                have e9 : zTok g len st.1 = upd (zWord g len (upd (upd st.1 10 p) 12 p)).2 11 (zWord g len (upd (upd st.1 10 p) 12 p)).1 := by rw [ez, zTok2, if_neg (show ¬ sgv g len ((upd (upd st.1 10 p) 12 p) 10) = -1 from h63), if_neg (show ¬ zdig (sgv g len ((upd (upd st.1 10 p) 12 p) 10)) = true from hdg), if_pos (show zlet (sgv g len ((upd (upd st.1 10 p) 12 p) 10)) = true from hlt)]
                refine z_aload_n X d_Rdr_readToken_109 rfl ?_
                refine z_aload_n X d_Rdr_readToken_110 rfl ?_
                refine z_callV X zG_ok (c_Rdr_readWord (st := (upd (upd st.1 10 p) 12 p, st.2)) hP hlen) d_Rdr_readToken_111 ⟨(z_cb (n := 0) X.2.2.2.2.1 ml_Rdr_144 mc_Rdr_readWord ini_Rdr (by decide +kernel) rfl rfl ⟨Nat.le_of_ble_eq_true rfl, Nat.le_of_ble_eq_true rfl⟩), X.2.2.2.2.1 _ im_Rdr_readWord, X.2.2.2.2.1 _ sel_Rdr_readWord⟩ (hP.lo 0 rfl) (hP.at 0 rfl) cl_Rdr rfl rfl (Nat.le_of_ble_eq_true rfl) ⟨Nat.le_of_ble_eq_true rfl, Nat.le_of_ble_eq_true rfl⟩ (fun r N1 f1 hp hN1 => ?_)
                obtain ⟨rfl, rfl, hP, hF1⟩ := hp
                have hF := hF.join hF1 (Nat.le_refl _) (fun _ h => Or.inl h)
                refine z_putP X t_Rdr ty_Rdr n_Rdr d_Rdr_readToken_114 hP 0 rfl cl_Rdr in_Rdr 11 (by decide) fl_Rdr_63 rfl rfl rfl rfl rfl (Nat.le_of_ble_eq_true rfl) (fun hP => ?_)
                have hF := hF.by (by simp) hP
                refine z_goto X 135 d_Rdr_readToken_117 (by decide) ?_
                exact z_vret X d_Rdr_readToken_135 ⟨rfl, rfl, by rw [e9]; exact hP, hF⟩
            · skip
              have hdg : zdig (sgv g len p) = true := zb_t h78
              have e8 : zTok g len st.1 = upd (zNum g len 7 (upd (upd st.1 10 p) 12 p)).2 11 (if (zNum g len 7 (upd (upd st.1 10 p) 12 p)).1 = true then 2 else 1) := by rw [ez, zTok2, if_neg (show ¬ sgv g len ((upd (upd st.1 10 p) 12 p) 10) = -1 from h63), if_pos (show zdig (sgv g len ((upd (upd st.1 10 p) 12 p) 10)) = true from hdg)]
              refine z_aload_n X d_Rdr_readToken_81 rfl ?_
              refine z_aload_n X d_Rdr_readToken_82 rfl ?_
              refine z_bipush X d_Rdr_readToken_83 (v := 7) (by decide) ?_
              refine z_callV X zG_ok (c_Rdr_readNumber (st := (upd (upd st.1 10 p) 12 p, st.2)) hP hlen) d_Rdr_readToken_85 ⟨(z_cb (n := 1) X.2.2.2.2.1 ml_Rdr_138 mc_Rdr_readNumber ini_Rdr (by decide +kernel) rfl rfl ⟨Nat.le_of_ble_eq_true rfl, Nat.le_of_ble_eq_true rfl⟩), X.2.2.2.2.1 _ im_Rdr_readNumber, X.2.2.2.2.1 _ sel_Rdr_readNumber⟩ (hP.lo 0 rfl) (hP.at 0 rfl) cl_Rdr rfl rfl (Nat.le_of_ble_eq_true rfl) ⟨Nat.le_of_ble_eq_true rfl, Nat.le_of_ble_eq_true rfl⟩ (fun r N1 f1 hp hN1 => ?_)
              obtain ⟨rfl, rfl, hP, hF1⟩ := hp
              have hF := hF.join hF1 (Nat.le_refl _) (fun _ h => Or.inl h)
              refine z_if_eq X 95 d_Rdr_readToken_88 (by decide) (fun h88 => ?_) (fun h88 => ?_)
              · skip
                have nb := zb_0.mp h88
                have e9 := e8
                rw [if_neg (by rw [nb]; decide)] at e9
                refine z_iconst X d_Rdr_readToken_95 (v := 1) (by decide) ?_
                refine z_putP X t_Rdr ty_Rdr n_Rdr d_Rdr_readToken_96 hP 0 rfl cl_Rdr in_Rdr 11 (by decide) fl_Rdr_63 rfl rfl rfl rfl rfl (Nat.le_of_ble_eq_true rfl) (fun hP => ?_)
                have hF := hF.by (by simp) hP
                refine z_goto X 135 d_Rdr_readToken_99 (by decide) ?_
                exact z_vret X d_Rdr_readToken_135 ⟨rfl, rfl, by rw [e9]; exact hP, hF⟩
              · skip
                have nb : (zNum g len 7 (upd (upd st.1 10 p) 12 p)).1 = true := by
                  cases hq : (zNum g len 7 (upd (upd st.1 10 p) 12 p)).1
                  · exact absurd (zb_0.mpr hq) h88
                  · rfl
                have e9 := e8
                rw [if_pos nb] at e9
                refine z_iconst X d_Rdr_readToken_91 (v := 2) (by decide) ?_
                refine z_goto X 96 d_Rdr_readToken_92 (by decide) ?_
                refine z_putP X t_Rdr ty_Rdr n_Rdr d_Rdr_readToken_96 hP 0 rfl cl_Rdr in_Rdr 11 (by decide) fl_Rdr_63 rfl rfl rfl rfl rfl (Nat.le_of_ble_eq_true rfl) (fun hP => ?_)
                have hF := hF.by (by simp) hP
                refine z_goto X 135 d_Rdr_readToken_99 (by decide) ?_
                exact z_vret X d_Rdr_readToken_135 ⟨rfl, rfl, by rw [e9]; exact hP, hF⟩
          · skip
            have h63 : sgv g len p = -1 := h63
            have e9 : zTok g len st.1 = upd (upd (upd st.1 10 p) 12 p) 11 0 := by rw [ez, zTok2, if_pos (show sgv g len ((upd (upd st.1 10 p) 12 p) 10) = -1 from h63)]
            refine z_aload_n X d_Rdr_readToken_66 rfl ?_
            refine z_iconst X d_Rdr_readToken_67 (v := 0) (by decide) ?_
            refine z_putP X t_Rdr ty_Rdr n_Rdr d_Rdr_readToken_68 hP 0 rfl cl_Rdr in_Rdr 11 (by decide) fl_Rdr_63 rfl rfl rfl rfl rfl (Nat.le_of_ble_eq_true rfl) (fun hP => ?_)
            have hF := hF.by (by simp) hP
            refine z_goto X 135 d_Rdr_readToken_71 (by decide) ?_
            exact z_vret X d_Rdr_readToken_135 ⟨rfl, rfl, by rw [e9]; exact hP, hF⟩
        · skip
          have hd : zbl (sgv g len p) = true := decide_eq_true h22
          refine z_aload_n X d_Rdr_readToken_25 rfl ?_
          refine z_dup X d_Rdr_readToken_26 rfl ?_
          refine z_get X d_Rdr_readToken_27 (hP.lo 0 rfl) (hP.at 0 rfl) cl_Rdr in_Rdr 10 (by decide) fl_Rdr_42 rfl rfl ?_
          refine z_iconst X d_Rdr_readToken_30 (v := 1) (by decide) ?_
          refine z_iadd X d_Rdr_readToken_31 ?_
          refine z_putP X t_Rdr ty_Rdr n_Rdr d_Rdr_readToken_32 hP 0 rfl cl_Rdr in_Rdr 10 (by decide) fl_Rdr_42 rfl rfl rfl rfl rfl (Nat.le_of_ble_eq_true rfl) (fun hP => ?_)
          have hF := hF.by (by simp) hP
          refine z_iinc X d_Rdr_readToken_35 rfl (nI_1 _) (by decide) rfl ?_
          refine z_goto X 2 d_Rdr_readToken_38 (by decide) ?_
          refine ih (i + 1) (p + 1) _ (by omega) ?_ hP hF
          rw [hz0, show 200 - i = (200 - (i + 1)) + 1 by omega, zsk, if_pos hd]
  refine z_iconst X d_Rdr_readToken_0 (v := 0) (by decide) ?_
  refine z_istore_n X d_Rdr_readToken_1 (by decide) rfl ?_
  exact L2 201 0 (st.1 10) f (by omega) rfl (by rw [upd_self10]; exact hP) hF
end
end
section
theorem zM.mono {l : Launch} {D : va_G} {cl : List vw_C} {tys : List (ClassId × FieldType)} {b0 : Nat} {G : State → Prop} {y : MethodName} {ws : List Cond} {rm : Room} {mc ms : Nat} {As : List Value} {N : Nat} {f : Nat → va_E} {P P' : Option Value → Nat → (Nat → va_E) → Prop} (h : zM l D cl tys b0 G y ws rm mc ms As N f P) (hm : ∀ r N' f', P r N' f' → P' r N' f') : zM l D cl tys b0 G y ws rm mc ms As N f P' := by
  intro p e hl h1 h2 s m args below hfr hap hP hK
  obtain ⟨n, o, a, b, c, ⟨r, N', f', q1, q2, q3, q4, q5⟩, hL⟩ := h p e hl h1 h2 s m args below hfr hap hP hK
  exact ⟨n, o, a, b, c, ⟨r, N', f', q1, q2, q3, q4, hm _ _ _ q5⟩, hL⟩
/-- the tree's rows behind append, insert, setLastValue -/
def tApp (kd x : Int32) (ts : TSt) : Bool × TSt := if ts.2.2.2 < 40 then (true, (upd ts.1 ts.2.2.2 kd, upd ts.2.1 ts.2.2.2 x, upd ts.2.2.1 ts.2.2.2 (-1), ts.2.2.2 + 1)) else (false, ts)
def tIns (pl kd : Int32) (ts : TSt) : Bool × TSt := if pl < 0 ∨ nI ts.2.2.2 < pl then (false, ts) else if ts.2.2.2 < 40 then (true, (insK ts.1 ts.2.2.2 pl.toNatClampNeg kd, insK ts.2.1 ts.2.2.2 pl.toNatClampNeg (-1), insR ts.2.2.1 ts.2.2.2 pl.toNatClampNeg, ts.2.2.2 + 1)) else (false, ts)
def tSet (x : Int32) (ts : TSt) : TSt := (ts.1, (if 0 < ts.2.2.2 then upd ts.2.1 (ts.2.2.2 - 1) x else ts.2.1), ts.2.2.1, ts.2.2.2)
theorem tApp_u {kd x : Int32} {ts : TSt} (h : ts.2.2.2 ≤ 40) : (tApp kd x ts).2.2.2.2 ≤ 40 := by
  rw [tApp]; by_cases q : ts.2.2.2 < 40
  · rw [if_pos q]; show ts.2.2.2 + 1 ≤ 40; omega
  · rw [if_neg q]; exact h
theorem tIns_u {pl kd : Int32} {ts : TSt} (h : ts.2.2.2 ≤ 40) : (tIns pl kd ts).2.2.2.2 ≤ 40 := by
  rw [tIns]; by_cases z : pl < 0 ∨ nI ts.2.2.2 < pl
  · rw [if_pos z]; exact h
  · rw [if_neg z]; by_cases q : ts.2.2.2 < 40
    · rw [if_pos q]; show ts.2.2.2 + 1 ≤ 40; omega
    · rw [if_neg q]; exact h
abbrev wT (ck : Nat → ClassId) (tr ka va ra : Nat) (ts : TSt) : va_W := wTre ck tr ka va ra 40 ts.1 ts.2.1 ts.2.2.1 ts.2.2.2
def bGo (st : RSt) : Bool × RSt := if st.1 6 < 10 then (true, (upd st.1 6 (st.1 6 + 1), st.2)) else (false, st)
def bBeg (nx : Int32) (st : RSt) : Bool × RSt := ((rBeg nx st).1 == 1, (rBeg nx st).2)
def bEnd (st : RSt) : Bool × RSt := ((rEnd st).1 == 1, (rEnd st).2)
theorem rGo_b (st : RSt) : (rGo st).1 = zb (bGo st).1 ∧ (rGo st).2 = (bGo st).2 := by
  rw [rGo, bGo]; by_cases h : st.1 6 < 10
  · rw [if_pos h, if_pos h]; exact ⟨rfl, rfl⟩
  · rw [if_neg h, if_neg h]; exact ⟨rfl, rfl⟩
theorem rBeg_b (nx : Int32) (st : RSt) : (rBeg nx st).1 = zb (bBeg nx st).1 := by
  rw [bBeg, rBeg]; by_cases h : nx < 0
  · rw [if_pos h]; rfl
  · rw [if_neg h]; by_cases h2 : nx < 11
    · rw [if_pos h2]; rfl
    · rw [if_neg h2]; rfl
theorem rEnd_b (st : RSt) : (rEnd st).1 = zb (bEnd st).1 := by
  rw [bEnd, rEnd]; by_cases h : st.1 5 < 1
  · rw [if_pos h]; rfl
  · rw [if_neg h]; by_cases h2 : st.1 5 < 11
    · rw [if_pos h2]; rfl
    · rw [if_neg h2]; rfl
theorem bGo_t (st : RSt) : (bGo st).2.2 = st.2 := by
  rw [bGo]; by_cases h : st.1 6 < 10
  · rw [if_pos h]
  · rw [if_neg h]
theorem bBeg_t (nx : Int32) (st : RSt) : (bBeg nx st).2.2.1 = st.2.1 := by
  rw [bBeg, rBeg]; by_cases h : nx < 0
  · rw [if_pos h]
  · rw [if_neg h]; by_cases h2 : nx < 11
    · rw [if_pos h2]
    · rw [if_neg h2]
theorem bEnd_t (st : RSt) : (bEnd st).2.2 = st.2 := by
  rw [bEnd, rEnd]; by_cases h : st.1 5 < 1
  · rw [if_pos h]
  · rw [if_neg h]; by_cases h2 : st.1 5 < 11
    · rw [if_pos h2]
    · rw [if_neg h2]
/-- the reader with another tree; its field k set -/
def bTr (r : Bool × TSt) (st : RSt) : Bool × RSt := (r.1, (st.1, r.2, st.2.2))
def qs (k : Nat) (v : Int32) (st : RSt) : RSt := (upd st.1 k v, st.2)
/-- Reader.takeTerm, takeFieldOfSum, compare, takeBehindPart, takeBehindTerm, takePart, takeToken -/
def bTerm (st : RSt) : Bool × RSt := if st.1 11 = 2 then bTr (tApp 11 (st.1 13) st.2.1) (qs 9 4 st) else if st.1 11 = 3 then bTr (tApp 12 (st.1 13) st.2.1) (qs 9 4 st) else if st.1 11 = 6 then bTr (tApp 13 (-1) st.2.1) (qs 9 3 st) else if st.1 11 = 7 then bTr (tApp 14 (-1) st.2.1) (qs 9 3 st) else (false, st)
def bFos (st : RSt) : Bool × RSt := if st.1 11 = 3 then (true, (upd st.1 9 4, tSet (st.1 13) st.2.1, st.2.2)) else (false, st)
def bCmp (st : RSt) : Bool × RSt := if (tIns (st.1 7) (rKind st) st.2.1).1 = true then (true, (upd (upd (upd st.1 8 1) 7 (nI (tIns (st.1 7) (rKind st) st.2.1).2.2.2.2)) 9 2, (tIns (st.1 7) (rKind st) st.2.1).2, st.2.2)) else (false, (st.1, (tIns (st.1 7) (rKind st) st.2.1).2, st.2.2))
def bBP1 (st : RSt) : Bool × RSt :=
  if st.1 11 = 38 then bTr (tIns (st.2.2.2.1 (st.1 5).toNatClampNeg) 1 st.2.1) (qs 9 0 st)
  else if st.1 11 = 41 then bEnd st
  else if st.1 11 = 124 then ((tIns (st.2.2.1 (st.1 5).toNatClampNeg) 0 st.2.1).1, (upd st.1 9 0, (tIns (st.2.2.1 (st.1 5).toNatClampNeg) 0 st.2.1).2, st.2.2.1, upd st.2.2.2.1 (st.1 5).toNatClampNeg (nI (tIns (st.2.2.1 (st.1 5).toNatClampNeg) 0 st.2.1).2.2.2.2), st.2.2.2.2))
  else (decide (st.1 11 = 0) && decide (st.1 5 = 0), st)
def bBP (st : RSt) : Bool × RSt := if st.1 5 < 0 then (false, st) else if st.1 5 < 11 then bBP1 (qs 6 (st.2.2.2.2 (st.1 5).toNatClampNeg) st) else (false, st)
def bBT (st : RSt) : Bool × RSt :=
  if st.1 11 = 43 ∨ st.1 11 = 45 then bTr (tIns (st.1 7) (rKind st) st.2.1) (qs 9 2 st)
  else if st.1 11 = 35 ∨ st.1 11 = 60 ∨ st.1 11 = 61 ∨ st.1 11 = 62 then (if st.1 8 = 0 then bCmp st else (false, st))
  else if st.1 8 = 0 then (false, st) else bBP st
def bAnd (r : Bool × RSt) (k : RSt → Bool × RSt) : Bool × RSt := if r.1 = true then k r.2 else (false, r.2)
def bPart (st : RSt) : Bool × RSt :=
  if st.1 11 = 33 then bAnd (bGo st) (fun s => bTr (tApp 2 (-1) s.2.1) s)
  else if st.1 11 = 40 then bAnd (bGo st) (fun s => bBeg (s.1 5 + 1) s)
  else if st.1 11 = 4 then bAnd (bGo (qs 9 1 st)) (fun s => bTr (tApp 3 (-1) s.2.1) s)
  else if st.1 11 = 5 then bAnd (bGo (qs 9 1 st)) (fun s => bTr (tApp 4 (-1) s.2.1) s)
  else bTerm (qs 7 (nI st.2.1.2.2.2) (qs 8 0 st))
def bTake (st : RSt) : Bool × RSt :=
  if st.1 9 = 0 then bPart st
  else if st.1 9 = 1 then (if st.1 11 = 40 then bBeg (st.1 5 + 1) st else (false, st))
  else if st.1 9 = 2 then bTerm st
  else if st.1 9 = 3 then bFos st
  else if st.1 9 = 4 then bBT st
  else bBP st
abbrev uok (st : RSt) : Prop := st.2.1.2.2.2 ≤ 40
theorem bTr_u {r : Bool × TSt} {st : RSt} (h : r.2.2.2.2 ≤ 40) : uok (bTr r st).2 := h
theorem bTerm_u {st : RSt} (h : uok st) : uok (bTerm st).2 := by
  rw [bTerm]
  repeat' split
  all_goals first | exact tApp_u h | exact h
theorem bFos_u {st : RSt} (h : uok st) : uok (bFos st).2 := by
  rw [bFos]
  repeat' split
  all_goals exact h
theorem bCmp_u {st : RSt} (h : uok st) : uok (bCmp st).2 := by
  rw [bCmp]
  repeat' split
  all_goals exact tIns_u h
theorem bBP_u {st : RSt} (h : uok st) : uok (bBP st).2 := by
  rw [bBP]
  repeat' split
  all_goals try exact h
  rw [bBP1]
  repeat' split
  all_goals first | exact tIns_u h | (rw [uok, bEnd_t]; exact h) | exact h
theorem bBT_u {st : RSt} (h : uok st) : uok (bBT st).2 := by
  rw [bBT]
  repeat' split
  all_goals first | exact tIns_u h | exact bCmp_u h | exact h | exact bBP_u h
theorem bAnd_u {r : Bool × RSt} {k : RSt → Bool × RSt} (h : uok r.2) (hk : uok r.2 → uok (k r.2).2) : uok (bAnd r k).2 := by
  rw [bAnd]; split
  · exact hk h
  · exact h
theorem bGo_u {st : RSt} (h : uok st) : uok (bGo st).2 := by rw [uok, bGo_t]; exact h
theorem bBeg_u {nx : Int32} {st : RSt} (h : uok st) : uok (bBeg nx st).2 := by rw [uok, bBeg_t]; exact h
theorem bPart_u {st : RSt} (h : uok st) : uok (bPart st).2 := by
  rw [bPart]
  repeat' split
  · exact bAnd_u (bGo_u h) (fun q => tApp_u q)
  · exact bAnd_u (bGo_u h) (fun q => bBeg_u q)
  · exact bAnd_u (bGo_u (st := qs 9 1 st) h) (fun q => tApp_u q)
  · exact bAnd_u (bGo_u (st := qs 9 1 st) h) (fun q => tApp_u q)
  · exact bTerm_u (st := qs 7 (nI st.2.1.2.2.2) (qs 8 0 st)) h
theorem bTake_u {st : RSt} (h : uok st) : uok (bTake st).2 := by
  rw [bTake]
  repeat' split
  all_goals first | exact bPart_u h | exact bBeg_u h | exact bTerm_u h | exact bFos_u h | exact bBT_u h | exact bBP_u h | exact h
/-- Reader.readText behind its start: n rounds; -1 if the text is a rule -/
def bRun (g : Nat → Int32) (len : Nat) : Nat → RSt → Int32 × RSt
  | 0, st => (st.1 12, st)
  | n + 1, st => if (bTake (zTok g len st.1, st.2)).1 = true then (if (bTake (zTok g len st.1, st.2)).2.1 11 = 0 then (-1, (bTake (zTok g len st.1, st.2)).2) else bRun g len n (bTake (zTok g len st.1, st.2)).2) else ((bTake (zTok g len st.1, st.2)).2.1 12, (bTake (zTok g len st.1, st.2)).2)
theorem bRun_u {g : Nat → Int32} {len : Nat} : ∀ (n : Nat) {st : RSt}, uok st → uok (bRun g len n st).2
  | 0, _, h => h
  | n + 1, st, h => by
    have hu := bTake_u (st := (zTok g len st.1, st.2)) h
    rw [bRun]
    generalize bTake (zTok g len st.1, st.2) = r at hu ⊢
    by_cases h1 : r.1 = true
    · rw [if_pos h1]
      by_cases h2 : r.2.1 11 = 0
      · rw [if_pos h2]; exact hu
      · rw [if_neg h2]; exact bRun_u n hu
    · rw [if_neg h1]; exact hu
def bText (g : Nat → Int32) (len : Nat) (st : RSt) : Int32 × RSt := bRun g len 201 (bBeg 0 (upd (upd st.1 10 0) 6 0, (st.2.1.1, st.2.1.2.1, st.2.1.2.2.1, 0), st.2.2)).2
section
variable {l : Launch} {D : va_G} {ck : Nat → ClassId} {ad : (Nat → Nat) × (Nat → Nat)} {b0 N : Nat} {f : Nat → va_E}
variable {A : Nat → Nat} {g : Nat → Int32} {len : Nat} {st : RSt}
set_option maxHeartbeats 4000000 in
set_option maxRecDepth 100000 in
theorem c_Tre_insertO {tr ka va ra u : Nat} {K V R : Nat → Int32} (hP : zP b0 N f (wTre ck tr ka va ra 40 K V R u)) (hu : u ≤ 40) {pl kd : Int32} (ho : pl < 0 ∨ nI u < pl) : zK l D ck ad b0 y_Tre_insert prog_7_method_7_code 4 ((some FieldType.boolean)) 1 0 0 [.ref tr, .int pl, .int kd] N f (fun r N' f' => r = some (.int 0) ∧ N = N' ∧ f = f') := by
  refine zM.of zG_w (by decide) (Nat.le_of_ble_eq_true rfl) ?_
  intro zp ze zst zm zar zbe zme zc X hnm hb0
  refine z_iload_n X d_Tre_insert_0 rfl ?_
  refine z_if_lt X 21 d_Tre_insert_1 (by decide) (fun h1 => ?_) (fun h1 => ?_)
  · skip
    refine z_iconst X d_Tre_insert_21 (v := 0) (by decide) ?_
    exact z_zret X d_Tre_insert_22 rfl ⟨rfl, rfl, rfl⟩
  · skip
    refine z_iload_n X d_Tre_insert_4 rfl ?_
    refine z_aload_n X d_Tre_insert_5 rfl ?_
    refine z_get X d_Tre_insert_6 (hP.lo 0 rfl) (hP.at 0 rfl) cl_Tre in_Tre 3 (by decide) fl_Tre_21 rfl rfl ?_
    refine z_icmp_gt X 21 d_Tre_insert_9 (by decide) (fun h9 => ?_) (fun h9 => ?_)
    · skip
      refine z_iconst X d_Tre_insert_21 (v := 0) (by decide) ?_
      exact z_zret X d_Tre_insert_22 rfl ⟨rfl, rfl, rfl⟩
    · skip
      exact (ho.elim h1 h9).elim
set_option maxHeartbeats 4000000 in
set_option maxRecDepth 100000 in
theorem c_Tre_setLast0 {tr ka va ra : Nat} {K V R : Nat → Int32} (hP : zP b0 N f (wTre ck tr ka va ra 40 K V R 0)) {x : Int32} : zK l D ck ad b0 y_Tre_setLastValue prog_7_method_8_code 2 (none) 0 0 0 [.ref tr, .int x] N f (fun r N' f' => r = none ∧ N = N' ∧ f = f') := by
  refine zM.of zG_w (by decide) (Nat.le_of_ble_eq_true rfl) ?_
  intro zp ze zst zm zar zbe zme zc X hnm hb0
  refine z_aload_n X d_Tre_setLastValue_0 rfl ?_
  refine z_get X d_Tre_setLastValue_1 (hP.lo 0 rfl) (hP.at 0 rfl) cl_Tre in_Tre 3 (by decide) fl_Tre_21 rfl rfl ?_
  refine z_if_le X 31 d_Tre_setLastValue_4 (by decide) (fun h4 => ?_) (fun h4 => ?_)
  · skip
    exact z_vret X d_Tre_setLastValue_31 ⟨rfl, rfl, rfl⟩
  · skip
    exact absurd (by decide) h4
set_option maxHeartbeats 4000000 in
set_option maxRecDepth 100000 in
theorem c_Tre_appendT {tr ka va ra : Nat} {ts : TSt} (hP : zP b0 N f (wT ck tr ka va ra ts)) (hu : ts.2.2.2 ≤ 40) {kd x : Int32} : zK l D ck ad b0 y_Tre_append prog_7_method_6_code 3 ((some FieldType.boolean)) 0 0 0 [.ref tr, .int kd, .int x] N f (fun r N' f' => r = some (.int (zb (tApp kd x ts).1)) ∧ N = N' ∧ zP b0 N f' (wT ck tr ka va ra ((tApp kd x ts).2)) ∧ zF N f f' [tr, ka, va, ra]) := by
  refine (c_Tre_append hP hu (by omega)).mono ?_
  rintro r N1 f1 ⟨rfl, rfl, h1, h2⟩
  rw [tApp]
  by_cases q : ts.2.2.2 < 40
  · rw [if_pos q, if_pos q]; exact ⟨rfl, rfl, h1 q⟩
  · rw [if_neg q, if_neg q, ← h2 q]; exact ⟨rfl, rfl, hP, zF.rf⟩
set_option maxHeartbeats 4000000 in
set_option maxRecDepth 100000 in
theorem c_Tre_insertT {tr ka va ra : Nat} {ts : TSt} (hP : zP b0 N f (wT ck tr ka va ra ts)) (hu : ts.2.2.2 ≤ 40) {pl kd : Int32} : zK l D ck ad b0 y_Tre_insert prog_7_method_7_code 4 ((some FieldType.boolean)) 1 0 0 [.ref tr, .int pl, .int kd] N f (fun r N' f' => r = some (.int (zb (tIns pl kd ts).1)) ∧ N = N' ∧ zP b0 N f' (wT ck tr ka va ra ((tIns pl kd ts).2)) ∧ zF N f f' [tr, ka, va, ra]) := by
  by_cases z : pl < 0 ∨ nI ts.2.2.2 < pl
  · refine (c_Tre_insertO hP hu z).mono ?_
    rintro r N1 f1 ⟨rfl, rfl, rfl⟩
    rw [tIns, if_pos z]
    exact ⟨rfl, rfl, hP, zF.rf⟩
  · have z1 : ¬ pl < 0 := fun q => z (Or.inl q)
    have z2 : ¬ nI ts.2.2.2 < pl := fun q => z (Or.inr q)
    obtain ⟨q9, hq9, rfl⟩ := nI_of z1
    have e2 : q9 ≤ ts.2.2.2 := (nI_leI (by omega) (by omega)).mp (Int32.not_lt.mp z2)
    refine (c_Tre_insert hP hu (by omega) e2).mono ?_
    rintro r N1 f1 ⟨rfl, rfl, h1, h2⟩
    rw [tIns, if_neg z, nI_clamp hq9]
    by_cases q : ts.2.2.2 < 40
    · rw [if_pos q, if_pos q]; exact ⟨rfl, rfl, h1 q⟩
    · rw [if_neg q, if_neg q, ← h2 q]; exact ⟨rfl, rfl, hP, zF.rf⟩
set_option maxHeartbeats 4000000 in
set_option maxRecDepth 100000 in
theorem c_Tre_setLastT {tr ka va ra : Nat} {ts : TSt} (hP : zP b0 N f (wT ck tr ka va ra ts)) (hu : ts.2.2.2 ≤ 40) {x : Int32} : zK l D ck ad b0 y_Tre_setLastValue prog_7_method_8_code 2 (none) 0 0 0 [.ref tr, .int x] N f (fun r N' f' => r = none ∧ N = N' ∧ zP b0 N f' (wT ck tr ka va ra (tSet x ts)) ∧ zF N f f' [tr, ka, va, ra]) := by
  obtain ⟨K, V, R, u⟩ := ts
  cases u with
  | zero =>
    refine (c_Tre_setLast0 hP).mono ?_
    rintro r N1 f1 ⟨rfl, rfl, rfl⟩
    exact ⟨rfl, rfl, hP, zF.rf⟩
  | succ u =>
    refine (c_Tre_setLastValue hP hu (by omega) (Nat.succ_pos _)).mono ?_
    rintro r N1 f1 ⟨rfl, rfl, rfl⟩
    exact ⟨rfl, rfl, hP.put 2 rfl _, zF.rf.put (by simp) _⟩
theorem zP.tre (hP : zP b0 N f (wRdr ck A g len st)) {f' : Nat → va_E} {ts : TSt} (h1 : zP b0 N f' (wT ck (A 6) (A 7) (A 8) (A 9) ts)) (hF : zF N f f' [A 6, A 7, A 8, A 9]) : zP b0 N f' (wRdr ck A g len (st.1, ts, st.2.2)) :=
  (hP.jn [6, 7, 8, 9] [0, 1, 2, 3, 4, 5] rfl (by decide) (by simp) (by decide) hF (Nat.le_refl _) h1 (fun _ h => Or.inl h)).eq rfl
theorem zF.tre {f0 f f' : Nat → va_E} (h : zF N f0 f (AA A)) (hF : zF N f f' [A 6, A 7, A 8, A 9]) : zF N f0 f' (AA A) := h.join hF (Nat.le_refl _) (fun b hb => Or.inl (List.mem_of_mem_drop (i := 6) (l := AA A) hb))
set_option maxHeartbeats 4000000 in
set_option maxRecDepth 100000 in
theorem c_Rdr_goDeeperB (hP : zP b0 N f (wRdr ck A g len st)) : zK l D ck ad b0 y_Rdr_goDeeper prog_4_method_12_code 1 ((some FieldType.boolean)) 0 0 0 [.ref (A 0)] N f (fun r N' f' => r = some (.int (zb (bGo st).1)) ∧ N = N' ∧ zP b0 N f' (wRdr ck A g len ((bGo st).2)) ∧ zF N f f' (AA A)) := by
  refine (c_Rdr_goDeeper hP).mono ?_
  rintro r N1 f1 ⟨rfl, rfl, h1, h2⟩
  exact ⟨by rw [(rGo_b st).1], rfl, by rw [← (rGo_b st).2]; exact h1, h2⟩
set_option maxHeartbeats 4000000 in
set_option maxRecDepth 100000 in
theorem c_Rdr_endLevelB (hP : zP b0 N f (wRdr ck A g len st)) : zK l D ck ad b0 y_Rdr_endLevel prog_4_method_14_code 1 ((some FieldType.boolean)) 0 0 0 [.ref (A 0)] N f (fun r N' f' => r = some (.int (zb (bEnd st).1)) ∧ N = N' ∧ zP b0 N f' (wRdr ck A g len ((bEnd st).2)) ∧ zF N f f' (AA A)) := by
  refine (c_Rdr_endLevel hP).mono ?_
  rintro r N1 f1 ⟨rfl, rfl, h1, h2⟩
  exact ⟨by rw [rEnd_b], rfl, h1, h2⟩
set_option maxHeartbeats 4000000 in
set_option maxRecDepth 100000 in
theorem c_Rdr_beginLevelB (hP : zP b0 N f (wRdr ck A g len st)) {nx : Int32} : zK l D ck ad b0 y_Rdr_beginLevel prog_4_method_13_code 2 ((some FieldType.boolean)) 1 0 0 [.ref (A 0), .int nx] N f (fun r N' f' => r = some (.int (zb (bBeg nx st).1)) ∧ N = N' ∧ zP b0 N f' (wRdr ck A g len ((bBeg nx st).2)) ∧ zF N f f' (AA A)) := by
  refine (c_Rdr_beginLevel hP).mono ?_
  rintro r N1 f1 ⟨rfl, rfl, h1, h2⟩
  exact ⟨by rw [rBeg_b], rfl, h1, h2⟩
theorem d_Rdr_takeTerm_0 : decode prog_4_method_6_code 0 = .ok (.aload_n 0, 1) := by decide +kernel
theorem d_Rdr_takeTerm_1 : decode prog_4_method_6_code 1 = .ok (.getfield 63, 3) := by decide +kernel
theorem d_Rdr_takeTerm_4 : decode prog_4_method_6_code 4 = .ok (.tableswitch 110 2 7 #[40, 59, 110, 110, 78, 94], 40) := by decide +kernel
theorem d_Rdr_takeTerm_44 : decode prog_4_method_6_code 44 = .ok (.aload_n 0, 1) := by decide +kernel
theorem d_Rdr_takeTerm_45 : decode prog_4_method_6_code 45 = .ok (.iconst 4, 1) := by decide +kernel
theorem d_Rdr_takeTerm_46 : decode prog_4_method_6_code 46 = .ok (.putfield 66, 3) := by decide +kernel
theorem d_Rdr_takeTerm_49 : decode prog_4_method_6_code 49 = .ok (.aload_n 0, 1) := by decide +kernel
theorem d_Rdr_takeTerm_50 : decode prog_4_method_6_code 50 = .ok (.getfield 21, 3) := by decide +kernel
theorem d_Rdr_takeTerm_53 : decode prog_4_method_6_code 53 = .ok (.bipush 11, 2) := by decide +kernel
theorem d_Rdr_takeTerm_55 : decode prog_4_method_6_code 55 = .ok (.aload_n 0, 1) := by decide +kernel
theorem d_Rdr_takeTerm_56 : decode prog_4_method_6_code 56 = .ok (.getfield 105, 3) := by decide +kernel
theorem d_Rdr_takeTerm_59 : decode prog_4_method_6_code 59 = .ok (.invokevirtual 90, 3) := by decide +kernel
theorem d_Rdr_takeTerm_62 : decode prog_4_method_6_code 62 = .ok (.ireturn, 1) := by decide +kernel
theorem d_Rdr_takeTerm_63 : decode prog_4_method_6_code 63 = .ok (.aload_n 0, 1) := by decide +kernel
theorem d_Rdr_takeTerm_64 : decode prog_4_method_6_code 64 = .ok (.iconst 4, 1) := by decide +kernel
theorem d_Rdr_takeTerm_65 : decode prog_4_method_6_code 65 = .ok (.putfield 66, 3) := by decide +kernel
theorem d_Rdr_takeTerm_68 : decode prog_4_method_6_code 68 = .ok (.aload_n 0, 1) := by decide +kernel
theorem d_Rdr_takeTerm_69 : decode prog_4_method_6_code 69 = .ok (.getfield 21, 3) := by decide +kernel
theorem d_Rdr_takeTerm_72 : decode prog_4_method_6_code 72 = .ok (.bipush 12, 2) := by decide +kernel
theorem d_Rdr_takeTerm_74 : decode prog_4_method_6_code 74 = .ok (.aload_n 0, 1) := by decide +kernel
theorem d_Rdr_takeTerm_75 : decode prog_4_method_6_code 75 = .ok (.getfield 105, 3) := by decide +kernel
theorem d_Rdr_takeTerm_78 : decode prog_4_method_6_code 78 = .ok (.invokevirtual 90, 3) := by decide +kernel
theorem d_Rdr_takeTerm_81 : decode prog_4_method_6_code 81 = .ok (.ireturn, 1) := by decide +kernel
theorem d_Rdr_takeTerm_82 : decode prog_4_method_6_code 82 = .ok (.aload_n 0, 1) := by decide +kernel
theorem d_Rdr_takeTerm_83 : decode prog_4_method_6_code 83 = .ok (.iconst 3, 1) := by decide +kernel
theorem d_Rdr_takeTerm_84 : decode prog_4_method_6_code 84 = .ok (.putfield 66, 3) := by decide +kernel
theorem d_Rdr_takeTerm_87 : decode prog_4_method_6_code 87 = .ok (.aload_n 0, 1) := by decide +kernel
theorem d_Rdr_takeTerm_88 : decode prog_4_method_6_code 88 = .ok (.getfield 21, 3) := by decide +kernel
theorem d_Rdr_takeTerm_91 : decode prog_4_method_6_code 91 = .ok (.bipush 13, 2) := by decide +kernel
theorem d_Rdr_takeTerm_93 : decode prog_4_method_6_code 93 = .ok (.iconst (-1), 1) := by decide +kernel
theorem d_Rdr_takeTerm_94 : decode prog_4_method_6_code 94 = .ok (.invokevirtual 90, 3) := by decide +kernel
theorem d_Rdr_takeTerm_97 : decode prog_4_method_6_code 97 = .ok (.ireturn, 1) := by decide +kernel
theorem d_Rdr_takeTerm_98 : decode prog_4_method_6_code 98 = .ok (.aload_n 0, 1) := by decide +kernel
theorem d_Rdr_takeTerm_99 : decode prog_4_method_6_code 99 = .ok (.iconst 3, 1) := by decide +kernel
theorem d_Rdr_takeTerm_100 : decode prog_4_method_6_code 100 = .ok (.putfield 66, 3) := by decide +kernel
theorem d_Rdr_takeTerm_103 : decode prog_4_method_6_code 103 = .ok (.aload_n 0, 1) := by decide +kernel
theorem d_Rdr_takeTerm_104 : decode prog_4_method_6_code 104 = .ok (.getfield 21, 3) := by decide +kernel
theorem d_Rdr_takeTerm_107 : decode prog_4_method_6_code 107 = .ok (.bipush 14, 2) := by decide +kernel
theorem d_Rdr_takeTerm_109 : decode prog_4_method_6_code 109 = .ok (.iconst (-1), 1) := by decide +kernel
theorem d_Rdr_takeTerm_110 : decode prog_4_method_6_code 110 = .ok (.invokevirtual 90, 3) := by decide +kernel
theorem d_Rdr_takeTerm_113 : decode prog_4_method_6_code 113 = .ok (.ireturn, 1) := by decide +kernel
theorem d_Rdr_takeTerm_114 : decode prog_4_method_6_code 114 = .ok (.iconst 0, 1) := by decide +kernel
theorem d_Rdr_takeTerm_115 : decode prog_4_method_6_code 115 = .ok (.ireturn, 1) := by decide +kernel
set_option maxHeartbeats 4000000 in
set_option maxRecDepth 100000 in
theorem c_Rdr_takeTerm (hP : zP b0 N f (wRdr ck A g len st)) (hu : uok st) : zK l D ck ad b0 y_Rdr_takeTerm prog_4_method_6_code 1 ((some FieldType.boolean)) 1 0 0 [.ref (A 0)] N f (fun r N' f' => r = some (.int (zb (bTerm st).1)) ∧ N = N' ∧ zP b0 N f' (wRdr ck A g len ((bTerm st).2)) ∧ zF N f f' (AA A)) := by
  refine zM.of zG_w (by decide) (Nat.le_of_ble_eq_true rfl) ?_
  intro zp ze zst zm zar zbe zme zc X hnm hb0
  have hF : zF N f f (AA A) := zF.rf
  refine z_aload_n X d_Rdr_takeTerm_0 rfl ?_
  refine z_get X d_Rdr_takeTerm_1 (hP.lo 0 rfl) (hP.at 0 rfl) cl_Rdr in_Rdr 11 (by decide) fl_Rdr_63 rfl rfl ?_
  refine z_tableL X 114 [44, 63, 114, 114, 82, 98] d_Rdr_takeTerm_4 (by decide) (by decide) (by decide) (fun i hi hx => ?_) (fun hd => ?_) (by decide)
  · match i, hi, hx with
    | 0, _, hx =>
      have g4 : _ = (2 : Int32) := hx
      have g4 : st.1 11 = 2 := g4
      have e9 : bTerm st = bTr (tApp 11 (st.1 13) st.2.1) (qs 9 4 st) := by rw [bTerm, g4]; rfl
      refine zW.topc (pc' := 44) rfl ?_
      refine z_aload_n X d_Rdr_takeTerm_44 rfl ?_
      refine z_iconst X d_Rdr_takeTerm_45 (v := 4) (by decide) ?_
      refine z_putP X t_Rdr ty_Rdr n_Rdr d_Rdr_takeTerm_46 hP 0 rfl cl_Rdr in_Rdr 9 (by decide) fl_Rdr_66 rfl rfl rfl rfl rfl (Nat.le_of_ble_eq_true rfl) (fun hP => ?_)
      have hF := hF.by (by simp) hP
      refine z_aload_n X d_Rdr_takeTerm_49 rfl ?_
      refine z_get X d_Rdr_takeTerm_50 (hP.lo 0 rfl) (hP.at 0 rfl) cl_Rdr in_Rdr 1 (by decide) fl_Rdr_21 rfl rfl ?_
      refine z_bipush X d_Rdr_takeTerm_53 (v := 11) (by decide) ?_
      refine z_aload_n X d_Rdr_takeTerm_55 rfl ?_
      refine z_get X d_Rdr_takeTerm_56 (hP.lo 0 rfl) (hP.at 0 rfl) cl_Rdr in_Rdr 13 (by decide) fl_Rdr_105 rfl rfl ?_
      refine z_callV X zG_ok (c_Tre_appendT (ts := (qs 9 4 st).2.1) (hP.sub [6, 7, 8, 9] (by decide) rfl) hu) d_Rdr_takeTerm_59 ⟨(z_cb (n := 2) X.2.2.2.2.1 ml_Rdr_90 mc_Tre_append ini_Tre (by decide +kernel) rfl rfl ⟨Nat.le_of_ble_eq_true rfl, Nat.le_of_ble_eq_true rfl⟩), X.2.2.2.2.1 _ im_Tre_append, X.2.2.2.2.1 _ sel_Tre_append⟩ (hP.lo 6 rfl) (hP.at 6 rfl) cl_Tre rfl rfl (Nat.le_of_ble_eq_true rfl) ⟨Nat.le_of_ble_eq_true rfl, Nat.le_of_ble_eq_true rfl⟩ (fun r N1 f1 hp hN1 => ?_)
      obtain ⟨rfl, rfl, hT, hF1⟩ := hp
      have hP := zP.tre (g := g) (len := len) (st := qs 9 4 st) hP hT hF1
      have hF := hF.tre hF1
      exact z_zret X d_Rdr_takeTerm_62 (zb_n _) ⟨by rw [e9]; rfl, rfl, by rw [e9]; exact hP, hF⟩
    | 1, _, hx =>
      have g4 : _ = (3 : Int32) := hx
      have g4 : st.1 11 = 3 := g4
      have e9 : bTerm st = bTr (tApp 12 (st.1 13) st.2.1) (qs 9 4 st) := by rw [bTerm, g4]; rfl
      refine zW.topc (pc' := 63) rfl ?_
      refine z_aload_n X d_Rdr_takeTerm_63 rfl ?_
      refine z_iconst X d_Rdr_takeTerm_64 (v := 4) (by decide) ?_
      refine z_putP X t_Rdr ty_Rdr n_Rdr d_Rdr_takeTerm_65 hP 0 rfl cl_Rdr in_Rdr 9 (by decide) fl_Rdr_66 rfl rfl rfl rfl rfl (Nat.le_of_ble_eq_true rfl) (fun hP => ?_)
      have hF := hF.by (by simp) hP
      refine z_aload_n X d_Rdr_takeTerm_68 rfl ?_
      refine z_get X d_Rdr_takeTerm_69 (hP.lo 0 rfl) (hP.at 0 rfl) cl_Rdr in_Rdr 1 (by decide) fl_Rdr_21 rfl rfl ?_
      refine z_bipush X d_Rdr_takeTerm_72 (v := 12) (by decide) ?_
      refine z_aload_n X d_Rdr_takeTerm_74 rfl ?_
      refine z_get X d_Rdr_takeTerm_75 (hP.lo 0 rfl) (hP.at 0 rfl) cl_Rdr in_Rdr 13 (by decide) fl_Rdr_105 rfl rfl ?_
      refine z_callV X zG_ok (c_Tre_appendT (ts := (qs 9 4 st).2.1) (hP.sub [6, 7, 8, 9] (by decide) rfl) hu) d_Rdr_takeTerm_78 ⟨(z_cb (n := 2) X.2.2.2.2.1 ml_Rdr_90 mc_Tre_append ini_Tre (by decide +kernel) rfl rfl ⟨Nat.le_of_ble_eq_true rfl, Nat.le_of_ble_eq_true rfl⟩), X.2.2.2.2.1 _ im_Tre_append, X.2.2.2.2.1 _ sel_Tre_append⟩ (hP.lo 6 rfl) (hP.at 6 rfl) cl_Tre rfl rfl (Nat.le_of_ble_eq_true rfl) ⟨Nat.le_of_ble_eq_true rfl, Nat.le_of_ble_eq_true rfl⟩ (fun r N1 f1 hp hN1 => ?_)
      obtain ⟨rfl, rfl, hT, hF1⟩ := hp
      have hP := zP.tre (g := g) (len := len) (st := qs 9 4 st) hP hT hF1
      have hF := hF.tre hF1
      exact z_zret X d_Rdr_takeTerm_81 (zb_n _) ⟨by rw [e9]; rfl, rfl, by rw [e9]; exact hP, hF⟩
    | 2, _, hx =>
      have g4 : _ = (4 : Int32) := hx
      have g4 : st.1 11 = 4 := g4
      have e9 : bTerm st = (false, st) := by rw [bTerm, g4]; rfl
      refine zW.topc (pc' := 114) rfl ?_
      refine z_iconst X d_Rdr_takeTerm_114 (v := 0) (by decide) ?_
      exact z_zret X d_Rdr_takeTerm_115 rfl ⟨by rw [e9]; rfl, rfl, by rw [e9]; exact hP, hF⟩
    | 3, _, hx =>
      have g4 : _ = (5 : Int32) := hx
      have g4 : st.1 11 = 5 := g4
      have e9 : bTerm st = (false, st) := by rw [bTerm, g4]; rfl
      refine zW.topc (pc' := 114) rfl ?_
      refine z_iconst X d_Rdr_takeTerm_114 (v := 0) (by decide) ?_
      exact z_zret X d_Rdr_takeTerm_115 rfl ⟨by rw [e9]; rfl, rfl, by rw [e9]; exact hP, hF⟩
    | 4, _, hx =>
      have g4 : _ = (6 : Int32) := hx
      have g4 : st.1 11 = 6 := g4
      have e9 : bTerm st = bTr (tApp 13 (-1) st.2.1) (qs 9 3 st) := by rw [bTerm, g4]; rfl
      refine zW.topc (pc' := 82) rfl ?_
      refine z_aload_n X d_Rdr_takeTerm_82 rfl ?_
      refine z_iconst X d_Rdr_takeTerm_83 (v := 3) (by decide) ?_
      refine z_putP X t_Rdr ty_Rdr n_Rdr d_Rdr_takeTerm_84 hP 0 rfl cl_Rdr in_Rdr 9 (by decide) fl_Rdr_66 rfl rfl rfl rfl rfl (Nat.le_of_ble_eq_true rfl) (fun hP => ?_)
      have hF := hF.by (by simp) hP
      refine z_aload_n X d_Rdr_takeTerm_87 rfl ?_
      refine z_get X d_Rdr_takeTerm_88 (hP.lo 0 rfl) (hP.at 0 rfl) cl_Rdr in_Rdr 1 (by decide) fl_Rdr_21 rfl rfl ?_
      refine z_bipush X d_Rdr_takeTerm_91 (v := 13) (by decide) ?_
      refine z_iconst X d_Rdr_takeTerm_93 (v := -1) (by decide) ?_
      refine z_callV X zG_ok (c_Tre_appendT (ts := (qs 9 3 st).2.1) (hP.sub [6, 7, 8, 9] (by decide) rfl) hu) d_Rdr_takeTerm_94 ⟨(z_cb (n := 2) X.2.2.2.2.1 ml_Rdr_90 mc_Tre_append ini_Tre (by decide +kernel) rfl rfl ⟨Nat.le_of_ble_eq_true rfl, Nat.le_of_ble_eq_true rfl⟩), X.2.2.2.2.1 _ im_Tre_append, X.2.2.2.2.1 _ sel_Tre_append⟩ (hP.lo 6 rfl) (hP.at 6 rfl) cl_Tre rfl rfl (Nat.le_of_ble_eq_true rfl) ⟨Nat.le_of_ble_eq_true rfl, Nat.le_of_ble_eq_true rfl⟩ (fun r N1 f1 hp hN1 => ?_)
      obtain ⟨rfl, rfl, hT, hF1⟩ := hp
      have hP := zP.tre (g := g) (len := len) (st := qs 9 3 st) hP hT hF1
      have hF := hF.tre hF1
      exact z_zret X d_Rdr_takeTerm_97 (zb_n _) ⟨by rw [e9]; rfl, rfl, by rw [e9]; exact hP, hF⟩
    | 5, _, hx =>
      have g4 : _ = (7 : Int32) := hx
      have g4 : st.1 11 = 7 := g4
      have e9 : bTerm st = bTr (tApp 14 (-1) st.2.1) (qs 9 3 st) := by rw [bTerm, g4]; rfl
      refine zW.topc (pc' := 98) rfl ?_
      refine z_aload_n X d_Rdr_takeTerm_98 rfl ?_
      refine z_iconst X d_Rdr_takeTerm_99 (v := 3) (by decide) ?_
      refine z_putP X t_Rdr ty_Rdr n_Rdr d_Rdr_takeTerm_100 hP 0 rfl cl_Rdr in_Rdr 9 (by decide) fl_Rdr_66 rfl rfl rfl rfl rfl (Nat.le_of_ble_eq_true rfl) (fun hP => ?_)
      have hF := hF.by (by simp) hP
      refine z_aload_n X d_Rdr_takeTerm_103 rfl ?_
      refine z_get X d_Rdr_takeTerm_104 (hP.lo 0 rfl) (hP.at 0 rfl) cl_Rdr in_Rdr 1 (by decide) fl_Rdr_21 rfl rfl ?_
      refine z_bipush X d_Rdr_takeTerm_107 (v := 14) (by decide) ?_
      refine z_iconst X d_Rdr_takeTerm_109 (v := -1) (by decide) ?_
      refine z_callV X zG_ok (c_Tre_appendT (ts := (qs 9 3 st).2.1) (hP.sub [6, 7, 8, 9] (by decide) rfl) hu) d_Rdr_takeTerm_110 ⟨(z_cb (n := 2) X.2.2.2.2.1 ml_Rdr_90 mc_Tre_append ini_Tre (by decide +kernel) rfl rfl ⟨Nat.le_of_ble_eq_true rfl, Nat.le_of_ble_eq_true rfl⟩), X.2.2.2.2.1 _ im_Tre_append, X.2.2.2.2.1 _ sel_Tre_append⟩ (hP.lo 6 rfl) (hP.at 6 rfl) cl_Tre rfl rfl (Nat.le_of_ble_eq_true rfl) ⟨Nat.le_of_ble_eq_true rfl, Nat.le_of_ble_eq_true rfl⟩ (fun r N1 f1 hp hN1 => ?_)
      obtain ⟨rfl, rfl, hT, hF1⟩ := hp
      have hP := zP.tre (g := g) (len := len) (st := qs 9 3 st) hP hT hF1
      have hF := hF.tre hF1
      exact z_zret X d_Rdr_takeTerm_113 (zb_n _) ⟨by rw [e9]; rfl, rfl, by rw [e9]; exact hP, hF⟩
    | j + 6, hi, _ => exact absurd hi (by simp)
  · skip
    have g4_0 : ¬ _ = (2 : Int32) := hd 0 (by decide)
    have g4_1 : ¬ _ = (3 : Int32) := hd 1 (by decide)
    have g4_2 : ¬ _ = (4 : Int32) := hd 2 (by decide)
    have g4_3 : ¬ _ = (5 : Int32) := hd 3 (by decide)
    have g4_4 : ¬ _ = (6 : Int32) := hd 4 (by decide)
    have g4_5 : ¬ _ = (7 : Int32) := hd 5 (by decide)
    have e9 : bTerm st = (false, st) := by rw [bTerm, if_neg g4_0, if_neg g4_1, if_neg g4_4, if_neg g4_5]
    refine z_iconst X d_Rdr_takeTerm_114 (v := 0) (by decide) ?_
    exact z_zret X d_Rdr_takeTerm_115 rfl ⟨by rw [e9]; rfl, rfl, by rw [e9]; exact hP, hF⟩
theorem d_Rdr_takeFieldOfSum_0 : decode prog_4_method_7_code 0 = .ok (.aload_n 0, 1) := by decide +kernel
theorem d_Rdr_takeFieldOfSum_1 : decode prog_4_method_7_code 1 = .ok (.getfield 63, 3) := by decide +kernel
theorem d_Rdr_takeFieldOfSum_4 : decode prog_4_method_7_code 4 = .ok (.iconst 3, 1) := by decide +kernel
theorem d_Rdr_takeFieldOfSum_5 : decode prog_4_method_7_code 5 = .ok (.if_icmp .eq 5, 3) := by decide +kernel
theorem d_Rdr_takeFieldOfSum_8 : decode prog_4_method_7_code 8 = .ok (.iconst 0, 1) := by decide +kernel
theorem d_Rdr_takeFieldOfSum_9 : decode prog_4_method_7_code 9 = .ok (.ireturn, 1) := by decide +kernel
theorem d_Rdr_takeFieldOfSum_10 : decode prog_4_method_7_code 10 = .ok (.aload_n 0, 1) := by decide +kernel
theorem d_Rdr_takeFieldOfSum_11 : decode prog_4_method_7_code 11 = .ok (.getfield 21, 3) := by decide +kernel
theorem d_Rdr_takeFieldOfSum_14 : decode prog_4_method_7_code 14 = .ok (.aload_n 0, 1) := by decide +kernel
theorem d_Rdr_takeFieldOfSum_15 : decode prog_4_method_7_code 15 = .ok (.getfield 105, 3) := by decide +kernel
theorem d_Rdr_takeFieldOfSum_18 : decode prog_4_method_7_code 18 = .ok (.invokevirtual 108, 3) := by decide +kernel
theorem d_Rdr_takeFieldOfSum_21 : decode prog_4_method_7_code 21 = .ok (.aload_n 0, 1) := by decide +kernel
theorem d_Rdr_takeFieldOfSum_22 : decode prog_4_method_7_code 22 = .ok (.iconst 4, 1) := by decide +kernel
theorem d_Rdr_takeFieldOfSum_23 : decode prog_4_method_7_code 23 = .ok (.putfield 66, 3) := by decide +kernel
theorem d_Rdr_takeFieldOfSum_26 : decode prog_4_method_7_code 26 = .ok (.iconst 1, 1) := by decide +kernel
theorem d_Rdr_takeFieldOfSum_27 : decode prog_4_method_7_code 27 = .ok (.ireturn, 1) := by decide +kernel
set_option maxHeartbeats 4000000 in
set_option maxRecDepth 100000 in
theorem c_Rdr_takeFieldOfSum (hP : zP b0 N f (wRdr ck A g len st)) (hu : uok st) : zK l D ck ad b0 y_Rdr_takeFieldOfSum prog_4_method_7_code 1 ((some FieldType.boolean)) 1 0 0 [.ref (A 0)] N f (fun r N' f' => r = some (.int (zb (bFos st).1)) ∧ N = N' ∧ zP b0 N f' (wRdr ck A g len ((bFos st).2)) ∧ zF N f f' (AA A)) := by
  refine zM.of zG_w (by decide) (Nat.le_of_ble_eq_true rfl) ?_
  intro zp ze zst zm zar zbe zme zc X hnm hb0
  have hF : zF N f f (AA A) := zF.rf
  refine z_aload_n X d_Rdr_takeFieldOfSum_0 rfl ?_
  refine z_get X d_Rdr_takeFieldOfSum_1 (hP.lo 0 rfl) (hP.at 0 rfl) cl_Rdr in_Rdr 11 (by decide) fl_Rdr_63 rfl rfl ?_
  refine z_iconst X d_Rdr_takeFieldOfSum_4 (v := 3) (by decide) ?_
  refine z_icmp_eq X 10 d_Rdr_takeFieldOfSum_5 (by decide) (fun h5 => ?_) (fun h5 => ?_)
  · skip
    have e9 : bFos st = (true, (upd st.1 9 4, tSet (st.1 13) st.2.1, st.2.2)) := by rw [bFos, if_pos h5]
    refine z_aload_n X d_Rdr_takeFieldOfSum_10 rfl ?_
    refine z_get X d_Rdr_takeFieldOfSum_11 (hP.lo 0 rfl) (hP.at 0 rfl) cl_Rdr in_Rdr 1 (by decide) fl_Rdr_21 rfl rfl ?_
    refine z_aload_n X d_Rdr_takeFieldOfSum_14 rfl ?_
    refine z_get X d_Rdr_takeFieldOfSum_15 (hP.lo 0 rfl) (hP.at 0 rfl) cl_Rdr in_Rdr 13 (by decide) fl_Rdr_105 rfl rfl ?_
    refine z_callV X zG_ok (c_Tre_setLastT (ts := st.2.1) (hP.sub [6, 7, 8, 9] (by decide) rfl) hu) d_Rdr_takeFieldOfSum_18 ⟨(z_cb (n := 1) X.2.2.2.2.1 ml_Rdr_108 mc_Tre_setLastValue ini_Tre (by decide +kernel) rfl rfl ⟨Nat.le_of_ble_eq_true rfl, Nat.le_of_ble_eq_true rfl⟩), X.2.2.2.2.1 _ im_Tre_setLastValue, X.2.2.2.2.1 _ sel_Tre_setLastValue⟩ (hP.lo 6 rfl) (hP.at 6 rfl) cl_Tre rfl rfl (Nat.le_of_ble_eq_true rfl) ⟨Nat.le_of_ble_eq_true rfl, Nat.le_of_ble_eq_true rfl⟩ (fun r N1 f1 hp hN1 => ?_)
    obtain ⟨rfl, rfl, hT, hF1⟩ := hp
    have hP := zP.tre (g := g) (len := len) (st := st) hP hT hF1
    have hF := hF.tre hF1
    refine z_aload_n X d_Rdr_takeFieldOfSum_21 rfl ?_
    refine z_iconst X d_Rdr_takeFieldOfSum_22 (v := 4) (by decide) ?_
    refine z_putP X t_Rdr ty_Rdr n_Rdr d_Rdr_takeFieldOfSum_23 hP 0 rfl cl_Rdr in_Rdr 9 (by decide) fl_Rdr_66 rfl rfl rfl rfl rfl (Nat.le_of_ble_eq_true rfl) (fun hP => ?_)
    have hF := hF.by (by simp) hP
    refine z_iconst X d_Rdr_takeFieldOfSum_26 (v := 1) (by decide) ?_
    exact z_zret X d_Rdr_takeFieldOfSum_27 rfl ⟨by rw [e9]; rfl, rfl, by rw [e9]; exact hP, hF⟩
  · skip
    have e9 : bFos st = (false, st) := by rw [bFos, if_neg h5]
    refine z_iconst X d_Rdr_takeFieldOfSum_8 (v := 0) (by decide) ?_
    exact z_zret X d_Rdr_takeFieldOfSum_9 rfl ⟨by rw [e9]; rfl, rfl, by rw [e9]; exact hP, hF⟩
theorem d_Rdr_compare_0 : decode prog_4_method_9_code 0 = .ok (.aload_n 0, 1) := by decide +kernel
theorem d_Rdr_compare_1 : decode prog_4_method_9_code 1 = .ok (.getfield 21, 3) := by decide +kernel
theorem d_Rdr_compare_4 : decode prog_4_method_9_code 4 = .ok (.aload_n 0, 1) := by decide +kernel
theorem d_Rdr_compare_5 : decode prog_4_method_9_code 5 = .ok (.getfield 102, 3) := by decide +kernel
theorem d_Rdr_compare_8 : decode prog_4_method_9_code 8 = .ok (.aload_n 0, 1) := by decide +kernel
theorem d_Rdr_compare_9 : decode prog_4_method_9_code 9 = .ok (.invokevirtual 112, 3) := by decide +kernel
theorem d_Rdr_compare_12 : decode prog_4_method_9_code 12 = .ok (.invokevirtual 115, 3) := by decide +kernel
theorem d_Rdr_compare_15 : decode prog_4_method_9_code 15 = .ok (.ifCond .ne 5, 3) := by decide +kernel
theorem d_Rdr_compare_18 : decode prog_4_method_9_code 18 = .ok (.iconst 0, 1) := by decide +kernel
theorem d_Rdr_compare_19 : decode prog_4_method_9_code 19 = .ok (.ireturn, 1) := by decide +kernel
theorem d_Rdr_compare_20 : decode prog_4_method_9_code 20 = .ok (.aload_n 0, 1) := by decide +kernel
theorem d_Rdr_compare_21 : decode prog_4_method_9_code 21 = .ok (.iconst 1, 1) := by decide +kernel
theorem d_Rdr_compare_22 : decode prog_4_method_9_code 22 = .ok (.putfield 94, 3) := by decide +kernel
theorem d_Rdr_compare_25 : decode prog_4_method_9_code 25 = .ok (.aload_n 0, 1) := by decide +kernel
theorem d_Rdr_compare_26 : decode prog_4_method_9_code 26 = .ok (.aload_n 0, 1) := by decide +kernel
theorem d_Rdr_compare_27 : decode prog_4_method_9_code 27 = .ok (.getfield 21, 3) := by decide +kernel
theorem d_Rdr_compare_30 : decode prog_4_method_9_code 30 = .ok (.invokevirtual 98, 3) := by decide +kernel
theorem d_Rdr_compare_33 : decode prog_4_method_9_code 33 = .ok (.putfield 102, 3) := by decide +kernel
theorem d_Rdr_compare_36 : decode prog_4_method_9_code 36 = .ok (.aload_n 0, 1) := by decide +kernel
theorem d_Rdr_compare_37 : decode prog_4_method_9_code 37 = .ok (.iconst 2, 1) := by decide +kernel
theorem d_Rdr_compare_38 : decode prog_4_method_9_code 38 = .ok (.putfield 66, 3) := by decide +kernel
theorem d_Rdr_compare_41 : decode prog_4_method_9_code 41 = .ok (.iconst 1, 1) := by decide +kernel
theorem d_Rdr_compare_42 : decode prog_4_method_9_code 42 = .ok (.ireturn, 1) := by decide +kernel
set_option maxHeartbeats 4000000 in
set_option maxRecDepth 100000 in
theorem c_Rdr_compare (hP : zP b0 N f (wRdr ck A g len st)) (hu : uok st) : zK l D ck ad b0 y_Rdr_compare prog_4_method_9_code 1 ((some FieldType.boolean)) 5 0 0 [.ref (A 0)] N f (fun r N' f' => r = some (.int (zb (bCmp st).1)) ∧ N = N' ∧ zP b0 N f' (wRdr ck A g len ((bCmp st).2)) ∧ zF N f f' (AA A)) := by
  refine zM.of zG_w (by decide) (Nat.le_of_ble_eq_true rfl) ?_
  intro zp ze zst zm zar zbe zme zc X hnm hb0
  have hF : zF N f f (AA A) := zF.rf
  refine z_aload_n X d_Rdr_compare_0 rfl ?_
  refine z_get X d_Rdr_compare_1 (hP.lo 0 rfl) (hP.at 0 rfl) cl_Rdr in_Rdr 1 (by decide) fl_Rdr_21 rfl rfl ?_
  refine z_aload_n X d_Rdr_compare_4 rfl ?_
  refine z_get X d_Rdr_compare_5 (hP.lo 0 rfl) (hP.at 0 rfl) cl_Rdr in_Rdr 7 (by decide) fl_Rdr_102 rfl rfl ?_
  refine z_aload_n X d_Rdr_compare_8 rfl ?_
  refine z_callV X zG_ok (c_Rdr_kindOfToken hP) d_Rdr_compare_9 ⟨(z_cb (n := 0) X.2.2.2.2.1 ml_Rdr_112 mc_Rdr_kindOfToken ini_Rdr (by decide +kernel) rfl rfl ⟨Nat.le_of_ble_eq_true rfl, Nat.le_of_ble_eq_true rfl⟩), X.2.2.2.2.1 _ im_Rdr_kindOfToken, X.2.2.2.2.1 _ sel_Rdr_kindOfToken⟩ (hP.lo 0 rfl) (hP.at 0 rfl) cl_Rdr rfl rfl (Nat.le_of_ble_eq_true rfl) ⟨Nat.le_of_ble_eq_true rfl, Nat.le_of_ble_eq_true rfl⟩ (fun r N1 f1 hp hN1 => ?_)
  obtain ⟨rfl, rfl, rfl⟩ := hp
  refine z_callV X zG_ok (c_Tre_insertT (ts := (st).2.1) (hP.sub [6, 7, 8, 9] (by decide) rfl) hu) d_Rdr_compare_12 ⟨(z_cb (n := 2) X.2.2.2.2.1 ml_Rdr_115 mc_Tre_insert ini_Tre (by decide +kernel) rfl rfl ⟨Nat.le_of_ble_eq_true rfl, Nat.le_of_ble_eq_true rfl⟩), X.2.2.2.2.1 _ im_Tre_insert, X.2.2.2.2.1 _ sel_Tre_insert⟩ (hP.lo 6 rfl) (hP.at 6 rfl) cl_Tre rfl rfl (Nat.le_of_ble_eq_true rfl) ⟨Nat.le_of_ble_eq_true rfl, Nat.le_of_ble_eq_true rfl⟩ (fun r N1 f1 hp hN1 => ?_)
  obtain ⟨rfl, rfl, hT, hF1⟩ := hp
  have hP := zP.tre (g := g) (len := len) (st := st) hP hT hF1
  have hF := hF.tre hF1
  refine z_if_ne X 20 d_Rdr_compare_15 (by decide) (fun h15 => ?_) (fun h15 => ?_)
  · skip
    have nb : (tIns (st.1 7) (rKind st) st.2.1).1 = true := by
      cases hq : (tIns (st.1 7) (rKind st) st.2.1).1
      · exact absurd (zb_0.mpr hq) h15
      · rfl
    have e8 := show bCmp st = _ from if_pos nb
    refine z_aload_n X d_Rdr_compare_20 rfl ?_
    refine z_iconst X d_Rdr_compare_21 (v := 1) (by decide) ?_
    refine z_putP X t_Rdr ty_Rdr n_Rdr d_Rdr_compare_22 hP 0 rfl cl_Rdr in_Rdr 8 (by decide) fl_Rdr_94 rfl rfl rfl rfl rfl (Nat.le_of_ble_eq_true rfl) (fun hP => ?_)
    have hF := hF.by (by simp) hP
    refine z_aload_n X d_Rdr_compare_25 rfl ?_
    refine z_aload_n X d_Rdr_compare_26 rfl ?_
    refine z_get X d_Rdr_compare_27 (hP.lo 0 rfl) (hP.at 0 rfl) cl_Rdr in_Rdr 1 (by decide) fl_Rdr_21 rfl rfl ?_
    refine z_callV X zG_ok (c_Tre_size (hP.sub [6, 7, 8, 9] (by decide) rfl)) d_Rdr_compare_30 ⟨(z_cb (n := 0) X.2.2.2.2.1 ml_Rdr_98 mc_Tre_size ini_Tre (by decide +kernel) rfl rfl ⟨Nat.le_of_ble_eq_true rfl, Nat.le_of_ble_eq_true rfl⟩), X.2.2.2.2.1 _ im_Tre_size, X.2.2.2.2.1 _ sel_Tre_size⟩ (hP.lo 6 rfl) (hP.at 6 rfl) cl_Tre rfl rfl (Nat.le_of_ble_eq_true rfl) ⟨Nat.le_of_ble_eq_true rfl, Nat.le_of_ble_eq_true rfl⟩ (fun r N1 f1 hp hN1 => ?_)
    obtain ⟨rfl, rfl, rfl⟩ := hp
    refine z_putP X t_Rdr ty_Rdr n_Rdr d_Rdr_compare_33 hP 0 rfl cl_Rdr in_Rdr 7 (by decide) fl_Rdr_102 rfl rfl rfl rfl rfl (Nat.le_of_ble_eq_true rfl) (fun hP => ?_)
    have hF := hF.by (by simp) hP
    refine z_aload_n X d_Rdr_compare_36 rfl ?_
    refine z_iconst X d_Rdr_compare_37 (v := 2) (by decide) ?_
    refine z_putP X t_Rdr ty_Rdr n_Rdr d_Rdr_compare_38 hP 0 rfl cl_Rdr in_Rdr 9 (by decide) fl_Rdr_66 rfl rfl rfl rfl rfl (Nat.le_of_ble_eq_true rfl) (fun hP => ?_)
    have hF := hF.by (by simp) hP
    refine z_iconst X d_Rdr_compare_41 (v := 1) (by decide) ?_
    exact z_zret X d_Rdr_compare_42 rfl ⟨by rw [e8]; rfl, rfl, by rw [e8]; exact hP, hF⟩
  · skip
    have e8 := show bCmp st = _ from if_neg (by rw [zb_0.mp h15]; decide)
    refine z_iconst X d_Rdr_compare_18 (v := 0) (by decide) ?_
    exact z_zret X d_Rdr_compare_19 rfl ⟨by rw [e8]; rfl, rfl, by rw [e8]; exact hP, hF⟩
end
end
section
section
variable {l : Launch} {D : va_G} {ck : Nat → ClassId} {ad : (Nat → Nat) × (Nat → Nat)} {b0 N : Nat} {f : Nat → va_E}
variable {A : Nat → Nat} {g : Nat → Int32} {len : Nat} {st : RSt}
theorem d_Rdr_takeBehindPart_0 : decode prog_4_method_11_code 0 = .ok (.aload_n 0, 1) := by decide +kernel
theorem d_Rdr_takeBehindPart_1 : decode prog_4_method_11_code 1 = .ok (.getfield 72, 3) := by decide +kernel
theorem d_Rdr_takeBehindPart_4 : decode prog_4_method_11_code 4 = .ok (.ifCond .lt 15, 3) := by decide +kernel
theorem d_Rdr_takeBehindPart_7 : decode prog_4_method_11_code 7 = .ok (.aload_n 0, 1) := by decide +kernel
theorem d_Rdr_takeBehindPart_8 : decode prog_4_method_11_code 8 = .ok (.getfield 72, 3) := by decide +kernel
theorem d_Rdr_takeBehindPart_11 : decode prog_4_method_11_code 11 = .ok (.aload_n 0, 1) := by decide +kernel
theorem d_Rdr_takeBehindPart_12 : decode prog_4_method_11_code 12 = .ok (.getfield 32, 3) := by decide +kernel
theorem d_Rdr_takeBehindPart_15 : decode prog_4_method_11_code 15 = .ok (.arraylength, 1) := by decide +kernel
theorem d_Rdr_takeBehindPart_16 : decode prog_4_method_11_code 16 = .ok (.if_icmp .lt 5, 3) := by decide +kernel
theorem d_Rdr_takeBehindPart_19 : decode prog_4_method_11_code 19 = .ok (.iconst 0, 1) := by decide +kernel
theorem d_Rdr_takeBehindPart_20 : decode prog_4_method_11_code 20 = .ok (.ireturn, 1) := by decide +kernel
theorem d_Rdr_takeBehindPart_21 : decode prog_4_method_11_code 21 = .ok (.aload_n 0, 1) := by decide +kernel
theorem d_Rdr_takeBehindPart_22 : decode prog_4_method_11_code 22 = .ok (.aload_n 0, 1) := by decide +kernel
theorem d_Rdr_takeBehindPart_23 : decode prog_4_method_11_code 23 = .ok (.getfield 32, 3) := by decide +kernel
theorem d_Rdr_takeBehindPart_26 : decode prog_4_method_11_code 26 = .ok (.aload_n 0, 1) := by decide +kernel
theorem d_Rdr_takeBehindPart_27 : decode prog_4_method_11_code 27 = .ok (.getfield 72, 3) := by decide +kernel
theorem d_Rdr_takeBehindPart_30 : decode prog_4_method_11_code 30 = .ok (.iaload, 1) := by decide +kernel
theorem d_Rdr_takeBehindPart_31 : decode prog_4_method_11_code 31 = .ok (.putfield 46, 3) := by decide +kernel
theorem d_Rdr_takeBehindPart_34 : decode prog_4_method_11_code 34 = .ok (.aload_n 0, 1) := by decide +kernel
theorem d_Rdr_takeBehindPart_35 : decode prog_4_method_11_code 35 = .ok (.getfield 63, 3) := by decide +kernel
theorem d_Rdr_takeBehindPart_38 : decode prog_4_method_11_code 38 = .ok (.lookupswitch 103 #[(38, 34), (41, 98), (124, 57)], 34) := by decide +kernel
theorem d_Rdr_takeBehindPart_72 : decode prog_4_method_11_code 72 = .ok (.aload_n 0, 1) := by decide +kernel
theorem d_Rdr_takeBehindPart_73 : decode prog_4_method_11_code 73 = .ok (.iconst 0, 1) := by decide +kernel
theorem d_Rdr_takeBehindPart_74 : decode prog_4_method_11_code 74 = .ok (.putfield 66, 3) := by decide +kernel
theorem d_Rdr_takeBehindPart_77 : decode prog_4_method_11_code 77 = .ok (.aload_n 0, 1) := by decide +kernel
theorem d_Rdr_takeBehindPart_78 : decode prog_4_method_11_code 78 = .ok (.getfield 21, 3) := by decide +kernel
theorem d_Rdr_takeBehindPart_81 : decode prog_4_method_11_code 81 = .ok (.aload_n 0, 1) := by decide +kernel
theorem d_Rdr_takeBehindPart_82 : decode prog_4_method_11_code 82 = .ok (.getfield 29, 3) := by decide +kernel
theorem d_Rdr_takeBehindPart_85 : decode prog_4_method_11_code 85 = .ok (.aload_n 0, 1) := by decide +kernel
theorem d_Rdr_takeBehindPart_86 : decode prog_4_method_11_code 86 = .ok (.getfield 72, 3) := by decide +kernel
theorem d_Rdr_takeBehindPart_89 : decode prog_4_method_11_code 89 = .ok (.iaload, 1) := by decide +kernel
theorem d_Rdr_takeBehindPart_90 : decode prog_4_method_11_code 90 = .ok (.iconst 1, 1) := by decide +kernel
theorem d_Rdr_takeBehindPart_91 : decode prog_4_method_11_code 91 = .ok (.invokevirtual 115, 3) := by decide +kernel
theorem d_Rdr_takeBehindPart_94 : decode prog_4_method_11_code 94 = .ok (.ireturn, 1) := by decide +kernel
theorem d_Rdr_takeBehindPart_95 : decode prog_4_method_11_code 95 = .ok (.aload_n 0, 1) := by decide +kernel
theorem d_Rdr_takeBehindPart_96 : decode prog_4_method_11_code 96 = .ok (.iconst 0, 1) := by decide +kernel
theorem d_Rdr_takeBehindPart_97 : decode prog_4_method_11_code 97 = .ok (.putfield 66, 3) := by decide +kernel
theorem d_Rdr_takeBehindPart_100 : decode prog_4_method_11_code 100 = .ok (.aload_n 0, 1) := by decide +kernel
theorem d_Rdr_takeBehindPart_101 : decode prog_4_method_11_code 101 = .ok (.getfield 21, 3) := by decide +kernel
theorem d_Rdr_takeBehindPart_104 : decode prog_4_method_11_code 104 = .ok (.aload_n 0, 1) := by decide +kernel
theorem d_Rdr_takeBehindPart_105 : decode prog_4_method_11_code 105 = .ok (.getfield 25, 3) := by decide +kernel
theorem d_Rdr_takeBehindPart_108 : decode prog_4_method_11_code 108 = .ok (.aload_n 0, 1) := by decide +kernel
theorem d_Rdr_takeBehindPart_109 : decode prog_4_method_11_code 109 = .ok (.getfield 72, 3) := by decide +kernel
theorem d_Rdr_takeBehindPart_112 : decode prog_4_method_11_code 112 = .ok (.iaload, 1) := by decide +kernel
theorem d_Rdr_takeBehindPart_113 : decode prog_4_method_11_code 113 = .ok (.iconst 0, 1) := by decide +kernel
theorem d_Rdr_takeBehindPart_114 : decode prog_4_method_11_code 114 = .ok (.invokevirtual 115, 3) := by decide +kernel
theorem d_Rdr_takeBehindPart_117 : decode prog_4_method_11_code 117 = .ok (.istore_n 1, 1) := by decide +kernel
theorem d_Rdr_takeBehindPart_118 : decode prog_4_method_11_code 118 = .ok (.aload_n 0, 1) := by decide +kernel
theorem d_Rdr_takeBehindPart_119 : decode prog_4_method_11_code 119 = .ok (.getfield 29, 3) := by decide +kernel
theorem d_Rdr_takeBehindPart_122 : decode prog_4_method_11_code 122 = .ok (.aload_n 0, 1) := by decide +kernel
theorem d_Rdr_takeBehindPart_123 : decode prog_4_method_11_code 123 = .ok (.getfield 72, 3) := by decide +kernel
theorem d_Rdr_takeBehindPart_126 : decode prog_4_method_11_code 126 = .ok (.aload_n 0, 1) := by decide +kernel
theorem d_Rdr_takeBehindPart_127 : decode prog_4_method_11_code 127 = .ok (.getfield 21, 3) := by decide +kernel
theorem d_Rdr_takeBehindPart_130 : decode prog_4_method_11_code 130 = .ok (.invokevirtual 98, 3) := by decide +kernel
theorem d_Rdr_takeBehindPart_133 : decode prog_4_method_11_code 133 = .ok (.iastore, 1) := by decide +kernel
theorem d_Rdr_takeBehindPart_134 : decode prog_4_method_11_code 134 = .ok (.iload_n 1, 1) := by decide +kernel
theorem d_Rdr_takeBehindPart_135 : decode prog_4_method_11_code 135 = .ok (.ireturn, 1) := by decide +kernel
theorem d_Rdr_takeBehindPart_136 : decode prog_4_method_11_code 136 = .ok (.aload_n 0, 1) := by decide +kernel
theorem d_Rdr_takeBehindPart_137 : decode prog_4_method_11_code 137 = .ok (.invokevirtual 129, 3) := by decide +kernel
theorem d_Rdr_takeBehindPart_140 : decode prog_4_method_11_code 140 = .ok (.ireturn, 1) := by decide +kernel
theorem d_Rdr_takeBehindPart_141 : decode prog_4_method_11_code 141 = .ok (.aload_n 0, 1) := by decide +kernel
theorem d_Rdr_takeBehindPart_142 : decode prog_4_method_11_code 142 = .ok (.getfield 63, 3) := by decide +kernel
theorem d_Rdr_takeBehindPart_145 : decode prog_4_method_11_code 145 = .ok (.ifCond .ne 14, 3) := by decide +kernel
theorem d_Rdr_takeBehindPart_148 : decode prog_4_method_11_code 148 = .ok (.aload_n 0, 1) := by decide +kernel
theorem d_Rdr_takeBehindPart_149 : decode prog_4_method_11_code 149 = .ok (.getfield 72, 3) := by decide +kernel
theorem d_Rdr_takeBehindPart_152 : decode prog_4_method_11_code 152 = .ok (.ifCond .ne 7, 3) := by decide +kernel
theorem d_Rdr_takeBehindPart_155 : decode prog_4_method_11_code 155 = .ok (.iconst 1, 1) := by decide +kernel
theorem d_Rdr_takeBehindPart_156 : decode prog_4_method_11_code 156 = .ok (.goto 4, 3) := by decide +kernel
theorem d_Rdr_takeBehindPart_159 : decode prog_4_method_11_code 159 = .ok (.iconst 0, 1) := by decide +kernel
theorem d_Rdr_takeBehindPart_160 : decode prog_4_method_11_code 160 = .ok (.ireturn, 1) := by decide +kernel
set_option maxHeartbeats 4000000 in
set_option maxRecDepth 100000 in
theorem c_Rdr_takeBehindPart (hP : zP b0 N f (wRdr ck A g len st)) (hu : uok st) : zK l D ck ad b0 y_Rdr_takeBehindPart prog_4_method_11_code 2 ((some FieldType.boolean)) 2 0 0 [.ref (A 0)] N f (fun r N' f' => r = some (.int (zb (bBP st).1)) ∧ N = N' ∧ zP b0 N f' (wRdr ck A g len ((bBP st).2)) ∧ zF N f f' (AA A)) := by
  refine zM.of zG_w (by decide) (Nat.le_of_ble_eq_true rfl) ?_
  intro zp ze zst zm zar zbe zme zc X hnm hb0
  have hF : zF N f f (AA A) := zF.rf
  refine z_aload_n X d_Rdr_takeBehindPart_0 rfl ?_
  refine z_get X d_Rdr_takeBehindPart_1 (hP.lo 0 rfl) (hP.at 0 rfl) cl_Rdr in_Rdr 5 (by decide) fl_Rdr_72 rfl rfl ?_
  refine z_if_lt X 19 d_Rdr_takeBehindPart_4 (by decide) (fun h4 => ?_) (fun h4 => ?_)
  · skip
    have e9 : bBP st = (false, st) := by rw [bBP, if_pos h4]
    refine z_iconst X d_Rdr_takeBehindPart_19 (v := 0) (by decide) ?_
    exact z_zret X d_Rdr_takeBehindPart_20 rfl ⟨by rw [e9]; rfl, rfl, by rw [e9]; exact hP, hF⟩
  · skip
    refine z_aload_n X d_Rdr_takeBehindPart_7 rfl ?_
    refine z_get X d_Rdr_takeBehindPart_8 (hP.lo 0 rfl) (hP.at 0 rfl) cl_Rdr in_Rdr 5 (by decide) fl_Rdr_72 rfl rfl ?_
    refine z_aload_n X d_Rdr_takeBehindPart_11 rfl ?_
    refine z_get X d_Rdr_takeBehindPart_12 (hP.lo 0 rfl) (hP.at 0 rfl) cl_Rdr in_Rdr 4 (by decide) fl_Rdr_32 rfl rfl ?_
    refine z_alen X d_Rdr_takeBehindPart_15 (hP.lo 5 rfl) (hP.at 5 rfl) (t0 := 0) rfl rfl ?_
    refine z_icmp_lt X 21 d_Rdr_takeBehindPart_16 (by decide) (fun h16 => ?_) (fun h16 => ?_)
    · skip
      have h16 : st.1 5 < 11 := h16
      have hvp : vp_in (st.1 5) 11 := (by rw [vp_in_iff]; have a1 := Int32.not_lt.mp h4; rw [Int32.le_iff_toInt_le] at a1; have a2 := h16; rw [Int32.lt_iff_toInt_lt] at a2; simp at a1; exact ⟨a1, a2⟩)
      have e8 : bBP st = bBP1 (qs 6 (st.2.2.2.2 (st.1 5).toNatClampNeg) st) := by rw [bBP, if_neg h4, if_pos h16]
      refine z_aload_n X d_Rdr_takeBehindPart_21 rfl ?_
      refine z_aload_n X d_Rdr_takeBehindPart_22 rfl ?_
      refine z_get X d_Rdr_takeBehindPart_23 (hP.lo 0 rfl) (hP.at 0 rfl) cl_Rdr in_Rdr 4 (by decide) fl_Rdr_32 rfl rfl ?_
      refine z_aload_n X d_Rdr_takeBehindPart_26 rfl ?_
      refine z_get X d_Rdr_takeBehindPart_27 (hP.lo 0 rfl) (hP.at 0 rfl) cl_Rdr in_Rdr 5 (by decide) fl_Rdr_72 rfl rfl ?_
      refine z_iald X d_Rdr_takeBehindPart_30 (hP.lo 5 rfl) (hP.at 5 rfl) (t0 := 0) rfl hvp ?_
      refine z_putP X t_Rdr ty_Rdr n_Rdr d_Rdr_takeBehindPart_31 hP 0 rfl cl_Rdr in_Rdr 6 (by decide) fl_Rdr_46 rfl rfl rfl rfl rfl (Nat.le_of_ble_eq_true rfl) (fun hP => ?_)
      have hF := hF.by (by simp) hP
      refine z_aload_n X d_Rdr_takeBehindPart_34 rfl ?_
      refine z_get X d_Rdr_takeBehindPart_35 (hP.lo 0 rfl) (hP.at 0 rfl) cl_Rdr in_Rdr 11 (by decide) fl_Rdr_63 rfl rfl ?_
      refine z_lookS X 141 [(38, 72), (41, 136), (124, 95)] d_Rdr_takeBehindPart_38 (by decide) (by decide) (by decide) (fun i hi hx => ?_) (fun hd => ?_)
      · match i, hi, hx with
        | 0, _, hx =>
          have g38 : _ = (38 : Int32) := hx
          have g38 : st.1 11 = 38 := g38
          have e9 := e8.trans (if_pos g38)
          refine zW.topc (pc' := 72) rfl ?_
          refine z_aload_n X d_Rdr_takeBehindPart_72 rfl ?_
          refine z_iconst X d_Rdr_takeBehindPart_73 (v := 0) (by decide) ?_
          refine z_putP X t_Rdr ty_Rdr n_Rdr d_Rdr_takeBehindPart_74 hP 0 rfl cl_Rdr in_Rdr 9 (by decide) fl_Rdr_66 rfl rfl rfl rfl rfl (Nat.le_of_ble_eq_true rfl) (fun hP => ?_)
          have hF := hF.by (by simp) hP
          refine z_aload_n X d_Rdr_takeBehindPart_77 rfl ?_
          refine z_get X d_Rdr_takeBehindPart_78 (hP.lo 0 rfl) (hP.at 0 rfl) cl_Rdr in_Rdr 1 (by decide) fl_Rdr_21 rfl rfl ?_
          refine z_aload_n X d_Rdr_takeBehindPart_81 rfl ?_
          refine z_get X d_Rdr_takeBehindPart_82 (hP.lo 0 rfl) (hP.at 0 rfl) cl_Rdr in_Rdr 3 (by decide) fl_Rdr_29 rfl rfl ?_
          refine z_aload_n X d_Rdr_takeBehindPart_85 rfl ?_
          refine z_get X d_Rdr_takeBehindPart_86 (hP.lo 0 rfl) (hP.at 0 rfl) cl_Rdr in_Rdr 5 (by decide) fl_Rdr_72 rfl rfl ?_
          refine z_iald X d_Rdr_takeBehindPart_89 (hP.lo 4 rfl) (hP.at 4 rfl) (t0 := 0) rfl hvp ?_
          refine z_iconst X d_Rdr_takeBehindPart_90 (v := 1) (by decide) ?_
          refine z_callV X zG_ok (c_Tre_insertT (ts := (qs 9 0 (qs 6 (st.2.2.2.2 (st.1 5).toNatClampNeg) st)).2.1) (hP.sub [6, 7, 8, 9] (by decide) rfl) hu) d_Rdr_takeBehindPart_91 ⟨(z_cb (n := 2) X.2.2.2.2.1 ml_Rdr_115 mc_Tre_insert ini_Tre (by decide +kernel) rfl rfl ⟨Nat.le_of_ble_eq_true rfl, Nat.le_of_ble_eq_true rfl⟩), X.2.2.2.2.1 _ im_Tre_insert, X.2.2.2.2.1 _ sel_Tre_insert⟩ (hP.lo 6 rfl) (hP.at 6 rfl) cl_Tre rfl rfl (Nat.le_of_ble_eq_true rfl) ⟨Nat.le_of_ble_eq_true rfl, Nat.le_of_ble_eq_true rfl⟩ (fun r N1 f1 hp hN1 => ?_)
          obtain ⟨rfl, rfl, hT, hF1⟩ := hp
          have hP := zP.tre (g := g) (len := len) (st := qs 9 0 (qs 6 (st.2.2.2.2 (st.1 5).toNatClampNeg) st)) hP hT hF1
          have hF := hF.tre hF1
          exact z_zret X d_Rdr_takeBehindPart_94 (zb_n _) ⟨by rw [e9]; rfl, rfl, by rw [e9]; exact hP, hF⟩
        | 1, _, hx =>
          have g38 : _ = (41 : Int32) := hx
          have g38 : st.1 11 = 41 := g38
          have e9 := e8.trans ((if_neg (by show ¬ st.1 11 = 38; rw [g38]; decide)).trans (if_pos g38))
          refine zW.topc (pc' := 136) rfl ?_
          refine z_aload_n X d_Rdr_takeBehindPart_136 rfl ?_
          refine z_callV X zG_ok (c_Rdr_endLevelB (st := qs 6 (st.2.2.2.2 (st.1 5).toNatClampNeg) st) hP) d_Rdr_takeBehindPart_137 ⟨(z_cb (n := 0) X.2.2.2.2.1 ml_Rdr_129 mc_Rdr_endLevel ini_Rdr (by decide +kernel) rfl rfl ⟨Nat.le_of_ble_eq_true rfl, Nat.le_of_ble_eq_true rfl⟩), X.2.2.2.2.1 _ im_Rdr_endLevel, X.2.2.2.2.1 _ sel_Rdr_endLevel⟩ (hP.lo 0 rfl) (hP.at 0 rfl) cl_Rdr rfl rfl (Nat.le_of_ble_eq_true rfl) ⟨Nat.le_of_ble_eq_true rfl, Nat.le_of_ble_eq_true rfl⟩ (fun r N1 f1 hp hN1 => ?_)
          obtain ⟨rfl, rfl, hP, hF1⟩ := hp
          have hF := hF.join hF1 (Nat.le_refl _) (fun _ h => Or.inl h)
          exact z_zret X d_Rdr_takeBehindPart_140 (zb_n _) ⟨by rw [e9], rfl, by rw [e9]; exact hP, hF⟩
        | 2, _, hx =>
          have g38 : _ = (124 : Int32) := hx
          have g38 : st.1 11 = 124 := g38
          have e9 := e8.trans ((if_neg (by show ¬ st.1 11 = 38; rw [g38]; decide)).trans ((if_neg (by show ¬ st.1 11 = 41; rw [g38]; decide)).trans (if_pos g38)))
          refine zW.topc (pc' := 95) rfl ?_
          refine z_aload_n X d_Rdr_takeBehindPart_95 rfl ?_
          refine z_iconst X d_Rdr_takeBehindPart_96 (v := 0) (by decide) ?_
          refine z_putP X t_Rdr ty_Rdr n_Rdr d_Rdr_takeBehindPart_97 hP 0 rfl cl_Rdr in_Rdr 9 (by decide) fl_Rdr_66 rfl rfl rfl rfl rfl (Nat.le_of_ble_eq_true rfl) (fun hP => ?_)
          have hF := hF.by (by simp) hP
          refine z_aload_n X d_Rdr_takeBehindPart_100 rfl ?_
          refine z_get X d_Rdr_takeBehindPart_101 (hP.lo 0 rfl) (hP.at 0 rfl) cl_Rdr in_Rdr 1 (by decide) fl_Rdr_21 rfl rfl ?_
          refine z_aload_n X d_Rdr_takeBehindPart_104 rfl ?_
          refine z_get X d_Rdr_takeBehindPart_105 (hP.lo 0 rfl) (hP.at 0 rfl) cl_Rdr in_Rdr 2 (by decide) fl_Rdr_25 rfl rfl ?_
          refine z_aload_n X d_Rdr_takeBehindPart_108 rfl ?_
          refine z_get X d_Rdr_takeBehindPart_109 (hP.lo 0 rfl) (hP.at 0 rfl) cl_Rdr in_Rdr 5 (by decide) fl_Rdr_72 rfl rfl ?_
          refine z_iald X d_Rdr_takeBehindPart_112 (hP.lo 3 rfl) (hP.at 3 rfl) (t0 := 0) rfl hvp ?_
          refine z_iconst X d_Rdr_takeBehindPart_113 (v := 0) (by decide) ?_
          refine z_callV X zG_ok (c_Tre_insertT (ts := (qs 9 0 (qs 6 (st.2.2.2.2 (st.1 5).toNatClampNeg) st)).2.1) (hP.sub [6, 7, 8, 9] (by decide) rfl) hu) d_Rdr_takeBehindPart_114 ⟨(z_cb (n := 2) X.2.2.2.2.1 ml_Rdr_115 mc_Tre_insert ini_Tre (by decide +kernel) rfl rfl ⟨Nat.le_of_ble_eq_true rfl, Nat.le_of_ble_eq_true rfl⟩), X.2.2.2.2.1 _ im_Tre_insert, X.2.2.2.2.1 _ sel_Tre_insert⟩ (hP.lo 6 rfl) (hP.at 6 rfl) cl_Tre rfl rfl (Nat.le_of_ble_eq_true rfl) ⟨Nat.le_of_ble_eq_true rfl, Nat.le_of_ble_eq_true rfl⟩ (fun r N1 f1 hp hN1 => ?_)
          obtain ⟨rfl, rfl, hT, hF1⟩ := hp
          have hP := zP.tre (g := g) (len := len) (st := qs 9 0 (qs 6 (st.2.2.2.2 (st.1 5).toNatClampNeg) st)) hP hT hF1
          have hF := hF.tre hF1
          refine z_istore_n X d_Rdr_takeBehindPart_117 (by decide) rfl ?_
          refine z_aload_n X d_Rdr_takeBehindPart_118 rfl ?_
          refine z_get X d_Rdr_takeBehindPart_119 (hP.lo 0 rfl) (hP.at 0 rfl) cl_Rdr in_Rdr 3 (by decide) fl_Rdr_29 rfl rfl ?_
          refine z_aload_n X d_Rdr_takeBehindPart_122 rfl ?_
          refine z_get X d_Rdr_takeBehindPart_123 (hP.lo 0 rfl) (hP.at 0 rfl) cl_Rdr in_Rdr 5 (by decide) fl_Rdr_72 rfl rfl ?_
          refine z_aload_n X d_Rdr_takeBehindPart_126 rfl ?_
          refine z_get X d_Rdr_takeBehindPart_127 (hP.lo 0 rfl) (hP.at 0 rfl) cl_Rdr in_Rdr 1 (by decide) fl_Rdr_21 rfl rfl ?_
          refine z_callV X zG_ok (c_Tre_size (hP.sub [6, 7, 8, 9] (by decide) rfl)) d_Rdr_takeBehindPart_130 ⟨(z_cb (n := 0) X.2.2.2.2.1 ml_Rdr_98 mc_Tre_size ini_Tre (by decide +kernel) rfl rfl ⟨Nat.le_of_ble_eq_true rfl, Nat.le_of_ble_eq_true rfl⟩), X.2.2.2.2.1 _ im_Tre_size, X.2.2.2.2.1 _ sel_Tre_size⟩ (hP.lo 6 rfl) (hP.at 6 rfl) cl_Tre rfl rfl (Nat.le_of_ble_eq_true rfl) ⟨Nat.le_of_ble_eq_true rfl, Nat.le_of_ble_eq_true rfl⟩ (fun r N1 f1 hp hN1 => ?_)
          obtain ⟨rfl, rfl, rfl⟩ := hp
          refine z_iastP X d_Rdr_takeBehindPart_133 hP 4 rfl (t0 := 0) rfl hvp (fun hP => ?_)
          have hF := hF.by (by simp) hP
          refine z_iload_n X d_Rdr_takeBehindPart_134 rfl ?_
          exact z_zret X d_Rdr_takeBehindPart_135 (zb_n _) ⟨by rw [e9]; rfl, rfl, by rw [e9]; exact hP, hF⟩
        | j + 3, hi, _ => exact absurd hi (by simp)
      · skip
        have g38_0 : ¬ _ = (38 : Int32) := hd 0 (by decide)
        have g38_1 : ¬ _ = (41 : Int32) := hd 1 (by decide)
        have g38_2 : ¬ _ = (124 : Int32) := hd 2 (by decide)
        have e7 : bBP st = (decide (st.1 11 = 0) && decide (st.1 5 = 0), qs 6 (st.2.2.2.2 (st.1 5).toNatClampNeg) st) := e8.trans ((if_neg g38_0).trans ((if_neg g38_1).trans (if_neg g38_2)))
        refine z_aload_n X d_Rdr_takeBehindPart_141 rfl ?_
        refine z_get X d_Rdr_takeBehindPart_142 (hP.lo 0 rfl) (hP.at 0 rfl) cl_Rdr in_Rdr 11 (by decide) fl_Rdr_63 rfl rfl ?_
        refine z_if_ne X 159 d_Rdr_takeBehindPart_145 (by decide) (fun h145 => ?_) (fun h145 => ?_)
        · skip
          have e9 : bBP st = (false, qs 6 (st.2.2.2.2 (st.1 5).toNatClampNeg) st) := by rw [e7, decide_eq_false h145]; rfl
          refine z_iconst X d_Rdr_takeBehindPart_159 (v := 0) (by decide) ?_
          exact z_zret X d_Rdr_takeBehindPart_160 rfl ⟨by rw [e9]; rfl, rfl, by rw [e9]; exact hP, hF⟩
        · skip
          refine z_aload_n X d_Rdr_takeBehindPart_148 rfl ?_
          refine z_get X d_Rdr_takeBehindPart_149 (hP.lo 0 rfl) (hP.at 0 rfl) cl_Rdr in_Rdr 5 (by decide) fl_Rdr_72 rfl rfl ?_
          refine z_if_ne X 159 d_Rdr_takeBehindPart_152 (by decide) (fun h152 => ?_) (fun h152 => ?_)
          · skip
            have e9 : bBP st = (false, qs 6 (st.2.2.2.2 (st.1 5).toNatClampNeg) st) := by rw [e7, decide_eq_false h152, Bool.and_false]
            refine z_iconst X d_Rdr_takeBehindPart_159 (v := 0) (by decide) ?_
            exact z_zret X d_Rdr_takeBehindPart_160 rfl ⟨by rw [e9]; rfl, rfl, by rw [e9]; exact hP, hF⟩
          · skip
            have e9 : bBP st = (true, qs 6 (st.2.2.2.2 (st.1 5).toNatClampNeg) st) := by rw [e7, decide_eq_true h152, decide_eq_true h145]; rfl
            refine z_iconst X d_Rdr_takeBehindPart_155 (v := 1) (by decide) ?_
            refine z_goto X 160 d_Rdr_takeBehindPart_156 (by decide) ?_
            exact z_zret X d_Rdr_takeBehindPart_160 rfl ⟨by rw [e9]; rfl, rfl, by rw [e9]; exact hP, hF⟩
    · skip
      have h16 : ¬ st.1 5 < 11 := h16
      have e9 : bBP st = (false, st) := by rw [bBP, if_neg h4, if_neg h16]
      refine z_iconst X d_Rdr_takeBehindPart_19 (v := 0) (by decide) ?_
      exact z_zret X d_Rdr_takeBehindPart_20 rfl ⟨by rw [e9]; rfl, rfl, by rw [e9]; exact hP, hF⟩
theorem d_Rdr_takeBehindTerm_0 : decode prog_4_method_8_code 0 = .ok (.aload_n 0, 1) := by decide +kernel
theorem d_Rdr_takeBehindTerm_1 : decode prog_4_method_8_code 1 = .ok (.getfield 63, 3) := by decide +kernel
theorem d_Rdr_takeBehindTerm_4 : decode prog_4_method_8_code 4 = .ok (.lookupswitch 101 #[(35, 81), (43, 60), (45, 60), (60, 81), (61, 81), (62, 81)], 60) := by decide +kernel
theorem d_Rdr_takeBehindTerm_64 : decode prog_4_method_8_code 64 = .ok (.aload_n 0, 1) := by decide +kernel
theorem d_Rdr_takeBehindTerm_65 : decode prog_4_method_8_code 65 = .ok (.iconst 2, 1) := by decide +kernel
theorem d_Rdr_takeBehindTerm_66 : decode prog_4_method_8_code 66 = .ok (.putfield 66, 3) := by decide +kernel
theorem d_Rdr_takeBehindTerm_69 : decode prog_4_method_8_code 69 = .ok (.aload_n 0, 1) := by decide +kernel
theorem d_Rdr_takeBehindTerm_70 : decode prog_4_method_8_code 70 = .ok (.getfield 21, 3) := by decide +kernel
theorem d_Rdr_takeBehindTerm_73 : decode prog_4_method_8_code 73 = .ok (.aload_n 0, 1) := by decide +kernel
theorem d_Rdr_takeBehindTerm_74 : decode prog_4_method_8_code 74 = .ok (.getfield 102, 3) := by decide +kernel
theorem d_Rdr_takeBehindTerm_77 : decode prog_4_method_8_code 77 = .ok (.aload_n 0, 1) := by decide +kernel
theorem d_Rdr_takeBehindTerm_78 : decode prog_4_method_8_code 78 = .ok (.invokevirtual 112, 3) := by decide +kernel
theorem d_Rdr_takeBehindTerm_81 : decode prog_4_method_8_code 81 = .ok (.invokevirtual 115, 3) := by decide +kernel
theorem d_Rdr_takeBehindTerm_84 : decode prog_4_method_8_code 84 = .ok (.ireturn, 1) := by decide +kernel
theorem d_Rdr_takeBehindTerm_85 : decode prog_4_method_8_code 85 = .ok (.aload_n 0, 1) := by decide +kernel
theorem d_Rdr_takeBehindTerm_86 : decode prog_4_method_8_code 86 = .ok (.getfield 94, 3) := by decide +kernel
theorem d_Rdr_takeBehindTerm_89 : decode prog_4_method_8_code 89 = .ok (.ifCond .ne 14, 3) := by decide +kernel
theorem d_Rdr_takeBehindTerm_92 : decode prog_4_method_8_code 92 = .ok (.aload_n 0, 1) := by decide +kernel
theorem d_Rdr_takeBehindTerm_93 : decode prog_4_method_8_code 93 = .ok (.invokevirtual 118, 3) := by decide +kernel
theorem d_Rdr_takeBehindTerm_96 : decode prog_4_method_8_code 96 = .ok (.ifCond .eq 7, 3) := by decide +kernel
theorem d_Rdr_takeBehindTerm_99 : decode prog_4_method_8_code 99 = .ok (.iconst 1, 1) := by decide +kernel
theorem d_Rdr_takeBehindTerm_100 : decode prog_4_method_8_code 100 = .ok (.goto 4, 3) := by decide +kernel
theorem d_Rdr_takeBehindTerm_103 : decode prog_4_method_8_code 103 = .ok (.iconst 0, 1) := by decide +kernel
theorem d_Rdr_takeBehindTerm_104 : decode prog_4_method_8_code 104 = .ok (.ireturn, 1) := by decide +kernel
theorem d_Rdr_takeBehindTerm_105 : decode prog_4_method_8_code 105 = .ok (.aload_n 0, 1) := by decide +kernel
theorem d_Rdr_takeBehindTerm_106 : decode prog_4_method_8_code 106 = .ok (.getfield 94, 3) := by decide +kernel
theorem d_Rdr_takeBehindTerm_109 : decode prog_4_method_8_code 109 = .ok (.ifCond .eq 14, 3) := by decide +kernel
theorem d_Rdr_takeBehindTerm_112 : decode prog_4_method_8_code 112 = .ok (.aload_n 0, 1) := by decide +kernel
theorem d_Rdr_takeBehindTerm_113 : decode prog_4_method_8_code 113 = .ok (.invokevirtual 84, 3) := by decide +kernel
theorem d_Rdr_takeBehindTerm_116 : decode prog_4_method_8_code 116 = .ok (.ifCond .eq 7, 3) := by decide +kernel
theorem d_Rdr_takeBehindTerm_119 : decode prog_4_method_8_code 119 = .ok (.iconst 1, 1) := by decide +kernel
theorem d_Rdr_takeBehindTerm_120 : decode prog_4_method_8_code 120 = .ok (.goto 4, 3) := by decide +kernel
theorem d_Rdr_takeBehindTerm_123 : decode prog_4_method_8_code 123 = .ok (.iconst 0, 1) := by decide +kernel
theorem d_Rdr_takeBehindTerm_124 : decode prog_4_method_8_code 124 = .ok (.ireturn, 1) := by decide +kernel
set_option maxHeartbeats 4000000 in
set_option maxRecDepth 100000 in
theorem c_Rdr_takeBehindTerm (hP : zP b0 N f (wRdr ck A g len st)) (hu : uok st) : zK l D ck ad b0 y_Rdr_takeBehindTerm prog_4_method_8_code 1 ((some FieldType.boolean)) 6 0 0 [.ref (A 0)] N f (fun r N' f' => r = some (.int (zb (bBT st).1)) ∧ N = N' ∧ zP b0 N f' (wRdr ck A g len ((bBT st).2)) ∧ zF N f f' (AA A)) := by
  refine zM.of zG_w (by decide) (Nat.le_of_ble_eq_true rfl) ?_
  intro zp ze zst zm zar zbe zme zc X hnm hb0
  have hF : zF N f f (AA A) := zF.rf
  refine z_aload_n X d_Rdr_takeBehindTerm_0 rfl ?_
  refine z_get X d_Rdr_takeBehindTerm_1 (hP.lo 0 rfl) (hP.at 0 rfl) cl_Rdr in_Rdr 11 (by decide) fl_Rdr_63 rfl rfl ?_
  refine z_lookS X 105 [(35, 85), (43, 64), (45, 64), (60, 85), (61, 85), (62, 85)] d_Rdr_takeBehindTerm_4 (by decide) (by decide) (by decide) (fun i hi hx => ?_) (fun hd => ?_)
  · match i, hi, hx with
    | 0, _, hx =>
      have g4 : _ = (35 : Int32) := hx
      have g4 : st.1 11 = 35 := g4
      have e8 : bBT st = (if st.1 8 = 0 then bCmp st else (false, st)) := (if_neg (by rw [g4]; decide)).trans (if_pos (Or.inl g4))
      refine zW.topc (pc' := 85) rfl ?_
      refine z_aload_n X d_Rdr_takeBehindTerm_85 rfl ?_
      refine z_get X d_Rdr_takeBehindTerm_86 (hP.lo 0 rfl) (hP.at 0 rfl) cl_Rdr in_Rdr 8 (by decide) fl_Rdr_94 rfl rfl ?_
      refine z_if_ne X 103 d_Rdr_takeBehindTerm_89 (by decide) (fun h89 => ?_) (fun h89 => ?_)
      · skip
        have e9 := e8.trans (if_neg h89)
        refine z_iconst X d_Rdr_takeBehindTerm_103 (v := 0) (by decide) ?_
        exact z_zret X d_Rdr_takeBehindTerm_104 rfl ⟨by rw [e9]; rfl, rfl, by rw [e9]; exact hP, hF⟩
      · skip
        have e7 := e8.trans (if_pos h89)
        refine z_aload_n X d_Rdr_takeBehindTerm_92 rfl ?_
        refine z_callV X zG_ok (c_Rdr_compare hP hu) d_Rdr_takeBehindTerm_93 ⟨(z_cb (n := 0) X.2.2.2.2.1 ml_Rdr_118 mc_Rdr_compare ini_Rdr (by decide +kernel) rfl rfl ⟨Nat.le_of_ble_eq_true rfl, Nat.le_of_ble_eq_true rfl⟩), X.2.2.2.2.1 _ im_Rdr_compare, X.2.2.2.2.1 _ sel_Rdr_compare⟩ (hP.lo 0 rfl) (hP.at 0 rfl) cl_Rdr rfl rfl (Nat.le_of_ble_eq_true rfl) ⟨Nat.le_of_ble_eq_true rfl, Nat.le_of_ble_eq_true rfl⟩ (fun r N1 f1 hp hN1 => ?_)
        obtain ⟨rfl, rfl, hP, hF1⟩ := hp
        have hF := hF.join hF1 (Nat.le_refl _) (fun _ h => Or.inl h)
        refine z_if_eq X 103 d_Rdr_takeBehindTerm_96 (by decide) (fun h96 => ?_) (fun h96 => ?_)
        · skip
          have e6 : (bCmp st).1 = false := zb_0.mp h96
          have e9 : bBT st = (false, (bCmp st).2) := by rw [e7, ← e6]
          refine z_iconst X d_Rdr_takeBehindTerm_103 (v := 0) (by decide) ?_
          exact z_zret X d_Rdr_takeBehindTerm_104 rfl ⟨by rw [e9]; rfl, rfl, by rw [e9]; exact hP, hF⟩
        · skip
          have e6 : (bCmp st).1 = true := by
            cases hq : (bCmp st).1
            · exact absurd (zb_0.mpr hq) h96
            · rfl
          have e9 : bBT st = (true, (bCmp st).2) := by rw [e7, ← e6]
          refine z_iconst X d_Rdr_takeBehindTerm_99 (v := 1) (by decide) ?_
          refine z_goto X 104 d_Rdr_takeBehindTerm_100 (by decide) ?_
          exact z_zret X d_Rdr_takeBehindTerm_104 rfl ⟨by rw [e9]; rfl, rfl, by rw [e9]; exact hP, hF⟩
    | 1, _, hx =>
      have g4 : _ = (43 : Int32) := hx
      have g4 : st.1 11 = 43 := g4
      have e9 := show bBT st = _ from if_pos (Or.inl g4)
      refine zW.topc (pc' := 64) rfl ?_
      refine z_aload_n X d_Rdr_takeBehindTerm_64 rfl ?_
      refine z_iconst X d_Rdr_takeBehindTerm_65 (v := 2) (by decide) ?_
      refine z_putP X t_Rdr ty_Rdr n_Rdr d_Rdr_takeBehindTerm_66 hP 0 rfl cl_Rdr in_Rdr 9 (by decide) fl_Rdr_66 rfl rfl rfl rfl rfl (Nat.le_of_ble_eq_true rfl) (fun hP => ?_)
      have hF := hF.by (by simp) hP
      refine z_aload_n X d_Rdr_takeBehindTerm_69 rfl ?_
      refine z_get X d_Rdr_takeBehindTerm_70 (hP.lo 0 rfl) (hP.at 0 rfl) cl_Rdr in_Rdr 1 (by decide) fl_Rdr_21 rfl rfl ?_
      refine z_aload_n X d_Rdr_takeBehindTerm_73 rfl ?_
      refine z_get X d_Rdr_takeBehindTerm_74 (hP.lo 0 rfl) (hP.at 0 rfl) cl_Rdr in_Rdr 7 (by decide) fl_Rdr_102 rfl rfl ?_
      refine z_aload_n X d_Rdr_takeBehindTerm_77 rfl ?_
      refine z_callV X zG_ok (c_Rdr_kindOfToken (st := qs 9 2 st) hP) d_Rdr_takeBehindTerm_78 ⟨(z_cb (n := 0) X.2.2.2.2.1 ml_Rdr_112 mc_Rdr_kindOfToken ini_Rdr (by decide +kernel) rfl rfl ⟨Nat.le_of_ble_eq_true rfl, Nat.le_of_ble_eq_true rfl⟩), X.2.2.2.2.1 _ im_Rdr_kindOfToken, X.2.2.2.2.1 _ sel_Rdr_kindOfToken⟩ (hP.lo 0 rfl) (hP.at 0 rfl) cl_Rdr rfl rfl (Nat.le_of_ble_eq_true rfl) ⟨Nat.le_of_ble_eq_true rfl, Nat.le_of_ble_eq_true rfl⟩ (fun r N1 f1 hp hN1 => ?_)
      obtain ⟨rfl, rfl, rfl⟩ := hp
      refine z_callV X zG_ok (c_Tre_insertT (ts := (qs 9 2 st).2.1) (hP.sub [6, 7, 8, 9] (by decide) rfl) hu) d_Rdr_takeBehindTerm_81 ⟨(z_cb (n := 2) X.2.2.2.2.1 ml_Rdr_115 mc_Tre_insert ini_Tre (by decide +kernel) rfl rfl ⟨Nat.le_of_ble_eq_true rfl, Nat.le_of_ble_eq_true rfl⟩), X.2.2.2.2.1 _ im_Tre_insert, X.2.2.2.2.1 _ sel_Tre_insert⟩ (hP.lo 6 rfl) (hP.at 6 rfl) cl_Tre rfl rfl (Nat.le_of_ble_eq_true rfl) ⟨Nat.le_of_ble_eq_true rfl, Nat.le_of_ble_eq_true rfl⟩ (fun r N1 f1 hp hN1 => ?_)
      obtain ⟨rfl, rfl, hT, hF1⟩ := hp
      have hP := zP.tre (g := g) (len := len) (st := qs 9 2 st) hP hT hF1
      have hF := hF.tre hF1
      exact z_zret X d_Rdr_takeBehindTerm_84 (zb_n _) ⟨by rw [e9]; rfl, rfl, by rw [e9]; exact hP, hF⟩
    | 2, _, hx =>
      have g4 : _ = (45 : Int32) := hx
      have g4 : st.1 11 = 45 := g4
      have e9 := show bBT st = _ from if_pos (Or.inr g4)
      refine zW.topc (pc' := 64) rfl ?_
      refine z_aload_n X d_Rdr_takeBehindTerm_64 rfl ?_
      refine z_iconst X d_Rdr_takeBehindTerm_65 (v := 2) (by decide) ?_
      refine z_putP X t_Rdr ty_Rdr n_Rdr d_Rdr_takeBehindTerm_66 hP 0 rfl cl_Rdr in_Rdr 9 (by decide) fl_Rdr_66 rfl rfl rfl rfl rfl (Nat.le_of_ble_eq_true rfl) (fun hP => ?_)
      have hF := hF.by (by simp) hP
      refine z_aload_n X d_Rdr_takeBehindTerm_69 rfl ?_
      refine z_get X d_Rdr_takeBehindTerm_70 (hP.lo 0 rfl) (hP.at 0 rfl) cl_Rdr in_Rdr 1 (by decide) fl_Rdr_21 rfl rfl ?_
      refine z_aload_n X d_Rdr_takeBehindTerm_73 rfl ?_
      refine z_get X d_Rdr_takeBehindTerm_74 (hP.lo 0 rfl) (hP.at 0 rfl) cl_Rdr in_Rdr 7 (by decide) fl_Rdr_102 rfl rfl ?_
      refine z_aload_n X d_Rdr_takeBehindTerm_77 rfl ?_
      refine z_callV X zG_ok (c_Rdr_kindOfToken (st := qs 9 2 st) hP) d_Rdr_takeBehindTerm_78 ⟨(z_cb (n := 0) X.2.2.2.2.1 ml_Rdr_112 mc_Rdr_kindOfToken ini_Rdr (by decide +kernel) rfl rfl ⟨Nat.le_of_ble_eq_true rfl, Nat.le_of_ble_eq_true rfl⟩), X.2.2.2.2.1 _ im_Rdr_kindOfToken, X.2.2.2.2.1 _ sel_Rdr_kindOfToken⟩ (hP.lo 0 rfl) (hP.at 0 rfl) cl_Rdr rfl rfl (Nat.le_of_ble_eq_true rfl) ⟨Nat.le_of_ble_eq_true rfl, Nat.le_of_ble_eq_true rfl⟩ (fun r N1 f1 hp hN1 => ?_)
      obtain ⟨rfl, rfl, rfl⟩ := hp
      refine z_callV X zG_ok (c_Tre_insertT (ts := (qs 9 2 st).2.1) (hP.sub [6, 7, 8, 9] (by decide) rfl) hu) d_Rdr_takeBehindTerm_81 ⟨(z_cb (n := 2) X.2.2.2.2.1 ml_Rdr_115 mc_Tre_insert ini_Tre (by decide +kernel) rfl rfl ⟨Nat.le_of_ble_eq_true rfl, Nat.le_of_ble_eq_true rfl⟩), X.2.2.2.2.1 _ im_Tre_insert, X.2.2.2.2.1 _ sel_Tre_insert⟩ (hP.lo 6 rfl) (hP.at 6 rfl) cl_Tre rfl rfl (Nat.le_of_ble_eq_true rfl) ⟨Nat.le_of_ble_eq_true rfl, Nat.le_of_ble_eq_true rfl⟩ (fun r N1 f1 hp hN1 => ?_)
      obtain ⟨rfl, rfl, hT, hF1⟩ := hp
      have hP := zP.tre (g := g) (len := len) (st := qs 9 2 st) hP hT hF1
      have hF := hF.tre hF1
      exact z_zret X d_Rdr_takeBehindTerm_84 (zb_n _) ⟨by rw [e9]; rfl, rfl, by rw [e9]; exact hP, hF⟩
    | 3, _, hx =>
      have g4 : _ = (60 : Int32) := hx
      have g4 : st.1 11 = 60 := g4
      have e8 : bBT st = (if st.1 8 = 0 then bCmp st else (false, st)) := (if_neg (by rw [g4]; decide)).trans (if_pos (Or.inr (Or.inl g4)))
      refine zW.topc (pc' := 85) rfl ?_
      refine z_aload_n X d_Rdr_takeBehindTerm_85 rfl ?_
      refine z_get X d_Rdr_takeBehindTerm_86 (hP.lo 0 rfl) (hP.at 0 rfl) cl_Rdr in_Rdr 8 (by decide) fl_Rdr_94 rfl rfl ?_
      refine z_if_ne X 103 d_Rdr_takeBehindTerm_89 (by decide) (fun h89 => ?_) (fun h89 => ?_)
      · skip
        have e9 := e8.trans (if_neg h89)
        refine z_iconst X d_Rdr_takeBehindTerm_103 (v := 0) (by decide) ?_
        exact z_zret X d_Rdr_takeBehindTerm_104 rfl ⟨by rw [e9]; rfl, rfl, by rw [e9]; exact hP, hF⟩
      · skip
        have e7 := e8.trans (if_pos h89)
        refine z_aload_n X d_Rdr_takeBehindTerm_92 rfl ?_
        refine z_callV X zG_ok (c_Rdr_compare hP hu) d_Rdr_takeBehindTerm_93 ⟨(z_cb (n := 0) X.2.2.2.2.1 ml_Rdr_118 mc_Rdr_compare ini_Rdr (by decide +kernel) rfl rfl ⟨Nat.le_of_ble_eq_true rfl, Nat.le_of_ble_eq_true rfl⟩), X.2.2.2.2.1 _ im_Rdr_compare, X.2.2.2.2.1 _ sel_Rdr_compare⟩ (hP.lo 0 rfl) (hP.at 0 rfl) cl_Rdr rfl rfl (Nat.le_of_ble_eq_true rfl) ⟨Nat.le_of_ble_eq_true rfl, Nat.le_of_ble_eq_true rfl⟩ (fun r N1 f1 hp hN1 => ?_)
        obtain ⟨rfl, rfl, hP, hF1⟩ := hp
        have hF := hF.join hF1 (Nat.le_refl _) (fun _ h => Or.inl h)
        refine z_if_eq X 103 d_Rdr_takeBehindTerm_96 (by decide) (fun h96 => ?_) (fun h96 => ?_)
        · skip
          have e6 : (bCmp st).1 = false := zb_0.mp h96
          have e9 : bBT st = (false, (bCmp st).2) := by rw [e7, ← e6]
          refine z_iconst X d_Rdr_takeBehindTerm_103 (v := 0) (by decide) ?_
          exact z_zret X d_Rdr_takeBehindTerm_104 rfl ⟨by rw [e9]; rfl, rfl, by rw [e9]; exact hP, hF⟩
        · skip
          have e6 : (bCmp st).1 = true := by
            cases hq : (bCmp st).1
            · exact absurd (zb_0.mpr hq) h96
            · rfl
          have e9 : bBT st = (true, (bCmp st).2) := by rw [e7, ← e6]
          refine z_iconst X d_Rdr_takeBehindTerm_99 (v := 1) (by decide) ?_
          refine z_goto X 104 d_Rdr_takeBehindTerm_100 (by decide) ?_
          exact z_zret X d_Rdr_takeBehindTerm_104 rfl ⟨by rw [e9]; rfl, rfl, by rw [e9]; exact hP, hF⟩
    | 4, _, hx =>
      have g4 : _ = (61 : Int32) := hx
      have g4 : st.1 11 = 61 := g4
      have e8 : bBT st = (if st.1 8 = 0 then bCmp st else (false, st)) := (if_neg (by rw [g4]; decide)).trans (if_pos (Or.inr (Or.inr (Or.inl g4))))
      refine zW.topc (pc' := 85) rfl ?_
      refine z_aload_n X d_Rdr_takeBehindTerm_85 rfl ?_
      refine z_get X d_Rdr_takeBehindTerm_86 (hP.lo 0 rfl) (hP.at 0 rfl) cl_Rdr in_Rdr 8 (by decide) fl_Rdr_94 rfl rfl ?_
      refine z_if_ne X 103 d_Rdr_takeBehindTerm_89 (by decide) (fun h89 => ?_) (fun h89 => ?_)
      · skip
        have e9 := e8.trans (if_neg h89)
        refine z_iconst X d_Rdr_takeBehindTerm_103 (v := 0) (by decide) ?_
        exact z_zret X d_Rdr_takeBehindTerm_104 rfl ⟨by rw [e9]; rfl, rfl, by rw [e9]; exact hP, hF⟩
      · skip
        have e7 := e8.trans (if_pos h89)
        refine z_aload_n X d_Rdr_takeBehindTerm_92 rfl ?_
        refine z_callV X zG_ok (c_Rdr_compare hP hu) d_Rdr_takeBehindTerm_93 ⟨(z_cb (n := 0) X.2.2.2.2.1 ml_Rdr_118 mc_Rdr_compare ini_Rdr (by decide +kernel) rfl rfl ⟨Nat.le_of_ble_eq_true rfl, Nat.le_of_ble_eq_true rfl⟩), X.2.2.2.2.1 _ im_Rdr_compare, X.2.2.2.2.1 _ sel_Rdr_compare⟩ (hP.lo 0 rfl) (hP.at 0 rfl) cl_Rdr rfl rfl (Nat.le_of_ble_eq_true rfl) ⟨Nat.le_of_ble_eq_true rfl, Nat.le_of_ble_eq_true rfl⟩ (fun r N1 f1 hp hN1 => ?_)
        obtain ⟨rfl, rfl, hP, hF1⟩ := hp
        have hF := hF.join hF1 (Nat.le_refl _) (fun _ h => Or.inl h)
        refine z_if_eq X 103 d_Rdr_takeBehindTerm_96 (by decide) (fun h96 => ?_) (fun h96 => ?_)
        · skip
          have e6 : (bCmp st).1 = false := zb_0.mp h96
          have e9 : bBT st = (false, (bCmp st).2) := by rw [e7, ← e6]
          refine z_iconst X d_Rdr_takeBehindTerm_103 (v := 0) (by decide) ?_
          exact z_zret X d_Rdr_takeBehindTerm_104 rfl ⟨by rw [e9]; rfl, rfl, by rw [e9]; exact hP, hF⟩
        · skip
          have e6 : (bCmp st).1 = true := by
            cases hq : (bCmp st).1
            · exact absurd (zb_0.mpr hq) h96
            · rfl
          have e9 : bBT st = (true, (bCmp st).2) := by rw [e7, ← e6]
          refine z_iconst X d_Rdr_takeBehindTerm_99 (v := 1) (by decide) ?_
          refine z_goto X 104 d_Rdr_takeBehindTerm_100 (by decide) ?_
          exact z_zret X d_Rdr_takeBehindTerm_104 rfl ⟨by rw [e9]; rfl, rfl, by rw [e9]; exact hP, hF⟩
    | 5, _, hx =>
      have g4 : _ = (62 : Int32) := hx
      have g4 : st.1 11 = 62 := g4
      have e8 : bBT st = (if st.1 8 = 0 then bCmp st else (false, st)) := (if_neg (by rw [g4]; decide)).trans (if_pos (Or.inr (Or.inr (Or.inr g4))))
      refine zW.topc (pc' := 85) rfl ?_
      refine z_aload_n X d_Rdr_takeBehindTerm_85 rfl ?_
      refine z_get X d_Rdr_takeBehindTerm_86 (hP.lo 0 rfl) (hP.at 0 rfl) cl_Rdr in_Rdr 8 (by decide) fl_Rdr_94 rfl rfl ?_
      refine z_if_ne X 103 d_Rdr_takeBehindTerm_89 (by decide) (fun h89 => ?_) (fun h89 => ?_)
      · skip
        have e9 := e8.trans (if_neg h89)
        refine z_iconst X d_Rdr_takeBehindTerm_103 (v := 0) (by decide) ?_
        exact z_zret X d_Rdr_takeBehindTerm_104 rfl ⟨by rw [e9]; rfl, rfl, by rw [e9]; exact hP, hF⟩
      · skip
        have e7 := e8.trans (if_pos h89)
        refine z_aload_n X d_Rdr_takeBehindTerm_92 rfl ?_
        refine z_callV X zG_ok (c_Rdr_compare hP hu) d_Rdr_takeBehindTerm_93 ⟨(z_cb (n := 0) X.2.2.2.2.1 ml_Rdr_118 mc_Rdr_compare ini_Rdr (by decide +kernel) rfl rfl ⟨Nat.le_of_ble_eq_true rfl, Nat.le_of_ble_eq_true rfl⟩), X.2.2.2.2.1 _ im_Rdr_compare, X.2.2.2.2.1 _ sel_Rdr_compare⟩ (hP.lo 0 rfl) (hP.at 0 rfl) cl_Rdr rfl rfl (Nat.le_of_ble_eq_true rfl) ⟨Nat.le_of_ble_eq_true rfl, Nat.le_of_ble_eq_true rfl⟩ (fun r N1 f1 hp hN1 => ?_)
        obtain ⟨rfl, rfl, hP, hF1⟩ := hp
        have hF := hF.join hF1 (Nat.le_refl _) (fun _ h => Or.inl h)
        refine z_if_eq X 103 d_Rdr_takeBehindTerm_96 (by decide) (fun h96 => ?_) (fun h96 => ?_)
        · skip
          have e6 : (bCmp st).1 = false := zb_0.mp h96
          have e9 : bBT st = (false, (bCmp st).2) := by rw [e7, ← e6]
          refine z_iconst X d_Rdr_takeBehindTerm_103 (v := 0) (by decide) ?_
          exact z_zret X d_Rdr_takeBehindTerm_104 rfl ⟨by rw [e9]; rfl, rfl, by rw [e9]; exact hP, hF⟩
        · skip
          have e6 : (bCmp st).1 = true := by
            cases hq : (bCmp st).1
            · exact absurd (zb_0.mpr hq) h96
            · rfl
          have e9 : bBT st = (true, (bCmp st).2) := by rw [e7, ← e6]
          refine z_iconst X d_Rdr_takeBehindTerm_99 (v := 1) (by decide) ?_
          refine z_goto X 104 d_Rdr_takeBehindTerm_100 (by decide) ?_
          exact z_zret X d_Rdr_takeBehindTerm_104 rfl ⟨by rw [e9]; rfl, rfl, by rw [e9]; exact hP, hF⟩
    | j + 6, hi, _ => exact absurd hi (by simp)
  · skip
    have g4_0 : ¬ _ = (35 : Int32) := hd 0 (by decide)
    have g4_1 : ¬ _ = (43 : Int32) := hd 1 (by decide)
    have g4_2 : ¬ _ = (45 : Int32) := hd 2 (by decide)
    have g4_3 : ¬ _ = (60 : Int32) := hd 3 (by decide)
    have g4_4 : ¬ _ = (61 : Int32) := hd 4 (by decide)
    have g4_5 : ¬ _ = (62 : Int32) := hd 5 (by decide)
    have e8 : bBT st = (if st.1 8 = 0 then (false, st) else bBP st) := (if_neg (fun z => z.elim g4_1 g4_2)).trans (if_neg (fun z => z.elim g4_0 (fun z => z.elim g4_3 (fun z => z.elim g4_4 g4_5))))
    refine z_aload_n X d_Rdr_takeBehindTerm_105 rfl ?_
    refine z_get X d_Rdr_takeBehindTerm_106 (hP.lo 0 rfl) (hP.at 0 rfl) cl_Rdr in_Rdr 8 (by decide) fl_Rdr_94 rfl rfl ?_
    refine z_if_eq X 123 d_Rdr_takeBehindTerm_109 (by decide) (fun h109 => ?_) (fun h109 => ?_)
    · skip
      have e9 := e8.trans (if_pos h109)
      refine z_iconst X d_Rdr_takeBehindTerm_123 (v := 0) (by decide) ?_
      exact z_zret X d_Rdr_takeBehindTerm_124 rfl ⟨by rw [e9]; rfl, rfl, by rw [e9]; exact hP, hF⟩
    · skip
      have e7 := e8.trans (if_neg h109)
      refine z_aload_n X d_Rdr_takeBehindTerm_112 rfl ?_
      refine z_callV X zG_ok (c_Rdr_takeBehindPart hP hu) d_Rdr_takeBehindTerm_113 ⟨(z_cb (n := 0) X.2.2.2.2.1 ml_Rdr_84 mc_Rdr_takeBehindPart ini_Rdr (by decide +kernel) rfl rfl ⟨Nat.le_of_ble_eq_true rfl, Nat.le_of_ble_eq_true rfl⟩), X.2.2.2.2.1 _ im_Rdr_takeBehindPart, X.2.2.2.2.1 _ sel_Rdr_takeBehindPart⟩ (hP.lo 0 rfl) (hP.at 0 rfl) cl_Rdr rfl rfl (Nat.le_of_ble_eq_true rfl) ⟨Nat.le_of_ble_eq_true rfl, Nat.le_of_ble_eq_true rfl⟩ (fun r N1 f1 hp hN1 => ?_)
      obtain ⟨rfl, rfl, hP, hF1⟩ := hp
      have hF := hF.join hF1 (Nat.le_refl _) (fun _ h => Or.inl h)
      refine z_if_eq X 123 d_Rdr_takeBehindTerm_116 (by decide) (fun h116 => ?_) (fun h116 => ?_)
      · skip
        have e6 : (bBP st).1 = false := zb_0.mp h116
        have e9 : bBT st = (false, (bBP st).2) := by rw [e7, ← e6]
        refine z_iconst X d_Rdr_takeBehindTerm_123 (v := 0) (by decide) ?_
        exact z_zret X d_Rdr_takeBehindTerm_124 rfl ⟨by rw [e9]; rfl, rfl, by rw [e9]; exact hP, hF⟩
      · skip
        have e6 : (bBP st).1 = true := by
          cases hq : (bBP st).1
          · exact absurd (zb_0.mpr hq) h116
          · rfl
        have e9 : bBT st = (true, (bBP st).2) := by rw [e7, ← e6]
        refine z_iconst X d_Rdr_takeBehindTerm_119 (v := 1) (by decide) ?_
        refine z_goto X 124 d_Rdr_takeBehindTerm_120 (by decide) ?_
        exact z_zret X d_Rdr_takeBehindTerm_124 rfl ⟨by rw [e9]; rfl, rfl, by rw [e9]; exact hP, hF⟩
theorem d_Rdr_takePart_0 : decode prog_4_method_5_code 0 = .ok (.aload_n 0, 1) := by decide +kernel
theorem d_Rdr_takePart_1 : decode prog_4_method_5_code 1 = .ok (.getfield 63, 3) := by decide +kernel
theorem d_Rdr_takePart_4 : decode prog_4_method_5_code 4 = .ok (.lookupswitch 155 #[(4, 95), (5, 125), (33, 44), (40, 69)], 44) := by decide +kernel
theorem d_Rdr_takePart_48 : decode prog_4_method_5_code 48 = .ok (.aload_n 0, 1) := by decide +kernel
theorem d_Rdr_takePart_49 : decode prog_4_method_5_code 49 = .ok (.invokevirtual 87, 3) := by decide +kernel
theorem d_Rdr_takePart_52 : decode prog_4_method_5_code 52 = .ok (.ifCond .eq 19, 3) := by decide +kernel
theorem d_Rdr_takePart_55 : decode prog_4_method_5_code 55 = .ok (.aload_n 0, 1) := by decide +kernel
theorem d_Rdr_takePart_56 : decode prog_4_method_5_code 56 = .ok (.getfield 21, 3) := by decide +kernel
theorem d_Rdr_takePart_59 : decode prog_4_method_5_code 59 = .ok (.iconst 2, 1) := by decide +kernel
theorem d_Rdr_takePart_60 : decode prog_4_method_5_code 60 = .ok (.iconst (-1), 1) := by decide +kernel
theorem d_Rdr_takePart_61 : decode prog_4_method_5_code 61 = .ok (.invokevirtual 90, 3) := by decide +kernel
theorem d_Rdr_takePart_64 : decode prog_4_method_5_code 64 = .ok (.ifCond .eq 7, 3) := by decide +kernel
theorem d_Rdr_takePart_67 : decode prog_4_method_5_code 67 = .ok (.iconst 1, 1) := by decide +kernel
theorem d_Rdr_takePart_68 : decode prog_4_method_5_code 68 = .ok (.goto 4, 3) := by decide +kernel
theorem d_Rdr_takePart_71 : decode prog_4_method_5_code 71 = .ok (.iconst 0, 1) := by decide +kernel
theorem d_Rdr_takePart_72 : decode prog_4_method_5_code 72 = .ok (.ireturn, 1) := by decide +kernel
theorem d_Rdr_takePart_73 : decode prog_4_method_5_code 73 = .ok (.aload_n 0, 1) := by decide +kernel
theorem d_Rdr_takePart_74 : decode prog_4_method_5_code 74 = .ok (.invokevirtual 87, 3) := by decide +kernel
theorem d_Rdr_takePart_77 : decode prog_4_method_5_code 77 = .ok (.ifCond .eq 20, 3) := by decide +kernel
theorem d_Rdr_takePart_80 : decode prog_4_method_5_code 80 = .ok (.aload_n 0, 1) := by decide +kernel
theorem d_Rdr_takePart_81 : decode prog_4_method_5_code 81 = .ok (.aload_n 0, 1) := by decide +kernel
theorem d_Rdr_takePart_82 : decode prog_4_method_5_code 82 = .ok (.getfield 72, 3) := by decide +kernel
theorem d_Rdr_takePart_85 : decode prog_4_method_5_code 85 = .ok (.iconst 1, 1) := by decide +kernel
theorem d_Rdr_takePart_86 : decode prog_4_method_5_code 86 = .ok (.iadd, 1) := by decide +kernel
theorem d_Rdr_takePart_87 : decode prog_4_method_5_code 87 = .ok (.invokevirtual 49, 3) := by decide +kernel
theorem d_Rdr_takePart_90 : decode prog_4_method_5_code 90 = .ok (.ifCond .eq 7, 3) := by decide +kernel
theorem d_Rdr_takePart_93 : decode prog_4_method_5_code 93 = .ok (.iconst 1, 1) := by decide +kernel
theorem d_Rdr_takePart_94 : decode prog_4_method_5_code 94 = .ok (.goto 4, 3) := by decide +kernel
theorem d_Rdr_takePart_97 : decode prog_4_method_5_code 97 = .ok (.iconst 0, 1) := by decide +kernel
theorem d_Rdr_takePart_98 : decode prog_4_method_5_code 98 = .ok (.ireturn, 1) := by decide +kernel
theorem d_Rdr_takePart_99 : decode prog_4_method_5_code 99 = .ok (.aload_n 0, 1) := by decide +kernel
theorem d_Rdr_takePart_100 : decode prog_4_method_5_code 100 = .ok (.iconst 1, 1) := by decide +kernel
theorem d_Rdr_takePart_101 : decode prog_4_method_5_code 101 = .ok (.putfield 66, 3) := by decide +kernel
theorem d_Rdr_takePart_104 : decode prog_4_method_5_code 104 = .ok (.aload_n 0, 1) := by decide +kernel
theorem d_Rdr_takePart_105 : decode prog_4_method_5_code 105 = .ok (.invokevirtual 87, 3) := by decide +kernel
theorem d_Rdr_takePart_108 : decode prog_4_method_5_code 108 = .ok (.ifCond .eq 19, 3) := by decide +kernel
theorem d_Rdr_takePart_111 : decode prog_4_method_5_code 111 = .ok (.aload_n 0, 1) := by decide +kernel
theorem d_Rdr_takePart_112 : decode prog_4_method_5_code 112 = .ok (.getfield 21, 3) := by decide +kernel
theorem d_Rdr_takePart_115 : decode prog_4_method_5_code 115 = .ok (.iconst 3, 1) := by decide +kernel
theorem d_Rdr_takePart_116 : decode prog_4_method_5_code 116 = .ok (.iconst (-1), 1) := by decide +kernel
theorem d_Rdr_takePart_117 : decode prog_4_method_5_code 117 = .ok (.invokevirtual 90, 3) := by decide +kernel
theorem d_Rdr_takePart_120 : decode prog_4_method_5_code 120 = .ok (.ifCond .eq 7, 3) := by decide +kernel
theorem d_Rdr_takePart_123 : decode prog_4_method_5_code 123 = .ok (.iconst 1, 1) := by decide +kernel
theorem d_Rdr_takePart_124 : decode prog_4_method_5_code 124 = .ok (.goto 4, 3) := by decide +kernel
theorem d_Rdr_takePart_127 : decode prog_4_method_5_code 127 = .ok (.iconst 0, 1) := by decide +kernel
theorem d_Rdr_takePart_128 : decode prog_4_method_5_code 128 = .ok (.ireturn, 1) := by decide +kernel
theorem d_Rdr_takePart_129 : decode prog_4_method_5_code 129 = .ok (.aload_n 0, 1) := by decide +kernel
theorem d_Rdr_takePart_130 : decode prog_4_method_5_code 130 = .ok (.iconst 1, 1) := by decide +kernel
theorem d_Rdr_takePart_131 : decode prog_4_method_5_code 131 = .ok (.putfield 66, 3) := by decide +kernel
theorem d_Rdr_takePart_134 : decode prog_4_method_5_code 134 = .ok (.aload_n 0, 1) := by decide +kernel
theorem d_Rdr_takePart_135 : decode prog_4_method_5_code 135 = .ok (.invokevirtual 87, 3) := by decide +kernel
theorem d_Rdr_takePart_138 : decode prog_4_method_5_code 138 = .ok (.ifCond .eq 19, 3) := by decide +kernel
theorem d_Rdr_takePart_141 : decode prog_4_method_5_code 141 = .ok (.aload_n 0, 1) := by decide +kernel
theorem d_Rdr_takePart_142 : decode prog_4_method_5_code 142 = .ok (.getfield 21, 3) := by decide +kernel
theorem d_Rdr_takePart_145 : decode prog_4_method_5_code 145 = .ok (.iconst 4, 1) := by decide +kernel
theorem d_Rdr_takePart_146 : decode prog_4_method_5_code 146 = .ok (.iconst (-1), 1) := by decide +kernel
theorem d_Rdr_takePart_147 : decode prog_4_method_5_code 147 = .ok (.invokevirtual 90, 3) := by decide +kernel
theorem d_Rdr_takePart_150 : decode prog_4_method_5_code 150 = .ok (.ifCond .eq 7, 3) := by decide +kernel
theorem d_Rdr_takePart_153 : decode prog_4_method_5_code 153 = .ok (.iconst 1, 1) := by decide +kernel
theorem d_Rdr_takePart_154 : decode prog_4_method_5_code 154 = .ok (.goto 4, 3) := by decide +kernel
theorem d_Rdr_takePart_157 : decode prog_4_method_5_code 157 = .ok (.iconst 0, 1) := by decide +kernel
theorem d_Rdr_takePart_158 : decode prog_4_method_5_code 158 = .ok (.ireturn, 1) := by decide +kernel
theorem d_Rdr_takePart_159 : decode prog_4_method_5_code 159 = .ok (.aload_n 0, 1) := by decide +kernel
theorem d_Rdr_takePart_160 : decode prog_4_method_5_code 160 = .ok (.iconst 0, 1) := by decide +kernel
theorem d_Rdr_takePart_161 : decode prog_4_method_5_code 161 = .ok (.putfield 94, 3) := by decide +kernel
theorem d_Rdr_takePart_164 : decode prog_4_method_5_code 164 = .ok (.aload_n 0, 1) := by decide +kernel
theorem d_Rdr_takePart_165 : decode prog_4_method_5_code 165 = .ok (.aload_n 0, 1) := by decide +kernel
theorem d_Rdr_takePart_166 : decode prog_4_method_5_code 166 = .ok (.getfield 21, 3) := by decide +kernel
theorem d_Rdr_takePart_169 : decode prog_4_method_5_code 169 = .ok (.invokevirtual 98, 3) := by decide +kernel
theorem d_Rdr_takePart_172 : decode prog_4_method_5_code 172 = .ok (.putfield 102, 3) := by decide +kernel
theorem d_Rdr_takePart_175 : decode prog_4_method_5_code 175 = .ok (.aload_n 0, 1) := by decide +kernel
theorem d_Rdr_takePart_176 : decode prog_4_method_5_code 176 = .ok (.invokevirtual 75, 3) := by decide +kernel
theorem d_Rdr_takePart_179 : decode prog_4_method_5_code 179 = .ok (.ireturn, 1) := by decide +kernel
set_option maxHeartbeats 4000000 in
set_option maxRecDepth 100000 in
theorem c_Rdr_takePart (hP : zP b0 N f (wRdr ck A g len st)) (hu : uok st) : zK l D ck ad b0 y_Rdr_takePart prog_4_method_5_code 1 ((some FieldType.boolean)) 2 0 0 [.ref (A 0)] N f (fun r N' f' => r = some (.int (zb (bPart st).1)) ∧ N = N' ∧ zP b0 N f' (wRdr ck A g len ((bPart st).2)) ∧ zF N f f' (AA A)) := by
  refine zM.of zG_w (by decide) (Nat.le_of_ble_eq_true rfl) ?_
  intro zp ze zst zm zar zbe zme zc X hnm hb0
  have hF : zF N f f (AA A) := zF.rf
  refine z_aload_n X d_Rdr_takePart_0 rfl ?_
  refine z_get X d_Rdr_takePart_1 (hP.lo 0 rfl) (hP.at 0 rfl) cl_Rdr in_Rdr 11 (by decide) fl_Rdr_63 rfl rfl ?_
  refine z_lookS X 159 [(4, 99), (5, 129), (33, 48), (40, 73)] d_Rdr_takePart_4 (by decide) (by decide) (by decide) (fun i hi hx => ?_) (fun hd => ?_)
  · match i, hi, hx with
    | 0, _, hx =>
      have g4 : _ = (4 : Int32) := hx
      have g4 : st.1 11 = 4 := g4
      have e8 := show bPart st = _ from (if_neg (by rw [g4]; decide)).trans ((if_neg (by rw [g4]; decide)).trans (if_pos g4))
      refine zW.topc (pc' := 99) rfl ?_
      refine z_aload_n X d_Rdr_takePart_99 rfl ?_
      refine z_iconst X d_Rdr_takePart_100 (v := 1) (by decide) ?_
      refine z_putP X t_Rdr ty_Rdr n_Rdr d_Rdr_takePart_101 hP 0 rfl cl_Rdr in_Rdr 9 (by decide) fl_Rdr_66 rfl rfl rfl rfl rfl (Nat.le_of_ble_eq_true rfl) (fun hP => ?_)
      have hF := hF.by (by simp) hP
      refine z_aload_n X d_Rdr_takePart_104 rfl ?_
      refine z_callV X zG_ok (c_Rdr_goDeeperB (st := qs 9 1 st) hP) d_Rdr_takePart_105 ⟨(z_cb (n := 0) X.2.2.2.2.1 ml_Rdr_87 mc_Rdr_goDeeper ini_Rdr (by decide +kernel) rfl rfl ⟨Nat.le_of_ble_eq_true rfl, Nat.le_of_ble_eq_true rfl⟩), X.2.2.2.2.1 _ im_Rdr_goDeeper, X.2.2.2.2.1 _ sel_Rdr_goDeeper⟩ (hP.lo 0 rfl) (hP.at 0 rfl) cl_Rdr rfl rfl (Nat.le_of_ble_eq_true rfl) ⟨Nat.le_of_ble_eq_true rfl, Nat.le_of_ble_eq_true rfl⟩ (fun r N1 f1 hp hN1 => ?_)
      obtain ⟨rfl, rfl, hP, hF1⟩ := hp
      have hF := hF.join hF1 (Nat.le_refl _) (fun _ h => Or.inl h)
      refine z_if_eq X 127 d_Rdr_takePart_108 (by decide) (fun h108 => ?_) (fun h108 => ?_)
      · skip
        have e6 : (bGo (qs 9 1 st)).1 = false := zb_0.mp h108
        have e9 : bPart st = (false, (bGo (qs 9 1 st)).2) := e8.trans (if_neg (by rw [e6]; decide))
        refine z_iconst X d_Rdr_takePart_127 (v := 0) (by decide) ?_
        exact z_zret X d_Rdr_takePart_128 rfl ⟨by rw [e9]; rfl, rfl, by rw [e9]; exact hP, hF⟩
      · skip
        have e6 : (bGo (qs 9 1 st)).1 = true := by
          cases hq : (bGo (qs 9 1 st)).1
          · exact absurd (zb_0.mpr hq) h108
          · rfl
        have e7 : bPart st = bTr (tApp 3 (-1) (bGo (qs 9 1 st)).2.2.1) (bGo (qs 9 1 st)).2 := e8.trans (if_pos e6)
        refine z_aload_n X d_Rdr_takePart_111 rfl ?_
        refine z_get X d_Rdr_takePart_112 (hP.lo 0 rfl) (hP.at 0 rfl) cl_Rdr in_Rdr 1 (by decide) fl_Rdr_21 rfl rfl ?_
        refine z_iconst X d_Rdr_takePart_115 (v := 3) (by decide) ?_
        refine z_iconst X d_Rdr_takePart_116 (v := -1) (by decide) ?_
        refine z_callV X zG_ok (c_Tre_appendT (ts := ((bGo (qs 9 1 st)).2).2.1) (hP.sub [6, 7, 8, 9] (by decide) rfl) (bGo_u (st := qs 9 1 st) hu)) d_Rdr_takePart_117 ⟨(z_cb (n := 2) X.2.2.2.2.1 ml_Rdr_90 mc_Tre_append ini_Tre (by decide +kernel) rfl rfl ⟨Nat.le_of_ble_eq_true rfl, Nat.le_of_ble_eq_true rfl⟩), X.2.2.2.2.1 _ im_Tre_append, X.2.2.2.2.1 _ sel_Tre_append⟩ (hP.lo 6 rfl) (hP.at 6 rfl) cl_Tre rfl rfl (Nat.le_of_ble_eq_true rfl) ⟨Nat.le_of_ble_eq_true rfl, Nat.le_of_ble_eq_true rfl⟩ (fun r N1 f1 hp hN1 => ?_)
        obtain ⟨rfl, rfl, hT, hF1⟩ := hp
        have hP := zP.tre (g := g) (len := len) (st := (bGo (qs 9 1 st)).2) hP hT hF1
        have hF := hF.tre hF1
        refine z_if_eq X 127 d_Rdr_takePart_120 (by decide) (fun h120 => ?_) (fun h120 => ?_)
        · skip
          have e5 : (bTr (tApp 3 (-1) (bGo (qs 9 1 st)).2.2.1) (bGo (qs 9 1 st)).2).1 = false := zb_0.mp h120
          have e9 : bPart st = (false, (bTr (tApp 3 (-1) (bGo (qs 9 1 st)).2.2.1) (bGo (qs 9 1 st)).2).2) := by rw [e7, ← e5]
          refine z_iconst X d_Rdr_takePart_127 (v := 0) (by decide) ?_
          exact z_zret X d_Rdr_takePart_128 rfl ⟨by rw [e9]; rfl, rfl, by rw [e9]; exact hP, hF⟩
        · skip
          have e5 : (bTr (tApp 3 (-1) (bGo (qs 9 1 st)).2.2.1) (bGo (qs 9 1 st)).2).1 = true := by
            cases hq : (bTr (tApp 3 (-1) (bGo (qs 9 1 st)).2.2.1) (bGo (qs 9 1 st)).2).1
            · exact absurd (zb_0.mpr hq) h120
            · rfl
          have e9 : bPart st = (true, (bTr (tApp 3 (-1) (bGo (qs 9 1 st)).2.2.1) (bGo (qs 9 1 st)).2).2) := by rw [e7, ← e5]
          refine z_iconst X d_Rdr_takePart_123 (v := 1) (by decide) ?_
          refine z_goto X 128 d_Rdr_takePart_124 (by decide) ?_
          exact z_zret X d_Rdr_takePart_128 rfl ⟨by rw [e9]; rfl, rfl, by rw [e9]; exact hP, hF⟩
    | 1, _, hx =>
      have g4 : _ = (5 : Int32) := hx
      have g4 : st.1 11 = 5 := g4
      have e8 := show bPart st = _ from (if_neg (by rw [g4]; decide)).trans ((if_neg (by rw [g4]; decide)).trans ((if_neg (by rw [g4]; decide)).trans (if_pos g4)))
      refine zW.topc (pc' := 129) rfl ?_
      refine z_aload_n X d_Rdr_takePart_129 rfl ?_
      refine z_iconst X d_Rdr_takePart_130 (v := 1) (by decide) ?_
      refine z_putP X t_Rdr ty_Rdr n_Rdr d_Rdr_takePart_131 hP 0 rfl cl_Rdr in_Rdr 9 (by decide) fl_Rdr_66 rfl rfl rfl rfl rfl (Nat.le_of_ble_eq_true rfl) (fun hP => ?_)
      have hF := hF.by (by simp) hP
      refine z_aload_n X d_Rdr_takePart_134 rfl ?_
      refine z_callV X zG_ok (c_Rdr_goDeeperB (st := qs 9 1 st) hP) d_Rdr_takePart_135 ⟨(z_cb (n := 0) X.2.2.2.2.1 ml_Rdr_87 mc_Rdr_goDeeper ini_Rdr (by decide +kernel) rfl rfl ⟨Nat.le_of_ble_eq_true rfl, Nat.le_of_ble_eq_true rfl⟩), X.2.2.2.2.1 _ im_Rdr_goDeeper, X.2.2.2.2.1 _ sel_Rdr_goDeeper⟩ (hP.lo 0 rfl) (hP.at 0 rfl) cl_Rdr rfl rfl (Nat.le_of_ble_eq_true rfl) ⟨Nat.le_of_ble_eq_true rfl, Nat.le_of_ble_eq_true rfl⟩ (fun r N1 f1 hp hN1 => ?_)
      obtain ⟨rfl, rfl, hP, hF1⟩ := hp
      have hF := hF.join hF1 (Nat.le_refl _) (fun _ h => Or.inl h)
      refine z_if_eq X 157 d_Rdr_takePart_138 (by decide) (fun h138 => ?_) (fun h138 => ?_)
      · skip
        have e6 : (bGo (qs 9 1 st)).1 = false := zb_0.mp h138
        have e9 : bPart st = (false, (bGo (qs 9 1 st)).2) := e8.trans (if_neg (by rw [e6]; decide))
        refine z_iconst X d_Rdr_takePart_157 (v := 0) (by decide) ?_
        exact z_zret X d_Rdr_takePart_158 rfl ⟨by rw [e9]; rfl, rfl, by rw [e9]; exact hP, hF⟩
      · skip
        have e6 : (bGo (qs 9 1 st)).1 = true := by
          cases hq : (bGo (qs 9 1 st)).1
          · exact absurd (zb_0.mpr hq) h138
          · rfl
        have e7 : bPart st = bTr (tApp 4 (-1) (bGo (qs 9 1 st)).2.2.1) (bGo (qs 9 1 st)).2 := e8.trans (if_pos e6)
        refine z_aload_n X d_Rdr_takePart_141 rfl ?_
        refine z_get X d_Rdr_takePart_142 (hP.lo 0 rfl) (hP.at 0 rfl) cl_Rdr in_Rdr 1 (by decide) fl_Rdr_21 rfl rfl ?_
        refine z_iconst X d_Rdr_takePart_145 (v := 4) (by decide) ?_
        refine z_iconst X d_Rdr_takePart_146 (v := -1) (by decide) ?_
        refine z_callV X zG_ok (c_Tre_appendT (ts := ((bGo (qs 9 1 st)).2).2.1) (hP.sub [6, 7, 8, 9] (by decide) rfl) (bGo_u (st := qs 9 1 st) hu)) d_Rdr_takePart_147 ⟨(z_cb (n := 2) X.2.2.2.2.1 ml_Rdr_90 mc_Tre_append ini_Tre (by decide +kernel) rfl rfl ⟨Nat.le_of_ble_eq_true rfl, Nat.le_of_ble_eq_true rfl⟩), X.2.2.2.2.1 _ im_Tre_append, X.2.2.2.2.1 _ sel_Tre_append⟩ (hP.lo 6 rfl) (hP.at 6 rfl) cl_Tre rfl rfl (Nat.le_of_ble_eq_true rfl) ⟨Nat.le_of_ble_eq_true rfl, Nat.le_of_ble_eq_true rfl⟩ (fun r N1 f1 hp hN1 => ?_)
        obtain ⟨rfl, rfl, hT, hF1⟩ := hp
        have hP := zP.tre (g := g) (len := len) (st := (bGo (qs 9 1 st)).2) hP hT hF1
        have hF := hF.tre hF1
        refine z_if_eq X 157 d_Rdr_takePart_150 (by decide) (fun h150 => ?_) (fun h150 => ?_)
        · skip
          have e5 : (bTr (tApp 4 (-1) (bGo (qs 9 1 st)).2.2.1) (bGo (qs 9 1 st)).2).1 = false := zb_0.mp h150
          have e9 : bPart st = (false, (bTr (tApp 4 (-1) (bGo (qs 9 1 st)).2.2.1) (bGo (qs 9 1 st)).2).2) := by rw [e7, ← e5]
          refine z_iconst X d_Rdr_takePart_157 (v := 0) (by decide) ?_
          exact z_zret X d_Rdr_takePart_158 rfl ⟨by rw [e9]; rfl, rfl, by rw [e9]; exact hP, hF⟩
        · skip
          have e5 : (bTr (tApp 4 (-1) (bGo (qs 9 1 st)).2.2.1) (bGo (qs 9 1 st)).2).1 = true := by
            cases hq : (bTr (tApp 4 (-1) (bGo (qs 9 1 st)).2.2.1) (bGo (qs 9 1 st)).2).1
            · exact absurd (zb_0.mpr hq) h150
            · rfl
          have e9 : bPart st = (true, (bTr (tApp 4 (-1) (bGo (qs 9 1 st)).2.2.1) (bGo (qs 9 1 st)).2).2) := by rw [e7, ← e5]
          refine z_iconst X d_Rdr_takePart_153 (v := 1) (by decide) ?_
          refine z_goto X 158 d_Rdr_takePart_154 (by decide) ?_
          exact z_zret X d_Rdr_takePart_158 rfl ⟨by rw [e9]; rfl, rfl, by rw [e9]; exact hP, hF⟩
    | 2, _, hx =>
      have g4 : _ = (33 : Int32) := hx
      have g4 : st.1 11 = 33 := g4
      have e8 := show bPart st = _ from if_pos g4
      refine zW.topc (pc' := 48) rfl ?_
      refine z_aload_n X d_Rdr_takePart_48 rfl ?_
      refine z_callV X zG_ok (c_Rdr_goDeeperB (st := st) hP) d_Rdr_takePart_49 ⟨(z_cb (n := 0) X.2.2.2.2.1 ml_Rdr_87 mc_Rdr_goDeeper ini_Rdr (by decide +kernel) rfl rfl ⟨Nat.le_of_ble_eq_true rfl, Nat.le_of_ble_eq_true rfl⟩), X.2.2.2.2.1 _ im_Rdr_goDeeper, X.2.2.2.2.1 _ sel_Rdr_goDeeper⟩ (hP.lo 0 rfl) (hP.at 0 rfl) cl_Rdr rfl rfl (Nat.le_of_ble_eq_true rfl) ⟨Nat.le_of_ble_eq_true rfl, Nat.le_of_ble_eq_true rfl⟩ (fun r N1 f1 hp hN1 => ?_)
      obtain ⟨rfl, rfl, hP, hF1⟩ := hp
      have hF := hF.join hF1 (Nat.le_refl _) (fun _ h => Or.inl h)
      refine z_if_eq X 71 d_Rdr_takePart_52 (by decide) (fun h52 => ?_) (fun h52 => ?_)
      · skip
        have e6 : (bGo (st)).1 = false := zb_0.mp h52
        have e9 : bPart st = (false, (bGo (st)).2) := e8.trans (if_neg (by rw [e6]; decide))
        refine z_iconst X d_Rdr_takePart_71 (v := 0) (by decide) ?_
        exact z_zret X d_Rdr_takePart_72 rfl ⟨by rw [e9]; rfl, rfl, by rw [e9]; exact hP, hF⟩
      · skip
        have e6 : (bGo (st)).1 = true := by
          cases hq : (bGo (st)).1
          · exact absurd (zb_0.mpr hq) h52
          · rfl
        have e7 : bPart st = bTr (tApp 2 (-1) (bGo st).2.2.1) (bGo st).2 := e8.trans (if_pos e6)
        refine z_aload_n X d_Rdr_takePart_55 rfl ?_
        refine z_get X d_Rdr_takePart_56 (hP.lo 0 rfl) (hP.at 0 rfl) cl_Rdr in_Rdr 1 (by decide) fl_Rdr_21 rfl rfl ?_
        refine z_iconst X d_Rdr_takePart_59 (v := 2) (by decide) ?_
        refine z_iconst X d_Rdr_takePart_60 (v := -1) (by decide) ?_
        refine z_callV X zG_ok (c_Tre_appendT (ts := ((bGo st).2).2.1) (hP.sub [6, 7, 8, 9] (by decide) rfl) (bGo_u hu)) d_Rdr_takePart_61 ⟨(z_cb (n := 2) X.2.2.2.2.1 ml_Rdr_90 mc_Tre_append ini_Tre (by decide +kernel) rfl rfl ⟨Nat.le_of_ble_eq_true rfl, Nat.le_of_ble_eq_true rfl⟩), X.2.2.2.2.1 _ im_Tre_append, X.2.2.2.2.1 _ sel_Tre_append⟩ (hP.lo 6 rfl) (hP.at 6 rfl) cl_Tre rfl rfl (Nat.le_of_ble_eq_true rfl) ⟨Nat.le_of_ble_eq_true rfl, Nat.le_of_ble_eq_true rfl⟩ (fun r N1 f1 hp hN1 => ?_)
        obtain ⟨rfl, rfl, hT, hF1⟩ := hp
        have hP := zP.tre (g := g) (len := len) (st := (bGo st).2) hP hT hF1
        have hF := hF.tre hF1
        refine z_if_eq X 71 d_Rdr_takePart_64 (by decide) (fun h64 => ?_) (fun h64 => ?_)
        · skip
          have e5 : (bTr (tApp 2 (-1) (bGo st).2.2.1) (bGo st).2).1 = false := zb_0.mp h64
          have e9 : bPart st = (false, (bTr (tApp 2 (-1) (bGo st).2.2.1) (bGo st).2).2) := by rw [e7, ← e5]
          refine z_iconst X d_Rdr_takePart_71 (v := 0) (by decide) ?_
          exact z_zret X d_Rdr_takePart_72 rfl ⟨by rw [e9]; rfl, rfl, by rw [e9]; exact hP, hF⟩
        · skip
          have e5 : (bTr (tApp 2 (-1) (bGo st).2.2.1) (bGo st).2).1 = true := by
            cases hq : (bTr (tApp 2 (-1) (bGo st).2.2.1) (bGo st).2).1
            · exact absurd (zb_0.mpr hq) h64
            · rfl
          have e9 : bPart st = (true, (bTr (tApp 2 (-1) (bGo st).2.2.1) (bGo st).2).2) := by rw [e7, ← e5]
          refine z_iconst X d_Rdr_takePart_67 (v := 1) (by decide) ?_
          refine z_goto X 72 d_Rdr_takePart_68 (by decide) ?_
          exact z_zret X d_Rdr_takePart_72 rfl ⟨by rw [e9]; rfl, rfl, by rw [e9]; exact hP, hF⟩
    | 3, _, hx =>
      have g4 : _ = (40 : Int32) := hx
      have g4 : st.1 11 = 40 := g4
      have e8 := show bPart st = _ from (if_neg (by rw [g4]; decide)).trans (if_pos g4)
      refine zW.topc (pc' := 73) rfl ?_
      refine z_aload_n X d_Rdr_takePart_73 rfl ?_
      refine z_callV X zG_ok (c_Rdr_goDeeperB (st := st) hP) d_Rdr_takePart_74 ⟨(z_cb (n := 0) X.2.2.2.2.1 ml_Rdr_87 mc_Rdr_goDeeper ini_Rdr (by decide +kernel) rfl rfl ⟨Nat.le_of_ble_eq_true rfl, Nat.le_of_ble_eq_true rfl⟩), X.2.2.2.2.1 _ im_Rdr_goDeeper, X.2.2.2.2.1 _ sel_Rdr_goDeeper⟩ (hP.lo 0 rfl) (hP.at 0 rfl) cl_Rdr rfl rfl (Nat.le_of_ble_eq_true rfl) ⟨Nat.le_of_ble_eq_true rfl, Nat.le_of_ble_eq_true rfl⟩ (fun r N1 f1 hp hN1 => ?_)
      obtain ⟨rfl, rfl, hP, hF1⟩ := hp
      have hF := hF.join hF1 (Nat.le_refl _) (fun _ h => Or.inl h)
      refine z_if_eq X 97 d_Rdr_takePart_77 (by decide) (fun h77 => ?_) (fun h77 => ?_)
      · skip
        have e6 : (bGo (st)).1 = false := zb_0.mp h77
        have e9 : bPart st = (false, (bGo (st)).2) := e8.trans (if_neg (by rw [e6]; decide))
        refine z_iconst X d_Rdr_takePart_97 (v := 0) (by decide) ?_
        exact z_zret X d_Rdr_takePart_98 rfl ⟨by rw [e9]; rfl, rfl, by rw [e9]; exact hP, hF⟩
      · skip
        have e6 : (bGo (st)).1 = true := by
          cases hq : (bGo (st)).1
          · exact absurd (zb_0.mpr hq) h77
          · rfl
        have e7 : bPart st = bBeg ((bGo st).2.1 5 + 1) (bGo st).2 := e8.trans (if_pos e6)
        refine z_aload_n X d_Rdr_takePart_80 rfl ?_
        refine z_aload_n X d_Rdr_takePart_81 rfl ?_
        refine z_get X d_Rdr_takePart_82 (hP.lo 0 rfl) (hP.at 0 rfl) cl_Rdr in_Rdr 5 (by decide) fl_Rdr_72 rfl rfl ?_
        refine z_iconst X d_Rdr_takePart_85 (v := 1) (by decide) ?_
        refine z_iadd X d_Rdr_takePart_86 ?_
        refine z_callV X zG_ok (c_Rdr_beginLevelB (st := (bGo st).2) hP) d_Rdr_takePart_87 ⟨(z_cb (n := 1) X.2.2.2.2.1 ml_Rdr_49 mc_Rdr_beginLevel ini_Rdr (by decide +kernel) rfl rfl ⟨Nat.le_of_ble_eq_true rfl, Nat.le_of_ble_eq_true rfl⟩), X.2.2.2.2.1 _ im_Rdr_beginLevel, X.2.2.2.2.1 _ sel_Rdr_beginLevel⟩ (hP.lo 0 rfl) (hP.at 0 rfl) cl_Rdr rfl rfl (Nat.le_of_ble_eq_true rfl) ⟨Nat.le_of_ble_eq_true rfl, Nat.le_of_ble_eq_true rfl⟩ (fun r N1 f1 hp hN1 => ?_)
        obtain ⟨rfl, rfl, hP, hF1⟩ := hp
        have hF := hF.join hF1 (Nat.le_refl _) (fun _ h => Or.inl h)
        refine z_if_eq X 97 d_Rdr_takePart_90 (by decide) (fun h90 => ?_) (fun h90 => ?_)
        · skip
          have e5 : (bBeg ((bGo st).2.1 5 + 1) (bGo st).2).1 = false := zb_0.mp h90
          have e9 : bPart st = (false, (bBeg ((bGo st).2.1 5 + 1) (bGo st).2).2) := by rw [e7, ← e5]
          refine z_iconst X d_Rdr_takePart_97 (v := 0) (by decide) ?_
          exact z_zret X d_Rdr_takePart_98 rfl ⟨by rw [e9]; rfl, rfl, by rw [e9]; exact hP, hF⟩
        · skip
          have e5 : (bBeg ((bGo st).2.1 5 + 1) (bGo st).2).1 = true := by
            cases hq : (bBeg ((bGo st).2.1 5 + 1) (bGo st).2).1
            · exact absurd (zb_0.mpr hq) h90
            · rfl
          have e9 : bPart st = (true, (bBeg ((bGo st).2.1 5 + 1) (bGo st).2).2) := by rw [e7, ← e5]
          refine z_iconst X d_Rdr_takePart_93 (v := 1) (by decide) ?_
          refine z_goto X 98 d_Rdr_takePart_94 (by decide) ?_
          exact z_zret X d_Rdr_takePart_98 rfl ⟨by rw [e9]; rfl, rfl, by rw [e9]; exact hP, hF⟩
    | j + 4, hi, _ => exact absurd hi (by simp)
  · skip
    have g4_0 : ¬ _ = (4 : Int32) := hd 0 (by decide)
    have g4_1 : ¬ _ = (5 : Int32) := hd 1 (by decide)
    have g4_2 : ¬ _ = (33 : Int32) := hd 2 (by decide)
    have g4_3 : ¬ _ = (40 : Int32) := hd 3 (by decide)
    have e9 := show bPart st = _ from (if_neg g4_2).trans ((if_neg g4_3).trans ((if_neg g4_0).trans (if_neg g4_1)))
    refine z_aload_n X d_Rdr_takePart_159 rfl ?_
    refine z_iconst X d_Rdr_takePart_160 (v := 0) (by decide) ?_
    refine z_putP X t_Rdr ty_Rdr n_Rdr d_Rdr_takePart_161 hP 0 rfl cl_Rdr in_Rdr 8 (by decide) fl_Rdr_94 rfl rfl rfl rfl rfl (Nat.le_of_ble_eq_true rfl) (fun hP => ?_)
    have hF := hF.by (by simp) hP
    refine z_aload_n X d_Rdr_takePart_164 rfl ?_
    refine z_aload_n X d_Rdr_takePart_165 rfl ?_
    refine z_get X d_Rdr_takePart_166 (hP.lo 0 rfl) (hP.at 0 rfl) cl_Rdr in_Rdr 1 (by decide) fl_Rdr_21 rfl rfl ?_
    refine z_callV X zG_ok (c_Tre_size (hP.sub [6, 7, 8, 9] (by decide) rfl)) d_Rdr_takePart_169 ⟨(z_cb (n := 0) X.2.2.2.2.1 ml_Rdr_98 mc_Tre_size ini_Tre (by decide +kernel) rfl rfl ⟨Nat.le_of_ble_eq_true rfl, Nat.le_of_ble_eq_true rfl⟩), X.2.2.2.2.1 _ im_Tre_size, X.2.2.2.2.1 _ sel_Tre_size⟩ (hP.lo 6 rfl) (hP.at 6 rfl) cl_Tre rfl rfl (Nat.le_of_ble_eq_true rfl) ⟨Nat.le_of_ble_eq_true rfl, Nat.le_of_ble_eq_true rfl⟩ (fun r N1 f1 hp hN1 => ?_)
    obtain ⟨rfl, rfl, rfl⟩ := hp
    refine z_putP X t_Rdr ty_Rdr n_Rdr d_Rdr_takePart_172 hP 0 rfl cl_Rdr in_Rdr 7 (by decide) fl_Rdr_102 rfl rfl rfl rfl rfl (Nat.le_of_ble_eq_true rfl) (fun hP => ?_)
    have hF := hF.by (by simp) hP
    refine z_aload_n X d_Rdr_takePart_175 rfl ?_
    refine z_callV X zG_ok (c_Rdr_takeTerm (st := qs 7 (nI st.2.1.2.2.2) (qs 8 0 st)) hP hu) d_Rdr_takePart_176 ⟨(z_cb (n := 0) X.2.2.2.2.1 ml_Rdr_75 mc_Rdr_takeTerm ini_Rdr (by decide +kernel) rfl rfl ⟨Nat.le_of_ble_eq_true rfl, Nat.le_of_ble_eq_true rfl⟩), X.2.2.2.2.1 _ im_Rdr_takeTerm, X.2.2.2.2.1 _ sel_Rdr_takeTerm⟩ (hP.lo 0 rfl) (hP.at 0 rfl) cl_Rdr rfl rfl (Nat.le_of_ble_eq_true rfl) ⟨Nat.le_of_ble_eq_true rfl, Nat.le_of_ble_eq_true rfl⟩ (fun r N1 f1 hp hN1 => ?_)
    obtain ⟨rfl, rfl, hP, hF1⟩ := hp
    have hF := hF.join hF1 (Nat.le_refl _) (fun _ h => Or.inl h)
    exact z_zret X d_Rdr_takePart_179 (zb_n _) ⟨by rw [e9], rfl, by rw [e9]; exact hP, hF⟩
theorem d_Rdr_takeToken_0 : decode prog_4_method_4_code 0 = .ok (.aload_n 0, 1) := by decide +kernel
theorem d_Rdr_takeToken_1 : decode prog_4_method_4_code 1 = .ok (.getfield 66, 3) := by decide +kernel
theorem d_Rdr_takeToken_4 : decode prog_4_method_4_code 4 = .ok (.tableswitch 84 0 4 #[36, 41, 69, 74, 79], 36) := by decide +kernel
theorem d_Rdr_takeToken_40 : decode prog_4_method_4_code 40 = .ok (.aload_n 0, 1) := by decide +kernel
theorem d_Rdr_takeToken_41 : decode prog_4_method_4_code 41 = .ok (.invokevirtual 69, 3) := by decide +kernel
theorem d_Rdr_takeToken_44 : decode prog_4_method_4_code 44 = .ok (.ireturn, 1) := by decide +kernel
theorem d_Rdr_takeToken_45 : decode prog_4_method_4_code 45 = .ok (.aload_n 0, 1) := by decide +kernel
theorem d_Rdr_takeToken_46 : decode prog_4_method_4_code 46 = .ok (.getfield 63, 3) := by decide +kernel
theorem d_Rdr_takeToken_49 : decode prog_4_method_4_code 49 = .ok (.bipush 40, 2) := by decide +kernel
theorem d_Rdr_takeToken_51 : decode prog_4_method_4_code 51 = .ok (.if_icmp .ne 20, 3) := by decide +kernel
theorem d_Rdr_takeToken_54 : decode prog_4_method_4_code 54 = .ok (.aload_n 0, 1) := by decide +kernel
theorem d_Rdr_takeToken_55 : decode prog_4_method_4_code 55 = .ok (.aload_n 0, 1) := by decide +kernel
theorem d_Rdr_takeToken_56 : decode prog_4_method_4_code 56 = .ok (.getfield 72, 3) := by decide +kernel
theorem d_Rdr_takeToken_59 : decode prog_4_method_4_code 59 = .ok (.iconst 1, 1) := by decide +kernel
theorem d_Rdr_takeToken_60 : decode prog_4_method_4_code 60 = .ok (.iadd, 1) := by decide +kernel
theorem d_Rdr_takeToken_61 : decode prog_4_method_4_code 61 = .ok (.invokevirtual 49, 3) := by decide +kernel
theorem d_Rdr_takeToken_64 : decode prog_4_method_4_code 64 = .ok (.ifCond .eq 7, 3) := by decide +kernel
theorem d_Rdr_takeToken_67 : decode prog_4_method_4_code 67 = .ok (.iconst 1, 1) := by decide +kernel
theorem d_Rdr_takeToken_68 : decode prog_4_method_4_code 68 = .ok (.goto 4, 3) := by decide +kernel
theorem d_Rdr_takeToken_71 : decode prog_4_method_4_code 71 = .ok (.iconst 0, 1) := by decide +kernel
theorem d_Rdr_takeToken_72 : decode prog_4_method_4_code 72 = .ok (.ireturn, 1) := by decide +kernel
theorem d_Rdr_takeToken_73 : decode prog_4_method_4_code 73 = .ok (.aload_n 0, 1) := by decide +kernel
theorem d_Rdr_takeToken_74 : decode prog_4_method_4_code 74 = .ok (.invokevirtual 75, 3) := by decide +kernel
theorem d_Rdr_takeToken_77 : decode prog_4_method_4_code 77 = .ok (.ireturn, 1) := by decide +kernel
theorem d_Rdr_takeToken_78 : decode prog_4_method_4_code 78 = .ok (.aload_n 0, 1) := by decide +kernel
theorem d_Rdr_takeToken_79 : decode prog_4_method_4_code 79 = .ok (.invokevirtual 78, 3) := by decide +kernel
theorem d_Rdr_takeToken_82 : decode prog_4_method_4_code 82 = .ok (.ireturn, 1) := by decide +kernel
theorem d_Rdr_takeToken_83 : decode prog_4_method_4_code 83 = .ok (.aload_n 0, 1) := by decide +kernel
theorem d_Rdr_takeToken_84 : decode prog_4_method_4_code 84 = .ok (.invokevirtual 81, 3) := by decide +kernel
theorem d_Rdr_takeToken_87 : decode prog_4_method_4_code 87 = .ok (.ireturn, 1) := by decide +kernel
theorem d_Rdr_takeToken_88 : decode prog_4_method_4_code 88 = .ok (.aload_n 0, 1) := by decide +kernel
theorem d_Rdr_takeToken_89 : decode prog_4_method_4_code 89 = .ok (.invokevirtual 84, 3) := by decide +kernel
theorem d_Rdr_takeToken_92 : decode prog_4_method_4_code 92 = .ok (.ireturn, 1) := by decide +kernel
set_option maxHeartbeats 4000000 in
set_option maxRecDepth 100000 in
theorem c_Rdr_takeToken (hP : zP b0 N f (wRdr ck A g len st)) (hu : uok st) : zK l D ck ad b0 y_Rdr_takeToken prog_4_method_4_code 1 ((some FieldType.boolean)) 7 0 0 [.ref (A 0)] N f (fun r N' f' => r = some (.int (zb (bTake st).1)) ∧ N = N' ∧ zP b0 N f' (wRdr ck A g len ((bTake st).2)) ∧ zF N f f' (AA A)) := by
  refine zM.of zG_w (by decide) (Nat.le_of_ble_eq_true rfl) ?_
  intro zp ze zst zm zar zbe zme zc X hnm hb0
  have hF : zF N f f (AA A) := zF.rf
  refine z_aload_n X d_Rdr_takeToken_0 rfl ?_
  refine z_get X d_Rdr_takeToken_1 (hP.lo 0 rfl) (hP.at 0 rfl) cl_Rdr in_Rdr 9 (by decide) fl_Rdr_66 rfl rfl ?_
  refine z_tableL X 88 [40, 45, 73, 78, 83] d_Rdr_takeToken_4 (by decide) (by decide) (by decide) (fun i hi hx => ?_) (fun hd => ?_) (by decide)
  · match i, hi, hx with
    | 0, _, hx =>
      have g4 : _ = (0 : Int32) := hx
      have g4 : st.1 9 = 0 := g4
      have e9 := show bTake st = _ from if_pos g4
      refine zW.topc (pc' := 40) rfl ?_
      refine z_aload_n X d_Rdr_takeToken_40 rfl ?_
      refine z_callV X zG_ok (c_Rdr_takePart hP hu) d_Rdr_takeToken_41 ⟨(z_cb (n := 0) X.2.2.2.2.1 ml_Rdr_69 mc_Rdr_takePart ini_Rdr (by decide +kernel) rfl rfl ⟨Nat.le_of_ble_eq_true rfl, Nat.le_of_ble_eq_true rfl⟩), X.2.2.2.2.1 _ im_Rdr_takePart, X.2.2.2.2.1 _ sel_Rdr_takePart⟩ (hP.lo 0 rfl) (hP.at 0 rfl) cl_Rdr rfl rfl (Nat.le_of_ble_eq_true rfl) ⟨Nat.le_of_ble_eq_true rfl, Nat.le_of_ble_eq_true rfl⟩ (fun r N1 f1 hp hN1 => ?_)
      obtain ⟨rfl, rfl, hP, hF1⟩ := hp
      have hF := hF.join hF1 (Nat.le_refl _) (fun _ h => Or.inl h)
      exact z_zret X d_Rdr_takeToken_44 (zb_n _) ⟨by rw [e9], rfl, by rw [e9]; exact hP, hF⟩
    | 1, _, hx =>
      have g4 : _ = (1 : Int32) := hx
      have g4 : st.1 9 = 1 := g4
      have e8 := show bTake st = (if st.1 11 = 40 then bBeg (st.1 5 + 1) st else (false, st)) from (if_neg (by rw [g4]; decide)).trans (if_pos g4)
      refine zW.topc (pc' := 45) rfl ?_
      refine z_aload_n X d_Rdr_takeToken_45 rfl ?_
      refine z_get X d_Rdr_takeToken_46 (hP.lo 0 rfl) (hP.at 0 rfl) cl_Rdr in_Rdr 11 (by decide) fl_Rdr_63 rfl rfl ?_
      refine z_bipush X d_Rdr_takeToken_49 (v := 40) (by decide) ?_
      refine z_icmp_ne X 71 d_Rdr_takeToken_51 (by decide) (fun h51 => ?_) (fun h51 => ?_)
      · skip
        have e9 := e8.trans (if_neg h51)
        refine z_iconst X d_Rdr_takeToken_71 (v := 0) (by decide) ?_
        exact z_zret X d_Rdr_takeToken_72 rfl ⟨by rw [e9]; rfl, rfl, by rw [e9]; exact hP, hF⟩
      · skip
        have e7 := e8.trans (if_pos h51)
        refine z_aload_n X d_Rdr_takeToken_54 rfl ?_
        refine z_aload_n X d_Rdr_takeToken_55 rfl ?_
        refine z_get X d_Rdr_takeToken_56 (hP.lo 0 rfl) (hP.at 0 rfl) cl_Rdr in_Rdr 5 (by decide) fl_Rdr_72 rfl rfl ?_
        refine z_iconst X d_Rdr_takeToken_59 (v := 1) (by decide) ?_
        refine z_iadd X d_Rdr_takeToken_60 ?_
        refine z_callV X zG_ok (c_Rdr_beginLevelB hP) d_Rdr_takeToken_61 ⟨(z_cb (n := 1) X.2.2.2.2.1 ml_Rdr_49 mc_Rdr_beginLevel ini_Rdr (by decide +kernel) rfl rfl ⟨Nat.le_of_ble_eq_true rfl, Nat.le_of_ble_eq_true rfl⟩), X.2.2.2.2.1 _ im_Rdr_beginLevel, X.2.2.2.2.1 _ sel_Rdr_beginLevel⟩ (hP.lo 0 rfl) (hP.at 0 rfl) cl_Rdr rfl rfl (Nat.le_of_ble_eq_true rfl) ⟨Nat.le_of_ble_eq_true rfl, Nat.le_of_ble_eq_true rfl⟩ (fun r N1 f1 hp hN1 => ?_)
        obtain ⟨rfl, rfl, hP, hF1⟩ := hp
        have hF := hF.join hF1 (Nat.le_refl _) (fun _ h => Or.inl h)
        refine z_if_eq X 71 d_Rdr_takeToken_64 (by decide) (fun h64 => ?_) (fun h64 => ?_)
        · skip
          have e6 : (bBeg (st.1 5 + 1) st).1 = false := zb_0.mp h64
          have e9 : bTake st = (false, (bBeg (st.1 5 + 1) st).2) := by rw [e7, ← e6]
          refine z_iconst X d_Rdr_takeToken_71 (v := 0) (by decide) ?_
          exact z_zret X d_Rdr_takeToken_72 rfl ⟨by rw [e9]; rfl, rfl, by rw [e9]; exact hP, hF⟩
        · skip
          have e6 : (bBeg (st.1 5 + 1) st).1 = true := by
            cases hq : (bBeg (st.1 5 + 1) st).1
            · exact absurd (zb_0.mpr hq) h64
            · rfl
          have e9 : bTake st = (true, (bBeg (st.1 5 + 1) st).2) := by rw [e7, ← e6]
          refine z_iconst X d_Rdr_takeToken_67 (v := 1) (by decide) ?_
          refine z_goto X 72 d_Rdr_takeToken_68 (by decide) ?_
          exact z_zret X d_Rdr_takeToken_72 rfl ⟨by rw [e9]; rfl, rfl, by rw [e9]; exact hP, hF⟩
    | 2, _, hx =>
      have g4 : _ = (2 : Int32) := hx
      have g4 : st.1 9 = 2 := g4
      have e9 := show bTake st = _ from (if_neg (by rw [g4]; decide)).trans ((if_neg (by rw [g4]; decide)).trans (if_pos g4))
      refine zW.topc (pc' := 73) rfl ?_
      refine z_aload_n X d_Rdr_takeToken_73 rfl ?_
      refine z_callV X zG_ok (c_Rdr_takeTerm hP hu) d_Rdr_takeToken_74 ⟨(z_cb (n := 0) X.2.2.2.2.1 ml_Rdr_75 mc_Rdr_takeTerm ini_Rdr (by decide +kernel) rfl rfl ⟨Nat.le_of_ble_eq_true rfl, Nat.le_of_ble_eq_true rfl⟩), X.2.2.2.2.1 _ im_Rdr_takeTerm, X.2.2.2.2.1 _ sel_Rdr_takeTerm⟩ (hP.lo 0 rfl) (hP.at 0 rfl) cl_Rdr rfl rfl (Nat.le_of_ble_eq_true rfl) ⟨Nat.le_of_ble_eq_true rfl, Nat.le_of_ble_eq_true rfl⟩ (fun r N1 f1 hp hN1 => ?_)
      obtain ⟨rfl, rfl, hP, hF1⟩ := hp
      have hF := hF.join hF1 (Nat.le_refl _) (fun _ h => Or.inl h)
      exact z_zret X d_Rdr_takeToken_77 (zb_n _) ⟨by rw [e9], rfl, by rw [e9]; exact hP, hF⟩
    | 3, _, hx =>
      have g4 : _ = (3 : Int32) := hx
      have g4 : st.1 9 = 3 := g4
      have e9 := show bTake st = _ from (if_neg (by rw [g4]; decide)).trans ((if_neg (by rw [g4]; decide)).trans ((if_neg (by rw [g4]; decide)).trans (if_pos g4)))
      refine zW.topc (pc' := 78) rfl ?_
      refine z_aload_n X d_Rdr_takeToken_78 rfl ?_
      refine z_callV X zG_ok (c_Rdr_takeFieldOfSum hP hu) d_Rdr_takeToken_79 ⟨(z_cb (n := 0) X.2.2.2.2.1 ml_Rdr_78 mc_Rdr_takeFieldOfSum ini_Rdr (by decide +kernel) rfl rfl ⟨Nat.le_of_ble_eq_true rfl, Nat.le_of_ble_eq_true rfl⟩), X.2.2.2.2.1 _ im_Rdr_takeFieldOfSum, X.2.2.2.2.1 _ sel_Rdr_takeFieldOfSum⟩ (hP.lo 0 rfl) (hP.at 0 rfl) cl_Rdr rfl rfl (Nat.le_of_ble_eq_true rfl) ⟨Nat.le_of_ble_eq_true rfl, Nat.le_of_ble_eq_true rfl⟩ (fun r N1 f1 hp hN1 => ?_)
      obtain ⟨rfl, rfl, hP, hF1⟩ := hp
      have hF := hF.join hF1 (Nat.le_refl _) (fun _ h => Or.inl h)
      exact z_zret X d_Rdr_takeToken_82 (zb_n _) ⟨by rw [e9], rfl, by rw [e9]; exact hP, hF⟩
    | 4, _, hx =>
      have g4 : _ = (4 : Int32) := hx
      have g4 : st.1 9 = 4 := g4
      have e9 := show bTake st = _ from (if_neg (by rw [g4]; decide)).trans ((if_neg (by rw [g4]; decide)).trans ((if_neg (by rw [g4]; decide)).trans ((if_neg (by rw [g4]; decide)).trans (if_pos g4))))
      refine zW.topc (pc' := 83) rfl ?_
      refine z_aload_n X d_Rdr_takeToken_83 rfl ?_
      refine z_callV X zG_ok (c_Rdr_takeBehindTerm hP hu) d_Rdr_takeToken_84 ⟨(z_cb (n := 0) X.2.2.2.2.1 ml_Rdr_81 mc_Rdr_takeBehindTerm ini_Rdr (by decide +kernel) rfl rfl ⟨Nat.le_of_ble_eq_true rfl, Nat.le_of_ble_eq_true rfl⟩), X.2.2.2.2.1 _ im_Rdr_takeBehindTerm, X.2.2.2.2.1 _ sel_Rdr_takeBehindTerm⟩ (hP.lo 0 rfl) (hP.at 0 rfl) cl_Rdr rfl rfl (Nat.le_of_ble_eq_true rfl) ⟨Nat.le_of_ble_eq_true rfl, Nat.le_of_ble_eq_true rfl⟩ (fun r N1 f1 hp hN1 => ?_)
      obtain ⟨rfl, rfl, hP, hF1⟩ := hp
      have hF := hF.join hF1 (Nat.le_refl _) (fun _ h => Or.inl h)
      exact z_zret X d_Rdr_takeToken_87 (zb_n _) ⟨by rw [e9], rfl, by rw [e9]; exact hP, hF⟩
    | j + 5, hi, _ => exact absurd hi (by simp)
  · skip
    have g4_0 : ¬ _ = (0 : Int32) := hd 0 (by decide)
    have g4_1 : ¬ _ = (1 : Int32) := hd 1 (by decide)
    have g4_2 : ¬ _ = (2 : Int32) := hd 2 (by decide)
    have g4_3 : ¬ _ = (3 : Int32) := hd 3 (by decide)
    have g4_4 : ¬ _ = (4 : Int32) := hd 4 (by decide)
    have e9 := show bTake st = _ from (if_neg g4_0).trans ((if_neg g4_1).trans ((if_neg g4_2).trans ((if_neg g4_3).trans (if_neg g4_4))))
    refine z_aload_n X d_Rdr_takeToken_88 rfl ?_
    refine z_callV X zG_ok (c_Rdr_takeBehindPart hP hu) d_Rdr_takeToken_89 ⟨(z_cb (n := 0) X.2.2.2.2.1 ml_Rdr_84 mc_Rdr_takeBehindPart ini_Rdr (by decide +kernel) rfl rfl ⟨Nat.le_of_ble_eq_true rfl, Nat.le_of_ble_eq_true rfl⟩), X.2.2.2.2.1 _ im_Rdr_takeBehindPart, X.2.2.2.2.1 _ sel_Rdr_takeBehindPart⟩ (hP.lo 0 rfl) (hP.at 0 rfl) cl_Rdr rfl rfl (Nat.le_of_ble_eq_true rfl) ⟨Nat.le_of_ble_eq_true rfl, Nat.le_of_ble_eq_true rfl⟩ (fun r N1 f1 hp hN1 => ?_)
    obtain ⟨rfl, rfl, hP, hF1⟩ := hp
    have hF := hF.join hF1 (Nat.le_refl _) (fun _ h => Or.inl h)
    exact z_zret X d_Rdr_takeToken_92 (zb_n _) ⟨by rw [e9], rfl, by rw [e9]; exact hP, hF⟩
theorem d_Rdr_readText_0 : decode prog_4_method_3_code 0 = .ok (.aload_n 0, 1) := by decide +kernel
theorem d_Rdr_readText_1 : decode prog_4_method_3_code 1 = .ok (.getfield 21, 3) := by decide +kernel
theorem d_Rdr_readText_4 : decode prog_4_method_3_code 4 = .ok (.invokevirtual 39, 3) := by decide +kernel
theorem d_Rdr_readText_7 : decode prog_4_method_3_code 7 = .ok (.aload_n 0, 1) := by decide +kernel
theorem d_Rdr_readText_8 : decode prog_4_method_3_code 8 = .ok (.iconst 0, 1) := by decide +kernel
theorem d_Rdr_readText_9 : decode prog_4_method_3_code 9 = .ok (.putfield 42, 3) := by decide +kernel
theorem d_Rdr_readText_12 : decode prog_4_method_3_code 12 = .ok (.aload_n 0, 1) := by decide +kernel
theorem d_Rdr_readText_13 : decode prog_4_method_3_code 13 = .ok (.iconst 0, 1) := by decide +kernel
theorem d_Rdr_readText_14 : decode prog_4_method_3_code 14 = .ok (.putfield 46, 3) := by decide +kernel
theorem d_Rdr_readText_17 : decode prog_4_method_3_code 17 = .ok (.aload_n 0, 1) := by decide +kernel
theorem d_Rdr_readText_18 : decode prog_4_method_3_code 18 = .ok (.iconst 0, 1) := by decide +kernel
theorem d_Rdr_readText_19 : decode prog_4_method_3_code 19 = .ok (.invokevirtual 49, 3) := by decide +kernel
theorem d_Rdr_readText_22 : decode prog_4_method_3_code 22 = .ok (.pop, 1) := by decide +kernel
theorem d_Rdr_readText_23 : decode prog_4_method_3_code 23 = .ok (.iconst 0, 1) := by decide +kernel
theorem d_Rdr_readText_24 : decode prog_4_method_3_code 24 = .ok (.istore_n 1, 1) := by decide +kernel
theorem d_Rdr_readText_25 : decode prog_4_method_3_code 25 = .ok (.iload_n 1, 1) := by decide +kernel
theorem d_Rdr_readText_26 : decode prog_4_method_3_code 26 = .ok (.sipush 200, 3) := by decide +kernel
theorem d_Rdr_readText_29 : decode prog_4_method_3_code 29 = .ok (.if_icmp .gt 34, 3) := by decide +kernel
theorem d_Rdr_readText_32 : decode prog_4_method_3_code 32 = .ok (.aload_n 0, 1) := by decide +kernel
theorem d_Rdr_readText_33 : decode prog_4_method_3_code 33 = .ok (.invokevirtual 53, 3) := by decide +kernel
theorem d_Rdr_readText_36 : decode prog_4_method_3_code 36 = .ok (.aload_n 0, 1) := by decide +kernel
theorem d_Rdr_readText_37 : decode prog_4_method_3_code 37 = .ok (.invokevirtual 56, 3) := by decide +kernel
theorem d_Rdr_readText_40 : decode prog_4_method_3_code 40 = .ok (.ifCond .ne 8, 3) := by decide +kernel
theorem d_Rdr_readText_43 : decode prog_4_method_3_code 43 = .ok (.aload_n 0, 1) := by decide +kernel
theorem d_Rdr_readText_44 : decode prog_4_method_3_code 44 = .ok (.getfield 60, 3) := by decide +kernel
theorem d_Rdr_readText_47 : decode prog_4_method_3_code 47 = .ok (.ireturn, 1) := by decide +kernel
theorem d_Rdr_readText_48 : decode prog_4_method_3_code 48 = .ok (.aload_n 0, 1) := by decide +kernel
theorem d_Rdr_readText_49 : decode prog_4_method_3_code 49 = .ok (.getfield 63, 3) := by decide +kernel
theorem d_Rdr_readText_52 : decode prog_4_method_3_code 52 = .ok (.ifCond .ne 5, 3) := by decide +kernel
theorem d_Rdr_readText_55 : decode prog_4_method_3_code 55 = .ok (.iconst (-1), 1) := by decide +kernel
theorem d_Rdr_readText_56 : decode prog_4_method_3_code 56 = .ok (.ireturn, 1) := by decide +kernel
theorem d_Rdr_readText_57 : decode prog_4_method_3_code 57 = .ok (.iinc 1 1, 3) := by decide +kernel
theorem d_Rdr_readText_60 : decode prog_4_method_3_code 60 = .ok (.goto (-35), 3) := by decide +kernel
theorem d_Rdr_readText_63 : decode prog_4_method_3_code 63 = .ok (.aload_n 0, 1) := by decide +kernel
theorem d_Rdr_readText_64 : decode prog_4_method_3_code 64 = .ok (.getfield 60, 3) := by decide +kernel
theorem d_Rdr_readText_67 : decode prog_4_method_3_code 67 = .ok (.ireturn, 1) := by decide +kernel
set_option maxHeartbeats 4000000 in
set_option maxRecDepth 100000 in
theorem c_Rdr_readText (hP : zP b0 N f (wRdr ck A g len st)) (hu : uok st) (hlen : len ≤ 200) : zK l D ck ad b0 y_Rdr_readText prog_4_method_3_code 2 ((some FieldType.int)) 8 0 0 [.ref (A 0)] N f (fun r N' f' => r = some (.int (bText g len st).1) ∧ N = N' ∧ zP b0 N f' (wRdr ck A g len ((bText g len st).2)) ∧ zF N f f' (AA A)) := by
  refine zM.of zG_w (by decide) (Nat.le_of_ble_eq_true rfl) ?_
  intro zp ze zst zm zar zbe zme zc X hnm hb0
  have hF : zF N f f (AA A) := zF.rf
  have L25 : ∀ (nn : Nat) (k : Nat) (s : RSt) (f1 : Nat → va_E), (k ≤ 201 ∧ k + nn = 202) → bText g len st = bRun g len (201 - k) s → zP b0 N f1 (wRdr ck A g len s) → zF N f f1 (AA A) → uok s → zW zp l ze (zR 8 0 0) zst zm zar zbe zme zc D zcl b0 2 0 0 (MQ zbe (zQ D zcl b0 (fun r N' f' => r = some (.int (bText g len st).1) ∧ N = N' ∧ zP b0 N f' (wRdr ck A g len ((bText g len st).2)) ∧ zF N f f' (AA A))) zar zst 0 0 (zA b0)) N f1 25 [(0, .ref (A 0)), (1, .int (nI k))] [] := by
    intro nn
    induction nn with
    | zero =>
      intro k s f1 hk hz0 hP hF hu
      omega
    | succ nn ih =>
      intro k s f1 hk hz0 hP hF hu
      refine z_iload_n X d_Rdr_readText_25 rfl ?_
      refine z_sipush X d_Rdr_readText_26 (v := 200) (by decide) ?_
      refine z_icmp_gt X 63 d_Rdr_readText_29 (by decide) (fun h29 => ?_) (fun h29 => ?_)
      · skip
        have hk2 : k = 201 := by have := (nI_ltI (a := 200) (b := k) (by decide) (by omega)).mp h29; omega
        subst hk2
        have e9 : bText g len st = (s.1 12, s) := hz0
        refine z_aload_n X d_Rdr_readText_63 rfl ?_
        refine z_get X d_Rdr_readText_64 (hP.lo 0 rfl) (hP.at 0 rfl) cl_Rdr in_Rdr 12 (by decide) fl_Rdr_60 rfl rfl ?_
        exact z_iret X d_Rdr_readText_67 ⟨by rw [e9], rfl, by rw [e9]; exact hP, hF⟩
      · skip
        have hk2 : k ≤ 200 := by
          rcases Nat.lt_or_ge 200 k with z | z
          · exact absurd (nI_lt (a := 200) (b := k) z (by omega)) h29
          · exact z
        have e0 : bText g len st = bRun g len (200 - k + 1) s := by rw [hz0, show 201 - k = 200 - k + 1 by omega]
        rw [bRun] at e0
        refine z_aload_n X d_Rdr_readText_32 rfl ?_
        refine z_callV X zG_ok (c_Rdr_readToken (st := s) hP hlen) d_Rdr_readText_33 ⟨(z_cb (n := 0) X.2.2.2.2.1 ml_Rdr_53 mc_Rdr_readToken ini_Rdr (by decide +kernel) rfl rfl ⟨Nat.le_of_ble_eq_true rfl, Nat.le_of_ble_eq_true rfl⟩), X.2.2.2.2.1 _ im_Rdr_readToken, X.2.2.2.2.1 _ sel_Rdr_readToken⟩ (hP.lo 0 rfl) (hP.at 0 rfl) cl_Rdr rfl rfl (Nat.le_of_ble_eq_true rfl) ⟨Nat.le_of_ble_eq_true rfl, Nat.le_of_ble_eq_true rfl⟩ (fun r N1 f1 hp hN1 => ?_)
        obtain ⟨rfl, rfl, hP, hF1⟩ := hp
        have hF := hF.join hF1 (Nat.le_refl _) (fun _ h => Or.inl h)
        refine z_aload_n X d_Rdr_readText_36 rfl ?_
        refine z_callV X zG_ok (c_Rdr_takeToken (st := (zTok g len s.1, s.2)) hP hu) d_Rdr_readText_37 ⟨(z_cb (n := 0) X.2.2.2.2.1 ml_Rdr_56 mc_Rdr_takeToken ini_Rdr (by decide +kernel) rfl rfl ⟨Nat.le_of_ble_eq_true rfl, Nat.le_of_ble_eq_true rfl⟩), X.2.2.2.2.1 _ im_Rdr_takeToken, X.2.2.2.2.1 _ sel_Rdr_takeToken⟩ (hP.lo 0 rfl) (hP.at 0 rfl) cl_Rdr rfl rfl (Nat.le_of_ble_eq_true rfl) ⟨Nat.le_of_ble_eq_true rfl, Nat.le_of_ble_eq_true rfl⟩ (fun r N1 f1 hp hN1 => ?_)
        obtain ⟨rfl, rfl, hP, hF1⟩ := hp
        have hF := hF.join hF1 (Nat.le_refl _) (fun _ h => Or.inl h)
        have hu9 := bTake_u (st := (zTok g len s.1, s.2)) hu
        generalize bTake (zTok g len s.1, s.2) = T at hP e0 hu9 ⊢
        refine z_if_ne X 48 d_Rdr_readText_40 (by decide) (fun h40 => ?_) (fun h40 => ?_)
        · skip
          have e6 : T.1 = true := by
            cases hq : T.1
            · exact absurd (zb_0.mpr hq) h40
            · rfl
          have e7 := e0.trans (if_pos e6)
          refine z_aload_n X d_Rdr_readText_48 rfl ?_
          refine z_get X d_Rdr_readText_49 (hP.lo 0 rfl) (hP.at 0 rfl) cl_Rdr in_Rdr 11 (by decide) fl_Rdr_63 rfl rfl ?_
          refine z_if_ne X 57 d_Rdr_readText_52 (by decide) (fun h52 => ?_) (fun h52 => ?_)
          · skip
            have e9 := e7.trans (if_neg h52)
            refine z_iinc X d_Rdr_readText_57 rfl (nI_1 _) (by decide) rfl ?_
            refine z_goto X 25 d_Rdr_readText_60 (by decide) ?_
            exact ih (k + 1) _ _ (by omega) (by rw [e9, show 201 - (k + 1) = 200 - k by omega]) hP hF hu9
          · skip
            have e9 := e7.trans (if_pos h52)
            refine z_iconst X d_Rdr_readText_55 (v := -1) (by decide) ?_
            exact z_iret X d_Rdr_readText_56 ⟨by rw [e9], rfl, by rw [e9]; exact hP, hF⟩
        · skip
          have e6 : T.1 = false := zb_0.mp h40
          have e9 := e0.trans (if_neg (by rw [e6]; decide))
          refine z_aload_n X d_Rdr_readText_43 rfl ?_
          refine z_get X d_Rdr_readText_44 (hP.lo 0 rfl) (hP.at 0 rfl) cl_Rdr in_Rdr 12 (by decide) fl_Rdr_60 rfl rfl ?_
          exact z_iret X d_Rdr_readText_47 ⟨by rw [e9], rfl, by rw [e9]; exact hP, hF⟩
  refine z_aload_n X d_Rdr_readText_0 rfl ?_
  refine z_get X d_Rdr_readText_1 (hP.lo 0 rfl) (hP.at 0 rfl) cl_Rdr in_Rdr 1 (by decide) fl_Rdr_21 rfl rfl ?_
  refine z_callV X zG_ok (c_Tre_clear (hP.sub [6, 7, 8, 9] (by decide) rfl)) d_Rdr_readText_4 ⟨(z_cb (n := 0) X.2.2.2.2.1 ml_Rdr_39 mc_Tre_clear ini_Tre (by decide +kernel) rfl rfl ⟨Nat.le_of_ble_eq_true rfl, Nat.le_of_ble_eq_true rfl⟩), X.2.2.2.2.1 _ im_Tre_clear, X.2.2.2.2.1 _ sel_Tre_clear⟩ (hP.lo 6 rfl) (hP.at 6 rfl) cl_Tre rfl rfl (Nat.le_of_ble_eq_true rfl) ⟨Nat.le_of_ble_eq_true rfl, Nat.le_of_ble_eq_true rfl⟩ (fun r N1 f1 hp hN1 => ?_)
  obtain ⟨rfl, rfl, rfl⟩ := hp
  have hP := hP.put 6 rfl (oTre (A 7) (A 8) (A 9) 0)
  have hF := hF.put (a := A 6) (by simp) (oTre (A 7) (A 8) (A 9) 0)
  refine z_aload_n X d_Rdr_readText_7 rfl ?_
  refine z_iconst X d_Rdr_readText_8 (v := 0) (by decide) ?_
  refine z_putP X t_Rdr ty_Rdr n_Rdr d_Rdr_readText_9 hP 0 rfl cl_Rdr in_Rdr 10 (by decide) fl_Rdr_42 rfl rfl rfl rfl rfl (Nat.le_of_ble_eq_true rfl) (fun hP => ?_)
  have hF := hF.by (by simp) hP
  refine z_aload_n X d_Rdr_readText_12 rfl ?_
  refine z_iconst X d_Rdr_readText_13 (v := 0) (by decide) ?_
  refine z_putP X t_Rdr ty_Rdr n_Rdr d_Rdr_readText_14 hP 0 rfl cl_Rdr in_Rdr 6 (by decide) fl_Rdr_46 rfl rfl rfl rfl rfl (Nat.le_of_ble_eq_true rfl) (fun hP => ?_)
  have hF := hF.by (by simp) hP
  refine z_aload_n X d_Rdr_readText_17 rfl ?_
  refine z_iconst X d_Rdr_readText_18 (v := 0) (by decide) ?_
  refine z_callV X zG_ok (c_Rdr_beginLevelB (st := (upd (upd st.1 10 0) 6 0, (st.2.1.1, st.2.1.2.1, st.2.1.2.2.1, 0), st.2.2)) hP) d_Rdr_readText_19 ⟨(z_cb (n := 1) X.2.2.2.2.1 ml_Rdr_49 mc_Rdr_beginLevel ini_Rdr (by decide +kernel) rfl rfl ⟨Nat.le_of_ble_eq_true rfl, Nat.le_of_ble_eq_true rfl⟩), X.2.2.2.2.1 _ im_Rdr_beginLevel, X.2.2.2.2.1 _ sel_Rdr_beginLevel⟩ (hP.lo 0 rfl) (hP.at 0 rfl) cl_Rdr rfl rfl (Nat.le_of_ble_eq_true rfl) ⟨Nat.le_of_ble_eq_true rfl, Nat.le_of_ble_eq_true rfl⟩ (fun r N1 f1 hp hN1 => ?_)
  obtain ⟨rfl, rfl, hP, hF1⟩ := hp
  have hF := hF.join hF1 (Nat.le_refl _) (fun _ h => Or.inl h)
  refine z_pop X d_Rdr_readText_22 rfl ?_
  refine z_iconst X d_Rdr_readText_23 (v := 0) (by decide) ?_
  refine z_istore_n X d_Rdr_readText_24 (by decide) rfl ?_
  exact L25 202 0 _ _ (by omega) rfl hP hF (bBeg_u (st := (upd (upd st.1 10 0) 6 0, (st.2.1.1, st.2.1.2.1, st.2.1.2.2.1, 0), st.2.2)) (Nat.zero_le _))
end
end
section
section ZCP
variable {p : Program} {l : Launch} {e : Env} {R : Room} {s : State} {m : MethodId} {args : Array Value} {below : List Frame} {meth : Method} {c : Code} {cells slots : Nat} {Q : State → Prop} {D : va_G} {cl : List vw_C} {tys : List (ClassId × FieldType)} {b0 : Nat} {G : State → Prop} {cc : ByteArray} {nL : Nat} {own : String} {Ts : List Cond} {ret : Option FieldType} {N : Nat} {f : Nat → va_E} {pc : Nat} {lv : List (Nat × Value)} {st : List Value}
theorem arrV_ext {cA : ClassId} {n : Nat} {F F' : Nat → Value} (h : ∀ j, j < n → F j = F' j) : arrV cA n F = arrV cA n F' := by
  have e : (fun j : Fin n => F j.val) = (fun j : Fin n => F' j.val) := funext fun j => h j.val j.isLt
  simp only [arrV, e]
theorem z_clone (X : zX p s m args meth c D cl tys b0 G cc nL own Ts ret) {index a n t0 : Nat} {cA : ClassId} {g : Nat → Int32} (hdg : decode cc pc = .ok (.invokevirtual index, 3)) (w1 : Cond.methodLink own index ⟨"[I", "clone", "()Ljava/lang/Object;"⟩ ∈ Ts) (w2 : Cond.sameMethod "[I" "java/lang/Object" "clone" "()Ljava/lang/Object;" ∈ Ts) (w3 : Cond.native ⟨"java/lang/Object", "clone", "()Ljava/lang/Object;"⟩ ∈ Ts) (w4 : Cond.instanceMethod ⟨"java/lang/Object", "clone", "()Ljava/lang/Object;"⟩ ∈ Ts) (w5 : Cond.selects "[I" ⟨"[I", "clone", "()Ljava/lang/Object;"⟩ ⟨"java/lang/Object", "clone", "()Ljava/lang/Object;"⟩ ∈ Ts) (hcl : va_Nw (.castable "[I" "java/lang/Cloneable") s) (ha : b0 ≤ a ∧ a < N) (hf : f a = .inl (cA, n, .inl g)) (ht : tys[t0]? = some (cA, .int))
    (hfr : 1 ≤ R.frames) (hlo : (st.map fun v => v.category).sum + 14 ≤ R.locals) (hcells : cells + 1 ≤ R.cells) (hslots : slots + n ≤ R.slots) (kk : zW p l e R s m args below meth c D cl b0 nL (cells + 1) (slots + n) Q (N + 1) (va_up f N (.inl (cA, n, .inl g))) (pc + 3) lv (.ref N :: st)) : zW p l e R s m args below meth c D cl b0 nL cells slots Q N f pc lv (.ref a :: st) := fun H locs ls hH hS hL => by
  have hts := X.2.2.2.2.1
  have hK := X.2.2.2.2.2.2.1
  have hnm := va_nm_int (hK.2 t0 _ ht).2
  obtain ⟨c0, c1, f1, f2, f3⟩ := Cond.castable_spec (va_Nw.use (A := args) rfl hcl)
  cases hnm.symm.trans f1
  intro T hT Y
  have hcell : T.heap[a]? = some (vp_cell cA (n, .inl g)) := by
    rw [hT]
    have h9 := hH.2 a ha.1 ha.2
    rw [hf] at h9
    exact h9
  obtain ⟨-, kA, hkA, comp, hkind⟩ := State.isArrayOf_alike Y.warmed.alike ((hK.2 t0 _ ht).1 0 (fun _ => .null))
  obtain ⟨-, kS, hkS, compS, hkindS⟩ := (hK.2 t0 _ ht).1 0 (fun _ => .null)
  obtain ⟨vm', Y', st9⟩ := Y.cloneArray X.1 X.2.2.2.1 (hts _ w1) (hts _ w2) (hts _ w3) (hts _ w4) (hts _ w5) (a := a) (cell := vp_cell cA (n, .inl g)) hcell (fun k h => by cases h) (fun h => by cases h) hnm f2 f3
    (fun i v hv => by
      have hk' : T.vm.classes[cA]? = some kA := hkA
      have h8 : fits FieldType.int v = true := va_fit (fun _ _ => rfl) i v hv
      simpa [State.fitsSlot, State.slotType?, show (vp_cell cA (n, .inl g)).cls = cA from rfl, hk', hkind] using h8)
    (g := F0 m pc ls (.ref a :: st)) rfl (by rw [X.2.2.1]; exact hL.1) rfl (by rw [X.2.1]; exact hdg) hfr (by show 2 * 0 + _ + 14 ≤ _; omega) hcells (by rw [show (vp_cell cA (n, .inl g)).slots.size = n from arrV_size _ _ _]; exact hslots) (hloader := Vm.clonesLoader_of_array hkS hkindS)
  rw [show (vp_cell cA (n, .inl g)).slots.size = n from arrV_size _ _ _, show ({ cls := (vp_cell cA (n, .inl g)).cls, slots := (vp_cell cA (n, .inl g)).slots } : Cell) = vp_cell cA (n, .inl g) from rfl] at Y'
  generalize hH1 : H.push (vp_cell cA (n, .inl g)) = H1
  have z1 : H1.size = N + 1 := by rw [← hH1, Array.size_push, hH.1]
  have e1 : H1[N]? = some (vp_cell cA (n, .inl g)) := by rw [← hH1, ← hH.1, Array.getElem?_push_size]
  have o1 : ∀ q : Nat, q < N → H1[q]? = H[q]? := fun q hq => by rw [← hH1, Array.getElem?_push, if_neg (by rw [hH.1]; exact Nat.ne_of_lt hq)]
  obtain ⟨t, b1, b2⟩ := kk H1 locs ls (hH.push z1 e1 o1) (zS_push hS hH.1 z1 o1) hL ((T.setVm vm').pushCell (vp_cell cA (n, .inl g))) (by rw [← hH1, ← hT]; rfl) Y'
  refine ⟨t, st9 t ?_, b2⟩
  rw [show T.heap.size = N by rw [hT]; exact hH.1]
  exact b1
theorem z_copyi (X : zX p s m args meth c D cl tys b0 G cc nL own Ts ret) {index a0 a n0 n1 t0 t1 : Nat} {c0 c1 : ClassId} {g h h' : Nat → Int32} (hdg : decode cc pc = .ok (.invokestatic index, 3)) (w1 : Cond.methodLink own index arraycopyName ∈ Ts) (w2 : Cond.native arraycopyName ∈ Ts) (w3 : Cond.static arraycopyName ∈ Ts) (w4 : Cond.initialized "java/lang/System" ∈ Ts) (ha0 : b0 ≤ a0 ∧ a0 < N) (hf0 : f a0 = .inl (c0, n0, .inl g)) (ha : b0 ≤ a ∧ a < N) (hf : f a = .inl (c1, n1, .inl h)) (ht0 : tys[t0]? = some (c0, .int)) (ht1 : tys[t1]? = some (c1, .int))
    {sp dp k : Nat} (hk31 : sp < 2 ^ 31 ∧ dp < 2 ^ 31 ∧ k < 2 ^ 31) (h4 : sp + k ≤ n0) (h5 : dp + k ≤ n1) (hfr : 1 ≤ R.frames) (hlo : (st.map fun v => v.category).sum + (nativeFrameWords "java/lang/System" "arraycopy" 5 + 11) ≤ R.locals) (hh : ∀ j, j < n1 → va_cpy g h sp dp k j = h' j) (kk : zW p l e R s m args below meth c D cl b0 nL cells slots Q N (va_up f a (.inl (c1, n1, .inl h'))) (pc + 3) lv st) : zW p l e R s m args below meth c D cl b0 nL cells slots Q N f pc lv (.int (nI k) :: .int (nI dp) :: .ref a :: .int (nI sp) :: .ref a0 :: st) := fun H locs ls hH hS hL => by
  have hts := X.2.2.2.2.1
  have hK := X.2.2.2.2.2.2.1
  intro T hT Y
  have hc0 : H[a0]? = some (vp_cell c0 (n0, .inl g)) := by
    have h9 := hH.2 a0 ha0.1 ha0.2
    rw [hf0] at h9
    exact h9
  have hc1 : H[a]? = some (vp_cell c1 (n1, .inl h)) := by
    have h9 := hH.2 a ha.1 ha.2
    rw [hf] at h9
    exact h9
  obtain ⟨-, k0, hk0, cm0, hkk0⟩ := (hK.2 t0 _ ht0).1 n0 (fun j => .int (g j))
  obtain ⟨-, k1, hk1, cm1, hkk1⟩ := (hK.2 t1 _ ht1).1 n1 (fun j => .int (h j))
  obtain ⟨vm', Y', step⟩ := Y.arraycopy X.1 X.2.2.2.1 (hts _ w1) (hts _ w2) (hts _ w3) (hts _ w4) (src := a0) (dst := a) (cs := vp_cell c0 (n0, .inl g)) (cd := vp_cell c1 (n1, .inl h)) (srcPos := nI sp) (destPos := nI dp) (n := nI k) (by rw [hT]; exact hc0) (by rw [hT]; exact hc1)
    (fun _ h => by cases h) (fun _ h => by cases h) (fun h => by cases h) (fun h => by cases h) hk0 hk1 hkk0 hkk1 (by show (refKind FieldType.int != refKind FieldType.int || !refKind FieldType.int && FieldType.int != FieldType.int) = false; decide) (nI_pos hk31.1) (nI_pos hk31.2.1) (nI_pos hk31.2.2)
    (by rw [nI_toInt hk31.1, nI_toInt hk31.2.2]; show ¬ _ > ((arrV c0 n0 (fun j => .int (g j))).slots.size : Int); rw [arrV_size]; omega)
    (by rw [nI_toInt hk31.2.1, nI_toInt hk31.2.2]; show ¬ _ > ((arrV c1 n1 (fun j => .int (h j))).slots.size : Int); rw [arrV_size]; omega)
    (fun vm₁ _ i hi => by
      rw [nI_clamp hk31.2.2] at hi
      rw [nI_clamp hk31.1]
      have e : (vp_cell c0 (n0, .inl g)).slots.getD (sp + i) .null = .int (g (sp + i)) := by
        show (arrV c0 n0 (fun j => .int (g j))).slots.getD _ _ = _
        rw [Array.getD_eq_getD_getElem?, arrV_read _ _ (by omega)]
        rfl
      exact ⟨by rw [e]; rfl, by rw [e]; exact trivial⟩)
    (g := F0 m pc ls (.int (nI k) :: .int (nI dp) :: .ref a :: .int (nI sp) :: .ref a0 :: st)) rfl (by rw [X.2.2.1]; exact hL.1) (rest := st) rfl (by rw [X.2.1]; exact hdg) hfr (by show 2 * 0 + _ + _ ≤ _; omega)
  have e1 : copied (vp_cell c0 (n0, .inl g)) (vp_cell c1 (n1, .inl h)) (nI sp) (nI dp) (nI k) = vp_cell c1 (n1, .inl h') := by
    have e2 : copied (vp_cell c0 (n0, .inl g)) (vp_cell c1 (n1, .inl h)) (nI sp) (nI dp) (nI k) = vp_cell c1 (n1, .inl (va_cpy g h sp dp k)) := by
      have := va_copied (fun z => Value.int z) c0 c1 (n1 := n1) (dp := dp) g h h4
      show (arrV c1 n1 (fun j => .int (h j))).storeRun (nI dp).toNatClampNeg ((arrV c0 n0 (fun j => .int (g j))).stretch (nI sp).toNatClampNeg (nI k).toNatClampNeg) = _
      rw [nI_clamp hk31.1, nI_clamp hk31.2.1, nI_clamp hk31.2.2]
      exact this
    rw [e2]
    rw [vp_cell_i, vp_cell_i]
    exact arrV_ext fun j hj => by rw [hh j hj]
  rw [e1] at Y' step
  have hl : a < H.size := (Array.getElem?_eq_some_iff.mp hc1).1
  have oq : ∀ q : Nat, q ≠ a → (H.setIfInBounds a (vp_cell c1 (n1, .inl h')))[q]? = H[q]? := fun q hq => by simp [Array.getElem?_setIfInBounds, Ne.symm hq]
  obtain ⟨t, b1, b2⟩ := kk (H.setIfInBounds a (vp_cell c1 (n1, .inl h'))) _ ls (hH.set (by simp) (show (H.setIfInBounds a _)[a]? = some _ by simp [Array.getElem?_setIfInBounds, hl]) oq) ⟨by simp; exact hS.1, fun q g1 g2 => by
      rw [oq q (fun e => g2 (by rw [e]; exact ha.1))]
      exact hS.2.1 q g1 g2, fun q hq => by
      rcases List.mem_append.mp hq with h | h
      · exact hS.2.2 q h
      · obtain ⟨z, -, hz⟩ := List.mem_map.mp h
        rw [← hz]
        exact ha.1⟩ hL _ (by rw [← hT]; rfl) Y'
  exact ⟨t, step t b1, b2⟩
theorem z_castA (X : zX p s m args meth c D cl tys b0 G cc nL own Ts ret) {index a n t0 : Nat} {cA : ClassId} {g : Nat → Int32} (hdg : decode cc pc = .ok (.checkcast index, 3)) (w1 : Cond.classLink own index "[I" ∈ Ts) (ha : b0 ≤ a ∧ a < N) (hf : f a = .inl (cA, n, .inl g)) (ht : tys[t0]? = some (cA, .int)) (kk : zW p l e R s m args below meth c D cl b0 nL cells slots Q N f (pc + 3) lv (.ref a :: st)) : zW p l e R s m args below meth c D cl b0 nL cells slots Q N f pc lv (.ref a :: st) := fun H locs ls hH hS hL => by
  have h9 := hH.2 a ha.1 ha.2
  rw [hf] at h9
  exact va_castA (D := D) (cl := cl) X.1 X.2.1 X.2.2.2.1 (X.2.2.2.2.1 _ w1) (ws := [(a, .inl (cA, n, .inl g))]) (zP1 h9) 0 rfl (va_nm_int (X.2.2.2.2.2.2.1.2 t0 _ ht).2) hdg (kk H locs ls hH hS hL)
theorem zW.re {a n : Nat} {cA : ClassId} {g g' : Nat → Int32} (hf : f a = .inl (cA, n, .inl g)) (hg : ∀ j, j < n → g j = g' j) (kk : zW p l e R s m args below meth c D cl b0 nL cells slots Q N (va_up f a (.inl (cA, n, .inl g'))) pc lv st) : zW p l e R s m args below meth c D cl b0 nL cells slots Q N f pc lv st := fun H locs ls hH hS hL => by
  refine kk H locs ls ⟨hH.1, fun q h1 h2 => ?_⟩ hS hL
  by_cases hq : q = a
  · subst hq
    rw [va_up_self]
    have h9 := hH.2 q h1 h2
    rw [hf] at h9
    refine Eq.trans h9 ?_
    rw [vp_cell_i, vp_cell_i]
    exact congrArg some (arrV_ext fun j hj => by rw [hg j hj])
  · rw [va_up_ne _ _ hq]
    exact hH.2 q h1 h2
end ZCP
theorem zF.by2 {b0 N N0 : Nat} {f0 f : Nat → va_E} {as : List Nat} {y : va_E} {ws : va_W} (h : zF N0 f0 f as) (hN : N0 ≤ N) (_ : zP b0 (N + 1) (va_up f N y) ws) : zF N0 f0 (va_up f N y) as := h.push hN y
theorem va_up_up {f : Nat → va_E} {k : Nat} {x y : va_E} : va_up (va_up f k x) k y = va_up f k y := by
  funext j
  by_cases h : j = k
  · subst h; rw [va_up_self, va_up_self]
  · rw [va_up_ne _ _ h, va_up_ne _ _ h, va_up_ne _ _ h]
section
variable {l : Launch} {D : va_G} {ck : Nat → ClassId} {ad : (Nat → Nat) × (Nat → Nat)} {b0 N : Nat} {f : Nat → va_E}
theorem sm_clone : Cond.sameMethod "[I" "java/lang/Object" "clone" "()Ljava/lang/Object;" ∈ zTs := zT_in 728 (by decide +kernel) rfl
theorem nat_clone : Cond.native ⟨"java/lang/Object", "clone", "()Ljava/lang/Object;"⟩ ∈ zTs := zT_in 729 (by decide +kernel) rfl
theorem sel_clone : Cond.selects "[I" ⟨"[I", "clone", "()Ljava/lang/Object;"⟩ ⟨"java/lang/Object", "clone", "()Ljava/lang/Object;"⟩ ∈ zTs := zT_in 731 (by decide +kernel) rfl
theorem nat_arraycopy : Cond.native ⟨"java/lang/System", "arraycopy", "(Ljava/lang/Object;ILjava/lang/Object;II)V"⟩ ∈ zTs := zT_in 737 (by decide +kernel) rfl
theorem d_Arrays_copyOf_0 : decode prog_24_method_123_code 0 = .ok (.iload_n 1, 1) := by decide +kernel
theorem d_Arrays_copyOf_1 : decode prog_24_method_123_code 1 = .ok (.aload_n 0, 1) := by decide +kernel
theorem d_Arrays_copyOf_2 : decode prog_24_method_123_code 2 = .ok (.arraylength, 1) := by decide +kernel
theorem d_Arrays_copyOf_3 : decode prog_24_method_123_code 3 = .ok (.if_icmp .ne 11, 3) := by decide +kernel
theorem d_Arrays_copyOf_6 : decode prog_24_method_123_code 6 = .ok (.aload_n 0, 1) := by decide +kernel
theorem d_Arrays_copyOf_7 : decode prog_24_method_123_code 7 = .ok (.invokevirtual 316, 3) := by decide +kernel
theorem d_Arrays_copyOf_10 : decode prog_24_method_123_code 10 = .ok (.checkcast 317, 3) := by decide +kernel
theorem d_Arrays_copyOf_13 : decode prog_24_method_123_code 13 = .ok (.areturn, 1) := by decide +kernel
theorem d_Arrays_copyOf_14 : decode prog_24_method_123_code 14 = .ok (.iload_n 1, 1) := by decide +kernel
theorem d_Arrays_copyOf_15 : decode prog_24_method_123_code 15 = .ok (.newarray .int, 2) := by decide +kernel
theorem d_Arrays_copyOf_17 : decode prog_24_method_123_code 17 = .ok (.astore_n 2, 1) := by decide +kernel
theorem d_Arrays_copyOf_18 : decode prog_24_method_123_code 18 = .ok (.aload_n 0, 1) := by decide +kernel
theorem d_Arrays_copyOf_19 : decode prog_24_method_123_code 19 = .ok (.iconst 0, 1) := by decide +kernel
theorem d_Arrays_copyOf_20 : decode prog_24_method_123_code 20 = .ok (.aload_n 2, 1) := by decide +kernel
theorem d_Arrays_copyOf_21 : decode prog_24_method_123_code 21 = .ok (.iconst 0, 1) := by decide +kernel
theorem d_Arrays_copyOf_22 : decode prog_24_method_123_code 22 = .ok (.aload_n 0, 1) := by decide +kernel
theorem d_Arrays_copyOf_23 : decode prog_24_method_123_code 23 = .ok (.arraylength, 1) := by decide +kernel
theorem d_Arrays_copyOf_24 : decode prog_24_method_123_code 24 = .ok (.iload_n 1, 1) := by decide +kernel
theorem d_Arrays_copyOf_25 : decode prog_24_method_123_code 25 = .ok (.invokestatic 304, 3) := by decide +kernel
theorem d_Arrays_copyOf_28 : decode prog_24_method_123_code 28 = .ok (.invokestatic 150, 3) := by decide +kernel
theorem d_Arrays_copyOf_31 : decode prog_24_method_123_code 31 = .ok (.aload_n 2, 1) := by decide +kernel
theorem d_Arrays_copyOf_32 : decode prog_24_method_123_code 32 = .ok (.areturn, 1) := by decide +kernel
set_option maxHeartbeats 4000000 in
set_option maxRecDepth 100000 in
theorem c_Arrays_copyOf {a n u : Nat} {g : Nat → Int32} (hP : zP b0 N f [(a, aI ck n g)]) (hun : u ≤ n) (hn : n ≤ 40) : zK l D ck ad b0 y_Arrays_copyOf prog_24_method_123_code 3 ((some (FieldType.array FieldType.int))) 1 1 40 [.ref a, .int (nI u)] N f (fun r N' f' => r = some (.ref N) ∧ N' = N + 1 ∧ f' = va_up f N (aI ck u g)) := by
  refine zM.ofF zG_w (by decide +kernel) (Nat.le_of_ble_eq_true rfl) ?_
  intro zp ze zst zm zar zbe zme zc X hnm hb0
  refine z_iload_n X d_Arrays_copyOf_0 rfl ?_
  refine z_aload_n X d_Arrays_copyOf_1 rfl ?_
  refine z_alen X d_Arrays_copyOf_2 (hP.lo 0 rfl) (hP.at 0 rfl) (t0 := 0) rfl rfl ?_
  refine z_icmp_ne X 14 d_Arrays_copyOf_3 (by decide) (fun h3 => ?_) (fun h3 => ?_)
  · refine z_iload_n X d_Arrays_copyOf_14 rfl ?_
    refine z_newaiP X rfl d_Arrays_copyOf_15 ac_int (t0 := 0) rfl (nI_pos (by omega)) (nI_clamp (n := u) (by omega)) (by show u * 4 ≤ 536870912; omega) (Nat.le_of_ble_eq_true rfl) (by show 0 + u ≤ 40; omega) hP hb0 (fun hP => ?_)
    refine z_astore_n X d_Arrays_copyOf_17 (by decide) rfl ?_
    refine z_aload_n X d_Arrays_copyOf_18 rfl ?_
    refine z_iconst X d_Arrays_copyOf_19 (v := 0) (by decide) ?_
    refine z_aload_n X d_Arrays_copyOf_20 rfl ?_
    refine z_iconst X d_Arrays_copyOf_21 (v := 0) (by decide) ?_
    refine z_aload_n X d_Arrays_copyOf_22 rfl ?_
    refine z_alen X d_Arrays_copyOf_23 (hP.lo 0 rfl) (hP.at 0 rfl) (t0 := 0) rfl rfl ?_
    refine z_iload_n X d_Arrays_copyOf_24 rfl ?_
    refine z_mmin (x := nI n) (y := nI u) X d_Arrays_copyOf_25 ml_Arrays_304 st_Math_min ini_Math mc_lib_min (Nat.le_of_ble_eq_true rfl) (Nat.le_of_ble_eq_true rfl) (Nat.le_of_ble_eq_true rfl) (by show 0 + u ≤ 40; omega) ?_
    have h3 : ¬ nI u = nI n := h3
    have hlt : u < n := by
      rcases Nat.lt_or_ge u n with z | z
      · exact z
      · exact absurd (by rw [show u = n by omega]) h3
    rw [if_pos (nI_lt hlt (by omega))]
    refine z_copyi X (sp := 0) (dp := 0) (k := u) d_Arrays_copyOf_28 ml_Arrays_150 nat_arraycopy st_System_arraycopy ini_System (hP.lo 0 rfl) (hP.at 0 rfl) (hP.lo 1 rfl) (hP.at 1 rfl) (t0 := 0) (t1 := 0) rfl rfl ⟨by omega, by omega, by omega⟩ (by omega) (by omega) (Nat.le_of_ble_eq_true rfl) (Nat.le_of_ble_eq_true rfl) (h' := g) (fun j hj => by rw [va_cpy, if_pos (by omega)]; simp) ?_
    refine z_aload_n X d_Arrays_copyOf_31 rfl ?_
    refine zW.widen (k := 1) (n := 40) (Nat.le_of_ble_eq_true rfl) (by omega) ?_
    exact z_aretA X d_Arrays_copyOf_32 (Or.inr ⟨_, rfl⟩) ⟨rfl, rfl, va_up_up⟩
  · have e9 : u = n := (nI_eq (by omega) (by omega)).mp h3
    subst e9
    refine z_aload_n X d_Arrays_copyOf_6 rfl ?_
    refine z_clone X d_Arrays_copyOf_7 ml_Arrays_316 sm_clone nat_clone im_Object_clone sel_clone (zG_n X.2.2.2.2.2.1 ns_17) (hP.lo 0 rfl) (hP.at 0 rfl) (t0 := 0) rfl (Nat.le_of_ble_eq_true rfl) (Nat.le_of_ble_eq_true rfl) (Nat.le_of_ble_eq_true rfl) (by show 0 + u ≤ 40; omega) ?_
    refine z_castA X d_Arrays_copyOf_10 kl_Arrays_317 ⟨hb0, by omega⟩ (va_up_self _ _ _) (t0 := 0) rfl ?_
    refine zW.widen (k := 1) (n := 40) (Nat.le_of_ble_eq_true rfl) (by omega) ?_
    exact z_aretA X d_Arrays_copyOf_13 (Or.inr ⟨_, rfl⟩) ⟨rfl, rfl, rfl⟩
theorem d_Arrays_fill_0 : decode prog_24_method_103_code 0 = .ok (.iconst 0, 1) := by decide +kernel
theorem d_Arrays_fill_1 : decode prog_24_method_103_code 1 = .ok (.istore_n 2, 1) := by decide +kernel
theorem d_Arrays_fill_2 : decode prog_24_method_103_code 2 = .ok (.aload_n 0, 1) := by decide +kernel
theorem d_Arrays_fill_3 : decode prog_24_method_103_code 3 = .ok (.arraylength, 1) := by decide +kernel
theorem d_Arrays_fill_4 : decode prog_24_method_103_code 4 = .ok (.istore_n 3, 1) := by decide +kernel
theorem d_Arrays_fill_5 : decode prog_24_method_103_code 5 = .ok (.iload_n 2, 1) := by decide +kernel
theorem d_Arrays_fill_6 : decode prog_24_method_103_code 6 = .ok (.iload_n 3, 1) := by decide +kernel
theorem d_Arrays_fill_7 : decode prog_24_method_103_code 7 = .ok (.if_icmp .ge 13, 3) := by decide +kernel
theorem d_Arrays_fill_10 : decode prog_24_method_103_code 10 = .ok (.aload_n 0, 1) := by decide +kernel
theorem d_Arrays_fill_11 : decode prog_24_method_103_code 11 = .ok (.iload_n 2, 1) := by decide +kernel
theorem d_Arrays_fill_12 : decode prog_24_method_103_code 12 = .ok (.iload_n 1, 1) := by decide +kernel
theorem d_Arrays_fill_13 : decode prog_24_method_103_code 13 = .ok (.iastore, 1) := by decide +kernel
theorem d_Arrays_fill_14 : decode prog_24_method_103_code 14 = .ok (.iinc 2 1, 3) := by decide +kernel
theorem d_Arrays_fill_17 : decode prog_24_method_103_code 17 = .ok (.goto (-12), 3) := by decide +kernel
theorem d_Arrays_fill_20 : decode prog_24_method_103_code 20 = .ok (.return_, 1) := by decide +kernel
theorem va_up_id (f : Nat → va_E) (a : Nat) : va_up f a (f a) = f := by
  funext j
  by_cases h : j = a
  · subst h; rw [va_up_self]
  · rw [va_up_ne _ _ h]
set_option maxHeartbeats 4000000 in
set_option maxRecDepth 100000 in
theorem c_Arrays_fill {a n : Nat} {g : Nat → Int32} {x : Int32} (hP : zP b0 N f [(a, aI ck n g)]) (hn : n ≤ 200) : zK l D ck ad b0 y_Arrays_fill prog_24_method_103_code 4 (none) 0 0 0 [.ref a, .int x] N f (fun r N' f' => r = none ∧ N = N' ∧ f' = va_up f a (aI ck n (fun _ => x))) := by
  refine zM.ofF zG_w (by decide +kernel) (Nat.le_of_ble_eq_true rfl) ?_
  intro zp ze zst zm zar zbe zme zc X hnm hb0
  have L5 : ∀ (nn : Nat) (k : Nat) (h : Nat → Int32) (f1 : Nat → va_E), (k ≤ n ∧ k + nn = n + 1) → (∀ j, j < k → h j = x) → f1 = va_up f a (aI ck n h) → zP b0 N f1 [(a, aI ck n h)] → zW zp l ze (zR 0 0 0) zst zm zar zbe zme zc D zcl b0 4 0 0 (MQ zbe (zQ D zcl b0 (fun r N' f' => r = none ∧ N = N' ∧ f' = va_up f a (aI ck n (fun _ => x)))) zar zst 0 0 (zA b0)) N f1 5 [(0, .ref a), (1, .int x), (2, .int (nI k)), (3, .int (nI n))] [] := by
    intro nn
    induction nn with
    | zero =>
      intro k h f1 hk hg hfg hP
      omega
    | succ nn ih =>
      intro k h f1 hk hg hfg hP
      refine z_iload_n X d_Arrays_fill_5 rfl ?_
      refine z_iload_n X d_Arrays_fill_6 rfl ?_
      refine z_icmp_ge X 20 d_Arrays_fill_7 (by decide) (fun h7 => ?_) (fun h7 => ?_)
      · skip
        have hk2 : k = n := by have := (nI_leI (a := n) (b := k) (by omega) (by omega)).mp h7; omega
        subst hk2
        refine zW.re (hP.at 0 rfl) (g' := fun _ => x) (fun j hj => hg j hj) ?_
        exact z_vret X d_Arrays_fill_20 ⟨rfl, rfl, by rw [hfg, va_up_up]⟩
      · skip
        have hk2 : k < n := by
          rcases Nat.lt_or_ge k n with z | z
          · exact z
          · exact absurd (nI_le (a := n) (b := k) z (by omega)) h7
        refine z_aload_n X d_Arrays_fill_10 rfl ?_
        refine z_iload_n X d_Arrays_fill_11 rfl ?_
        refine z_iload_n X d_Arrays_fill_12 rfl ?_
        refine z_iastP X d_Arrays_fill_13 hP 0 rfl (t0 := 0) rfl (vp_in_nI hk2 (by omega)) (fun hP => ?_)
        refine z_iinc X d_Arrays_fill_14 rfl (nI_1 _) (by decide) rfl ?_
        refine z_goto X 5 d_Arrays_fill_17 (by decide) ?_
        refine ih (k + 1) (upd h k x) _ (by omega) (fun j hj => ?_) (by rw [hfg, va_up_up, nI_clamp (by omega)]) (hP.eq (by rw [nI_clamp (n := k) (by omega)]; rfl))
        by_cases e : j = k
        · subst e; exact pk_us
        · rw [pk_un e]; exact hg j (by omega)
  refine z_iconst X d_Arrays_fill_0 (v := 0) (by decide) ?_
  refine z_istore_n X d_Arrays_fill_1 (by decide) rfl ?_
  refine z_aload_n X d_Arrays_fill_2 rfl ?_
  refine z_alen X d_Arrays_fill_3 (hP.lo 0 rfl) (hP.at 0 rfl) (t0 := 0) rfl rfl ?_
  refine z_istore_n X d_Arrays_fill_4 (by decide) rfl ?_
  exact L5 (n + 1) 0 g f (by omega) (fun j hj => absurd hj (Nat.not_lt_zero _)) (by rw [← hP.at 0 rfl]; exact (va_up_id f a).symm) hP
end
end
section
abbrev df_Sgn : List Value := [.null, .int 0]
theorem nf_Sgn : ∀ j, j < 2 → defaultValue (t_Sgn j) = vp_V df_Sgn j := by
  intro j hj
  match j, hj with
  | 0, _ => rfl
  | 1, _ => rfl
  | j + 2, hj => omega
abbrev df_Tre : List Value := [.null, .null, .null, .int 0]
theorem nf_Tre : ∀ j, j < 4 → defaultValue (t_Tre j) = vp_V df_Tre j := by
  intro j hj
  match j, hj with
  | 0, _ => rfl
  | 1, _ => rfl
  | 2, _ => rfl
  | 3, _ => rfl
  | j + 4, hj => omega
abbrev df_Decl : List Value := [.null]
theorem nf_Decl : ∀ j, j < 1 → defaultValue (t_Decl j) = vp_V df_Decl j := by
  intro j hj
  match j, hj with
  | 0, _ => rfl
  | j + 1, hj => omega
abbrev df_Wrk : List Value := [.null, .null, .int 0]
theorem nf_Wrk : ∀ j, j < 3 → defaultValue (t_Wrk j) = vp_V df_Wrk j := by
  intro j hj
  match j, hj with
  | 0, _ => rfl
  | 1, _ => rfl
  | 2, _ => rfl
  | j + 3, hj => omega
abbrev df_Prt : List Value := [.null]
theorem nf_Prt : ∀ j, j < 1 → defaultValue (t_Prt j) = vp_V df_Prt j := by
  intro j hj
  match j, hj with
  | 0, _ => rfl
  | j + 1, hj => omega
abbrev df_Rdr : List Value := [.null, .null, .null, .null, .null, .int 0, .int 0, .int 0, .int 0, .int 0, .int 0, .int 0, .int 0, .int 0]
theorem nf_Rdr : ∀ j, j < 14 → defaultValue (t_Rdr j) = vp_V df_Rdr j := by
  intro j hj
  match j, hj with
  | 0, _ => rfl
  | 1, _ => rfl
  | 2, _ => rfl
  | 3, _ => rfl
  | 4, _ => rfl
  | 5, _ => rfl
  | 6, _ => rfl
  | 7, _ => rfl
  | 8, _ => rfl
  | 9, _ => rfl
  | 10, _ => rfl
  | 11, _ => rfl
  | 12, _ => rfl
  | 13, _ => rfl
  | j + 14, hj => omega
abbrev df_Rul : List Value := [.null, .int 0, .int 0, .int 0, .int 0, .int 0, .int 0, .int 0]
theorem nf_Rul : ∀ j, j < 8 → defaultValue (t_Rul j) = vp_V df_Rul j := by
  intro j hj
  match j, hj with
  | 0, _ => rfl
  | 1, _ => rfl
  | 2, _ => rfl
  | 3, _ => rfl
  | 4, _ => rfl
  | 5, _ => rfl
  | 6, _ => rfl
  | 7, _ => rfl
  | j + 8, hj => omega
abbrev df_Cls : List Value := [.null, .null, .null, .null, .int 0, .int 0, .int 0]
theorem nf_Cls : ∀ j, j < 7 → defaultValue (t_Cls j) = vp_V df_Cls j := by
  intro j hj
  match j, hj with
  | 0, _ => rfl
  | 1, _ => rfl
  | 2, _ => rfl
  | 3, _ => rfl
  | 4, _ => rfl
  | 5, _ => rfl
  | 6, _ => rfl
  | j + 7, hj => omega
abbrev df_Mod : List Value := [.int 0, .null, .int 0, .int 0, .int 0, .int 0, .null, .null, .null, .null, .null, .null, .null, .null, .null, .null, .null, .null, .null, .null, .null, .null, .null, .null, .int 0, .int 0, .int 0, .int 0, .null, .null, .int 0, .null, .null, .null, .null, .null, .int 0, .null]
theorem nf_Mod : ∀ j, j < 38 → defaultValue (t_Mod j) = vp_V df_Mod j := by
  intro j hj
  match j, hj with
  | 0, _ => rfl
  | 1, _ => rfl
  | 2, _ => rfl
  | 3, _ => rfl
  | 4, _ => rfl
  | 5, _ => rfl
  | 6, _ => rfl
  | 7, _ => rfl
  | 8, _ => rfl
  | 9, _ => rfl
  | 10, _ => rfl
  | 11, _ => rfl
  | 12, _ => rfl
  | 13, _ => rfl
  | 14, _ => rfl
  | 15, _ => rfl
  | 16, _ => rfl
  | 17, _ => rfl
  | 18, _ => rfl
  | 19, _ => rfl
  | 20, _ => rfl
  | 21, _ => rfl
  | 22, _ => rfl
  | 23, _ => rfl
  | 24, _ => rfl
  | 25, _ => rfl
  | 26, _ => rfl
  | 27, _ => rfl
  | 28, _ => rfl
  | 29, _ => rfl
  | 30, _ => rfl
  | 31, _ => rfl
  | 32, _ => rfl
  | 33, _ => rfl
  | 34, _ => rfl
  | 35, _ => rfl
  | 36, _ => rfl
  | 37, _ => rfl
  | j + 38, hj => omega
section
variable {l : Launch} {D : va_G} {ck : Nat → ClassId} {ad : (Nat → Nat) × (Nat → Nat)} {b0 N : Nat} {f : Nat → va_E}
theorem d_Sgn_init_0 : decode prog_6_method_1_code 0 = .ok (.aload_n 0, 1) := by decide +kernel
theorem d_Sgn_init_1 : decode prog_6_method_1_code 1 = .ok (.invokespecial 3, 3) := by decide +kernel
theorem d_Sgn_init_4 : decode prog_6_method_1_code 4 = .ok (.aload_n 0, 1) := by decide +kernel
theorem d_Sgn_init_5 : decode prog_6_method_1_code 5 = .ok (.sipush 200, 3) := by decide +kernel
theorem d_Sgn_init_8 : decode prog_6_method_1_code 8 = .ok (.newarray .int, 2) := by decide +kernel
theorem d_Sgn_init_10 : decode prog_6_method_1_code 10 = .ok (.putfield 9, 3) := by decide +kernel
theorem d_Sgn_init_13 : decode prog_6_method_1_code 13 = .ok (.aload_n 0, 1) := by decide +kernel
theorem d_Sgn_init_14 : decode prog_6_method_1_code 14 = .ok (.iconst 0, 1) := by decide +kernel
theorem d_Sgn_init_15 : decode prog_6_method_1_code 15 = .ok (.putfield 15, 3) := by decide +kernel
theorem d_Sgn_init_18 : decode prog_6_method_1_code 18 = .ok (.return_, 1) := by decide +kernel
set_option maxHeartbeats 4000000 in
set_option maxRecDepth 100000 in
theorem c_Sgn_init {a : Nat} (hP : zP b0 N f [(a, .inr (4, df_Sgn))]) : zK l D ck ad b0 y_Sgn_init prog_6_method_1_code 1 (none) 1 1 200 [.ref a] N f (fun r N' f' => r = none ∧ N' = N + 1 ∧ zP b0 (N + 1) f' [(a, oSgn N 0), (N, aI ck 200 (fun _ => 0))] ∧ zF N f f' [a]) := by
  refine zM.of zG_w (by decide) (Nat.le_of_ble_eq_true rfl) ?_
  intro zp ze zst zm zar zbe zme zc X hnm hb0
  have hF : zF N f f [a] := zF.rf
  refine z_aload_n X d_Sgn_init_0 rfl ?_
  refine z_objInit X d_Sgn_init_1 ml_Sgn_3 im_Object_init mc_objInit (Nat.le_of_ble_eq_true rfl) (Nat.le_of_ble_eq_true rfl) ?_
  refine z_aload_n X d_Sgn_init_4 rfl ?_
  refine z_sipush X d_Sgn_init_5 (v := 200) (by decide) ?_
  refine z_newaiP X rfl d_Sgn_init_8 ac_int (t0 := 0) rfl (by decide) rfl (Nat.le_of_ble_eq_true rfl) (Nat.le_of_ble_eq_true rfl) (Nat.le_of_ble_eq_true rfl) hP (by omega) (fun hP => ?_)
  have hF := hF.by2 (by omega) hP
  refine z_putFP X t_Sgn ty_Sgn n_Sgn d_Sgn_init_10 hP 0 rfl cl_Sgn in_Sgn 0 (by decide) fl_Sgn_9 rfl rfl hnm rfl rfl rfl rfl (Nat.le_of_ble_eq_true rfl) (fun hP => ?_)
  have hF := hF.by (by simp) hP
  refine z_aload_n X d_Sgn_init_13 rfl ?_
  refine z_iconst X d_Sgn_init_14 (v := 0) (by decide) ?_
  refine z_putP X t_Sgn ty_Sgn n_Sgn d_Sgn_init_15 hP 0 rfl cl_Sgn in_Sgn 1 (by decide) fl_Sgn_15 rfl rfl rfl rfl rfl (Nat.le_of_ble_eq_true rfl) (fun hP => ?_)
  have hF := hF.by (by simp) hP
  refine zW.widen (k := 1) (n := 200) (Nat.le_of_ble_eq_true rfl) (Nat.le_of_ble_eq_true rfl) ?_
  exact z_vret X d_Sgn_init_18 ⟨rfl, rfl, hP, hF⟩
theorem d_Tre_init_0 : decode prog_7_method_1_code 0 = .ok (.aload_n 0, 1) := by decide +kernel
theorem d_Tre_init_1 : decode prog_7_method_1_code 1 = .ok (.invokespecial 3, 3) := by decide +kernel
theorem d_Tre_init_4 : decode prog_7_method_1_code 4 = .ok (.aload_n 0, 1) := by decide +kernel
theorem d_Tre_init_5 : decode prog_7_method_1_code 5 = .ok (.bipush 40, 2) := by decide +kernel
theorem d_Tre_init_7 : decode prog_7_method_1_code 7 = .ok (.newarray .int, 2) := by decide +kernel
theorem d_Tre_init_9 : decode prog_7_method_1_code 9 = .ok (.putfield 9, 3) := by decide +kernel
theorem d_Tre_init_12 : decode prog_7_method_1_code 12 = .ok (.aload_n 0, 1) := by decide +kernel
theorem d_Tre_init_13 : decode prog_7_method_1_code 13 = .ok (.bipush 40, 2) := by decide +kernel
theorem d_Tre_init_15 : decode prog_7_method_1_code 15 = .ok (.newarray .int, 2) := by decide +kernel
theorem d_Tre_init_17 : decode prog_7_method_1_code 17 = .ok (.putfield 15, 3) := by decide +kernel
theorem d_Tre_init_20 : decode prog_7_method_1_code 20 = .ok (.aload_n 0, 1) := by decide +kernel
theorem d_Tre_init_21 : decode prog_7_method_1_code 21 = .ok (.bipush 40, 2) := by decide +kernel
theorem d_Tre_init_23 : decode prog_7_method_1_code 23 = .ok (.newarray .int, 2) := by decide +kernel
theorem d_Tre_init_25 : decode prog_7_method_1_code 25 = .ok (.putfield 18, 3) := by decide +kernel
theorem d_Tre_init_28 : decode prog_7_method_1_code 28 = .ok (.aload_n 0, 1) := by decide +kernel
theorem d_Tre_init_29 : decode prog_7_method_1_code 29 = .ok (.iconst 0, 1) := by decide +kernel
theorem d_Tre_init_30 : decode prog_7_method_1_code 30 = .ok (.putfield 21, 3) := by decide +kernel
theorem d_Tre_init_33 : decode prog_7_method_1_code 33 = .ok (.return_, 1) := by decide +kernel
set_option maxHeartbeats 4000000 in
set_option maxRecDepth 100000 in
theorem c_Tre_init {a : Nat} (hP : zP b0 N f [(a, .inr (5, df_Tre))]) : zK l D ck ad b0 y_Tre_init prog_7_method_1_code 1 (none) 1 3 120 [.ref a] N f (fun r N' f' => r = none ∧ N' = N + 3 ∧ zP b0 (N + 3) f' [(a, oTre N (N + 1) (N + 2) 0), (N, aI ck 40 (fun _ => 0)), (N + 1, aI ck 40 (fun _ => 0)), (N + 2, aI ck 40 (fun _ => 0))] ∧ zF N f f' [a]) := by
  refine zM.of zG_w (by decide) (Nat.le_of_ble_eq_true rfl) ?_
  intro zp ze zst zm zar zbe zme zc X hnm hb0
  have hF : zF N f f [a] := zF.rf
  refine z_aload_n X d_Tre_init_0 rfl ?_
  refine z_objInit X d_Tre_init_1 ml_Tre_3 im_Object_init mc_objInit (Nat.le_of_ble_eq_true rfl) (Nat.le_of_ble_eq_true rfl) ?_
  refine z_aload_n X d_Tre_init_4 rfl ?_
  refine z_bipush X d_Tre_init_5 (v := 40) (by decide) ?_
  refine z_newaiP X rfl d_Tre_init_7 ac_int (t0 := 0) rfl (by decide) rfl (Nat.le_of_ble_eq_true rfl) (Nat.le_of_ble_eq_true rfl) (Nat.le_of_ble_eq_true rfl) hP (by omega) (fun hP => ?_)
  have hF := hF.by2 (by omega) hP
  refine z_putFP X t_Tre ty_Tre n_Tre d_Tre_init_9 hP 0 rfl cl_Tre in_Tre 0 (by decide) fl_Tre_9 rfl rfl hnm rfl rfl rfl rfl (Nat.le_of_ble_eq_true rfl) (fun hP => ?_)
  have hF := hF.by (by simp) hP
  refine z_aload_n X d_Tre_init_12 rfl ?_
  refine z_bipush X d_Tre_init_13 (v := 40) (by decide) ?_
  refine z_newaiP X rfl d_Tre_init_15 ac_int (t0 := 0) rfl (by decide) rfl (Nat.le_of_ble_eq_true rfl) (Nat.le_of_ble_eq_true rfl) (Nat.le_of_ble_eq_true rfl) hP (by omega) (fun hP => ?_)
  have hF := hF.by2 (by omega) hP
  refine z_putFP X t_Tre ty_Tre n_Tre d_Tre_init_17 hP 0 rfl cl_Tre in_Tre 1 (by decide) fl_Tre_15 rfl rfl hnm rfl rfl rfl rfl (Nat.le_of_ble_eq_true rfl) (fun hP => ?_)
  have hF := hF.by (by simp) hP
  refine z_aload_n X d_Tre_init_20 rfl ?_
  refine z_bipush X d_Tre_init_21 (v := 40) (by decide) ?_
  refine z_newaiP X rfl d_Tre_init_23 ac_int (t0 := 0) rfl (by decide) rfl (Nat.le_of_ble_eq_true rfl) (Nat.le_of_ble_eq_true rfl) (Nat.le_of_ble_eq_true rfl) hP (by omega) (fun hP => ?_)
  have hF := hF.by2 (by omega) hP
  refine z_putFP X t_Tre ty_Tre n_Tre d_Tre_init_25 hP 0 rfl cl_Tre in_Tre 2 (by decide) fl_Tre_18 rfl rfl hnm rfl rfl rfl rfl (Nat.le_of_ble_eq_true rfl) (fun hP => ?_)
  have hF := hF.by (by simp) hP
  refine z_aload_n X d_Tre_init_28 rfl ?_
  refine z_iconst X d_Tre_init_29 (v := 0) (by decide) ?_
  refine z_putP X t_Tre ty_Tre n_Tre d_Tre_init_30 hP 0 rfl cl_Tre in_Tre 3 (by decide) fl_Tre_21 rfl rfl rfl rfl rfl (Nat.le_of_ble_eq_true rfl) (fun hP => ?_)
  have hF := hF.by (by simp) hP
  refine zW.widen (k := 3) (n := 120) (Nat.le_of_ble_eq_true rfl) (Nat.le_of_ble_eq_true rfl) ?_
  exact z_vret X d_Tre_init_33 ⟨rfl, rfl, hP, hF⟩
theorem d_Decl_init_0 : decode prog_2_method_1_code 0 = .ok (.aload_n 0, 1) := by decide +kernel
theorem d_Decl_init_1 : decode prog_2_method_1_code 1 = .ok (.invokespecial 3, 3) := by decide +kernel
theorem d_Decl_init_4 : decode prog_2_method_1_code 4 = .ok (.aload_n 0, 1) := by decide +kernel
theorem d_Decl_init_5 : decode prog_2_method_1_code 5 = .ok (.sipush 200, 3) := by decide +kernel
theorem d_Decl_init_8 : decode prog_2_method_1_code 8 = .ok (.newarray .int, 2) := by decide +kernel
theorem d_Decl_init_10 : decode prog_2_method_1_code 10 = .ok (.putfield 9, 3) := by decide +kernel
theorem d_Decl_init_13 : decode prog_2_method_1_code 13 = .ok (.aload_n 0, 1) := by decide +kernel
theorem d_Decl_init_14 : decode prog_2_method_1_code 14 = .ok (.getfield 9, 3) := by decide +kernel
theorem d_Decl_init_17 : decode prog_2_method_1_code 17 = .ok (.ldc 15, 2) := by decide +kernel
theorem d_Decl_init_19 : decode prog_2_method_1_code 19 = .ok (.invokestatic 16, 3) := by decide +kernel
theorem d_Decl_init_22 : decode prog_2_method_1_code 22 = .ok (.return_, 1) := by decide +kernel
set_option maxHeartbeats 4000000 in
set_option maxRecDepth 100000 in
theorem c_Decl_init {a : Nat} (hP : zP b0 N f [(a, .inr (0, df_Decl))]) : zK l D ck ad b0 y_Decl_init prog_2_method_1_code 1 (none) 1 1 200 [.ref a] N f (fun r N' f' => r = none ∧ N' = N + 1 ∧ zP b0 (N + 1) f' [(a, .inr (0, [.ref N])), (N, aI ck 200 (fun _ => -2147483648))] ∧ zF N f f' [a]) := by
  refine zM.of zG_w (by decide) (Nat.le_of_ble_eq_true rfl) ?_
  intro zp ze zst zm zar zbe zme zc X hnm hb0
  have hF : zF N f f [a] := zF.rf
  refine z_aload_n X d_Decl_init_0 rfl ?_
  refine z_objInit X d_Decl_init_1 ml_Decl_3 im_Object_init mc_objInit (Nat.le_of_ble_eq_true rfl) (Nat.le_of_ble_eq_true rfl) ?_
  refine z_aload_n X d_Decl_init_4 rfl ?_
  refine z_sipush X d_Decl_init_5 (v := 200) (by decide) ?_
  refine z_newaiP X rfl d_Decl_init_8 ac_int (t0 := 0) rfl (by decide) rfl (Nat.le_of_ble_eq_true rfl) (Nat.le_of_ble_eq_true rfl) (Nat.le_of_ble_eq_true rfl) hP (by omega) (fun hP => ?_)
  have hF := hF.by2 (by omega) hP
  refine z_putFP X t_Decl ty_Decl n_Decl d_Decl_init_10 hP 0 rfl cl_Decl in_Decl 0 (by decide) fl_Decl_9 rfl rfl hnm rfl rfl rfl rfl (Nat.le_of_ble_eq_true rfl) (fun hP => ?_)
  have hF := hF.by (by simp) hP
  refine z_aload_n X d_Decl_init_13 rfl ?_
  refine z_get X d_Decl_init_14 (hP.lo 0 rfl) (hP.at 0 rfl) cl_Decl in_Decl 0 (by decide) fl_Decl_9 rfl rfl ?_
  refine z_ldc X d_Decl_init_17 k_Decl_15 ?_
  refine z_callS X zG_ok (c_Arrays_fill (n := 200) (hP.sub [1] (by decide) rfl) (by omega)) d_Decl_init_19 ⟨(z_cb (n := 2) X.2.2.2.2.1 ml_Decl_16 mc_Arrays_fill ini_Arrays (by decide +kernel) rfl rfl ⟨Nat.le_of_ble_eq_true rfl, Nat.le_of_ble_eq_true rfl⟩), X.2.2.2.2.1 _ st_Arrays_fill⟩ rfl rfl (Nat.le_of_ble_eq_true rfl) ⟨Nat.le_of_ble_eq_true rfl, Nat.le_of_ble_eq_true rfl⟩ (fun r N1 f1 hp hN1 => ?_)
  obtain ⟨rfl, rfl, rfl⟩ := hp
  have hP := hP.put 1 rfl (aI ck 200 (fun _ => -2147483648))
  have hF := hF.push (N := N) (by omega) (aI ck 200 (fun _ => -2147483648))
  refine zW.widen (k := 1) (n := 200) (Nat.le_of_ble_eq_true rfl) (Nat.le_of_ble_eq_true rfl) ?_
  exact z_vret X d_Decl_init_22 ⟨rfl, rfl, hP, hF⟩
theorem d_Prt_init_0 : decode prog_3_method_1_code 0 = .ok (.aload_n 0, 1) := by decide +kernel
theorem d_Prt_init_1 : decode prog_3_method_1_code 1 = .ok (.invokespecial 3, 3) := by decide +kernel
theorem d_Prt_init_4 : decode prog_3_method_1_code 4 = .ok (.aload_n 0, 1) := by decide +kernel
theorem d_Prt_init_5 : decode prog_3_method_1_code 5 = .ok (.new 9, 3) := by decide +kernel
theorem d_Prt_init_8 : decode prog_3_method_1_code 8 = .ok (.dup, 1) := by decide +kernel
theorem d_Prt_init_9 : decode prog_3_method_1_code 9 = .ok (.invokespecial 11, 3) := by decide +kernel
theorem d_Prt_init_12 : decode prog_3_method_1_code 12 = .ok (.putfield 12, 3) := by decide +kernel
theorem d_Prt_init_15 : decode prog_3_method_1_code 15 = .ok (.return_, 1) := by decide +kernel
set_option maxHeartbeats 4000000 in
set_option maxRecDepth 100000 in
theorem c_Prt_init {a : Nat} (hP : zP b0 N f [(a, .inr (1, df_Prt))]) : zK l D ck ad b0 y_Prt_init prog_3_method_1_code 1 (none) 2 2 202 [.ref a] N f (fun r N' f' => r = none ∧ N' = N + 2 ∧ zP b0 (N + 2) f' [(a, .inr (1, [.ref N])), (N, oSgn (N + 1) 0), (N + 1, aI ck 200 (fun _ => 0))] ∧ zF N f f' [a]) := by
  refine zM.of zG_w (by decide) (Nat.le_of_ble_eq_true rfl) ?_
  intro zp ze zst zm zar zbe zme zc X hnm hb0
  have hF : zF N f f [a] := zF.rf
  refine z_aload_n X d_Prt_init_0 rfl ?_
  refine z_objInit X d_Prt_init_1 ml_Prt_3 im_Object_init mc_objInit (Nat.le_of_ble_eq_true rfl) (Nat.le_of_ble_eq_true rfl) ?_
  refine z_aload_n X d_Prt_init_4 rfl ?_
  refine z_newP X t_Sgn ty_Sgn d_Prt_init_5 cl_Sgn in_Sgn kl_Prt_9 ins_Sgn ini_Sgn nf_Sgn (Nat.le_of_ble_eq_true rfl) (Nat.le_of_ble_eq_true rfl) hP (by omega) (fun hP => ?_)
  have hF := hF.by2 (by omega) hP
  refine z_dup X d_Prt_init_8 rfl ?_
  refine z_callIN (ret' := none) X zG_ok (c_Sgn_init (hP.sub [1] (by decide) rfl)) d_Prt_init_9 ⟨(z_cbN (n := 0) X.2.2.2.2.1 (zG_n X.2.2.2.2.2.1 ns_6) mc_Sgn_init ini_Sgn (by decide +kernel) rfl rfl ⟨Nat.le_of_ble_eq_true rfl, Nat.le_of_ble_eq_true rfl⟩), rfl, X.2.2.2.2.1 _ im_Sgn_init⟩ rfl rfl (Nat.le_of_ble_eq_true rfl) ⟨Nat.le_of_ble_eq_true rfl, Nat.le_of_ble_eq_true rfl⟩ (fun r N1 f1 hp hN1 => ?_)
  obtain ⟨rfl, rfl, hP1, hF1⟩ := hp
  have hP := (hP.jn [1] [0] rfl (by decide) (by simp) (by decide) hF1 (by omega) hP1 (fun a ha => by simp at ha ⊢; omega))
  have hF := hF.join hF1 (by omega) (fun b hb => by simp at hb ⊢; omega)
  refine z_putFP X t_Prt ty_Prt n_Prt d_Prt_init_12 hP 0 rfl cl_Prt in_Prt 0 (by decide) fl_Prt_12 rfl rfl hnm rfl rfl rfl rfl (Nat.le_of_ble_eq_true rfl) (fun hP => ?_)
  have hF := hF.by (by simp) hP
  refine zW.widen (k := 2) (n := 202) (Nat.le_of_ble_eq_true rfl) (Nat.le_of_ble_eq_true rfl) ?_
  exact z_vret X d_Prt_init_15 ⟨rfl, rfl, hP, hF⟩
theorem d_Wrk_init_0 : decode prog_8_method_1_code 0 = .ok (.aload_n 0, 1) := by decide +kernel
theorem d_Wrk_init_1 : decode prog_8_method_1_code 1 = .ok (.invokespecial 3, 3) := by decide +kernel
theorem d_Wrk_init_4 : decode prog_8_method_1_code 4 = .ok (.aload_n 0, 1) := by decide +kernel
theorem d_Wrk_init_5 : decode prog_8_method_1_code 5 = .ok (.new 9, 3) := by decide +kernel
theorem d_Wrk_init_8 : decode prog_8_method_1_code 8 = .ok (.dup, 1) := by decide +kernel
theorem d_Wrk_init_9 : decode prog_8_method_1_code 9 = .ok (.invokespecial 11, 3) := by decide +kernel
theorem d_Wrk_init_12 : decode prog_8_method_1_code 12 = .ok (.putfield 12, 3) := by decide +kernel
theorem d_Wrk_init_15 : decode prog_8_method_1_code 15 = .ok (.aload_n 0, 1) := by decide +kernel
theorem d_Wrk_init_16 : decode prog_8_method_1_code 16 = .ok (.sipush 400, 3) := by decide +kernel
theorem d_Wrk_init_19 : decode prog_8_method_1_code 19 = .ok (.newarray .int, 2) := by decide +kernel
theorem d_Wrk_init_21 : decode prog_8_method_1_code 21 = .ok (.putfield 18, 3) := by decide +kernel
theorem d_Wrk_init_24 : decode prog_8_method_1_code 24 = .ok (.return_, 1) := by decide +kernel
set_option maxHeartbeats 4000000 in
set_option maxRecDepth 100000 in
theorem c_Wrk_init {a : Nat} (hP : zP b0 N f [(a, .inr (6, df_Wrk))]) : zK l D ck ad b0 y_Wrk_init prog_8_method_1_code 1 (none) 2 3 601 [.ref a] N f (fun r N' f' => r = none ∧ N' = N + 3 ∧ zP b0 (N + 3) f' [(a, .inr (6, [.ref N, .ref (N + 2), .int 0])), (N, .inr (0, [.ref (N + 1)])), (N + 1, aI ck 200 (fun _ => -2147483648)), (N + 2, aI ck 400 (fun _ => 0))] ∧ zF N f f' [a]) := by
  refine zM.of zG_w (by decide) (Nat.le_of_ble_eq_true rfl) ?_
  intro zp ze zst zm zar zbe zme zc X hnm hb0
  have hF : zF N f f [a] := zF.rf
  refine z_aload_n X d_Wrk_init_0 rfl ?_
  refine z_objInit X d_Wrk_init_1 ml_Wrk_3 im_Object_init mc_objInit (Nat.le_of_ble_eq_true rfl) (Nat.le_of_ble_eq_true rfl) ?_
  refine z_aload_n X d_Wrk_init_4 rfl ?_
  refine z_newP X t_Decl ty_Decl d_Wrk_init_5 cl_Decl in_Decl kl_Wrk_9 ins_Decl ini_Decl nf_Decl (Nat.le_of_ble_eq_true rfl) (Nat.le_of_ble_eq_true rfl) hP (by omega) (fun hP => ?_)
  have hF := hF.by2 (by omega) hP
  refine z_dup X d_Wrk_init_8 rfl ?_
  refine z_callI (ret' := none) X zG_ok (c_Decl_init (hP.sub [1] (by decide) rfl)) d_Wrk_init_9 ⟨(z_cb (n := 0) X.2.2.2.2.1 ml_Wrk_11 mc_Decl_init ini_Decl (by decide +kernel) rfl rfl ⟨Nat.le_of_ble_eq_true rfl, Nat.le_of_ble_eq_true rfl⟩), rfl, X.2.2.2.2.1 _ im_Decl_init⟩ rfl rfl (Nat.le_of_ble_eq_true rfl) ⟨Nat.le_of_ble_eq_true rfl, Nat.le_of_ble_eq_true rfl⟩ (fun r N1 f1 hp hN1 => ?_)
  obtain ⟨rfl, rfl, hP1, hF1⟩ := hp
  have hP := (hP.jn [1] [0] rfl (by decide) (by simp) (by decide) hF1 (by omega) hP1 (fun a ha => by simp at ha ⊢; omega))
  have hF := hF.join hF1 (by omega) (fun b hb => by simp at hb ⊢; omega)
  refine z_putFP X t_Wrk ty_Wrk n_Wrk d_Wrk_init_12 hP 0 rfl cl_Wrk in_Wrk 0 (by decide) fl_Wrk_12 rfl rfl hnm rfl rfl rfl rfl (Nat.le_of_ble_eq_true rfl) (fun hP => ?_)
  have hF := hF.by (by simp) hP
  refine z_aload_n X d_Wrk_init_15 rfl ?_
  refine z_sipush X d_Wrk_init_16 (v := 400) (by decide) ?_
  refine z_newaiP X rfl d_Wrk_init_19 ac_int (t0 := 0) rfl (by decide) rfl (Nat.le_of_ble_eq_true rfl) (Nat.le_of_ble_eq_true rfl) (Nat.le_of_ble_eq_true rfl) hP (by omega) (fun hP => ?_)
  have hF := hF.by2 (by omega) hP
  refine z_putFP X t_Wrk ty_Wrk n_Wrk d_Wrk_init_21 hP 0 rfl cl_Wrk in_Wrk 1 (by decide) fl_Wrk_18 rfl rfl hnm rfl rfl rfl rfl (Nat.le_of_ble_eq_true rfl) (fun hP => ?_)
  have hF := hF.by (by simp) hP
  refine zW.widen (k := 3) (n := 601) (Nat.le_of_ble_eq_true rfl) (Nat.le_of_ble_eq_true rfl) ?_
  exact z_vret X d_Wrk_init_24 ⟨rfl, rfl, hP, hF⟩
theorem d_Rdr_init_0 : decode prog_4_method_1_code 0 = .ok (.aload_n 0, 1) := by decide +kernel
theorem d_Rdr_init_1 : decode prog_4_method_1_code 1 = .ok (.invokespecial 3, 3) := by decide +kernel
theorem d_Rdr_init_4 : decode prog_4_method_1_code 4 = .ok (.aload_n 0, 1) := by decide +kernel
theorem d_Rdr_init_5 : decode prog_4_method_1_code 5 = .ok (.new 9, 3) := by decide +kernel
theorem d_Rdr_init_8 : decode prog_4_method_1_code 8 = .ok (.dup, 1) := by decide +kernel
theorem d_Rdr_init_9 : decode prog_4_method_1_code 9 = .ok (.invokespecial 11, 3) := by decide +kernel
theorem d_Rdr_init_12 : decode prog_4_method_1_code 12 = .ok (.putfield 12, 3) := by decide +kernel
theorem d_Rdr_init_15 : decode prog_4_method_1_code 15 = .ok (.aload_n 0, 1) := by decide +kernel
theorem d_Rdr_init_16 : decode prog_4_method_1_code 16 = .ok (.new 18, 3) := by decide +kernel
theorem d_Rdr_init_19 : decode prog_4_method_1_code 19 = .ok (.dup, 1) := by decide +kernel
theorem d_Rdr_init_20 : decode prog_4_method_1_code 20 = .ok (.invokespecial 20, 3) := by decide +kernel
theorem d_Rdr_init_23 : decode prog_4_method_1_code 23 = .ok (.putfield 21, 3) := by decide +kernel
theorem d_Rdr_init_26 : decode prog_4_method_1_code 26 = .ok (.aload_n 0, 1) := by decide +kernel
theorem d_Rdr_init_27 : decode prog_4_method_1_code 27 = .ok (.bipush 11, 2) := by decide +kernel
theorem d_Rdr_init_29 : decode prog_4_method_1_code 29 = .ok (.newarray .int, 2) := by decide +kernel
theorem d_Rdr_init_31 : decode prog_4_method_1_code 31 = .ok (.putfield 25, 3) := by decide +kernel
theorem d_Rdr_init_34 : decode prog_4_method_1_code 34 = .ok (.aload_n 0, 1) := by decide +kernel
theorem d_Rdr_init_35 : decode prog_4_method_1_code 35 = .ok (.bipush 11, 2) := by decide +kernel
theorem d_Rdr_init_37 : decode prog_4_method_1_code 37 = .ok (.newarray .int, 2) := by decide +kernel
theorem d_Rdr_init_39 : decode prog_4_method_1_code 39 = .ok (.putfield 29, 3) := by decide +kernel
theorem d_Rdr_init_42 : decode prog_4_method_1_code 42 = .ok (.aload_n 0, 1) := by decide +kernel
theorem d_Rdr_init_43 : decode prog_4_method_1_code 43 = .ok (.bipush 11, 2) := by decide +kernel
theorem d_Rdr_init_45 : decode prog_4_method_1_code 45 = .ok (.newarray .int, 2) := by decide +kernel
theorem d_Rdr_init_47 : decode prog_4_method_1_code 47 = .ok (.putfield 32, 3) := by decide +kernel
theorem d_Rdr_init_50 : decode prog_4_method_1_code 50 = .ok (.return_, 1) := by decide +kernel
set_option maxHeartbeats 4000000 in
set_option maxRecDepth 100000 in
theorem c_Rdr_init {a : Nat} (hP : zP b0 N f [(a, .inr (2, df_Rdr))]) : zK l D ck ad b0 y_Rdr_init prog_4_method_1_code 1 (none) 2 9 359 [.ref a] N f (fun r N' f' => r = none ∧ N' = N + 9 ∧ zP b0 (N + 9) f' [(a, .inr (2, [.ref N, .ref (N + 2), .ref (N + 6), .ref (N + 7), .ref (N + 8), .int 0, .int 0, .int 0, .int 0, .int 0, .int 0, .int 0, .int 0, .int 0])), (N, oSgn (N + 1) 0), (N + 1, aI ck 200 (fun _ => 0)), (N + 2, oTre (N + 3) (N + 4) (N + 5) 0), (N + 3, aI ck 40 (fun _ => 0)), (N + 4, aI ck 40 (fun _ => 0)), (N + 5, aI ck 40 (fun _ => 0)), (N + 6, aI ck 11 (fun _ => 0)), (N + 7, aI ck 11 (fun _ => 0)), (N + 8, aI ck 11 (fun _ => 0))] ∧ zF N f f' [a]) := by
  refine zM.of zG_w (by decide) (Nat.le_of_ble_eq_true rfl) ?_
  intro zp ze zst zm zar zbe zme zc X hnm hb0
  have hF : zF N f f [a] := zF.rf
  refine z_aload_n X d_Rdr_init_0 rfl ?_
  refine z_objInit X d_Rdr_init_1 ml_Rdr_3 im_Object_init mc_objInit (Nat.le_of_ble_eq_true rfl) (Nat.le_of_ble_eq_true rfl) ?_
  refine z_aload_n X d_Rdr_init_4 rfl ?_
  refine z_newP X t_Sgn ty_Sgn d_Rdr_init_5 cl_Sgn in_Sgn kl_Rdr_9 ins_Sgn ini_Sgn nf_Sgn (Nat.le_of_ble_eq_true rfl) (Nat.le_of_ble_eq_true rfl) hP (by omega) (fun hP => ?_)
  have hF := hF.by2 (by omega) hP
  refine z_dup X d_Rdr_init_8 rfl ?_
  refine z_callIN (ret' := none) X zG_ok (c_Sgn_init (hP.sub [1] (by decide) rfl)) d_Rdr_init_9 ⟨(z_cbN (n := 0) X.2.2.2.2.1 (zG_n X.2.2.2.2.2.1 ns_1) mc_Sgn_init ini_Sgn (by decide +kernel) rfl rfl ⟨Nat.le_of_ble_eq_true rfl, Nat.le_of_ble_eq_true rfl⟩), rfl, X.2.2.2.2.1 _ im_Sgn_init⟩ rfl rfl (Nat.le_of_ble_eq_true rfl) ⟨Nat.le_of_ble_eq_true rfl, Nat.le_of_ble_eq_true rfl⟩ (fun r N1 f1 hp hN1 => ?_)
  obtain ⟨rfl, rfl, hP1, hF1⟩ := hp
  have hP := (hP.jn [1] [0] rfl (by decide) (by simp) (by decide) hF1 (by omega) hP1 (fun a ha => by simp at ha ⊢; omega))
  have hF := hF.join hF1 (by omega) (fun b hb => by simp at hb ⊢; omega)
  refine z_putFP X t_Rdr ty_Rdr n_Rdr d_Rdr_init_12 hP 0 rfl cl_Rdr in_Rdr 0 (by decide) fl_Rdr_12 rfl rfl hnm rfl rfl rfl rfl (Nat.le_of_ble_eq_true rfl) (fun hP => ?_)
  have hF := hF.by (by simp) hP
  refine z_aload_n X d_Rdr_init_15 rfl ?_
  refine z_newP X t_Tre ty_Tre d_Rdr_init_16 cl_Tre in_Tre kl_Rdr_18 ins_Tre ini_Tre nf_Tre (Nat.le_of_ble_eq_true rfl) (Nat.le_of_ble_eq_true rfl) hP (by omega) (fun hP => ?_)
  have hF := hF.by2 (by omega) hP
  refine z_dup X d_Rdr_init_19 rfl ?_
  refine z_callI (ret' := none) X zG_ok (c_Tre_init (hP.sub [3] (by decide) rfl)) d_Rdr_init_20 ⟨(z_cb (n := 0) X.2.2.2.2.1 ml_Rdr_20 mc_Tre_init ini_Tre (by decide +kernel) rfl rfl ⟨Nat.le_of_ble_eq_true rfl, Nat.le_of_ble_eq_true rfl⟩), rfl, X.2.2.2.2.1 _ im_Tre_init⟩ rfl rfl (Nat.le_of_ble_eq_true rfl) ⟨Nat.le_of_ble_eq_true rfl, Nat.le_of_ble_eq_true rfl⟩ (fun r N1 f1 hp hN1 => ?_)
  obtain ⟨rfl, rfl, hP1, hF1⟩ := hp
  have hP := (hP.jn [3] [0, 1, 2] rfl (by decide) (by simp) (by decide) hF1 (by omega) hP1 (fun a ha => by simp at ha ⊢; omega))
  have hF := hF.join hF1 (by omega) (fun b hb => by simp at hb ⊢; omega)
  refine z_putFP X t_Rdr ty_Rdr n_Rdr d_Rdr_init_23 hP 0 rfl cl_Rdr in_Rdr 1 (by decide) fl_Rdr_21 rfl rfl hnm rfl rfl rfl rfl (Nat.le_of_ble_eq_true rfl) (fun hP => ?_)
  have hF := hF.by (by simp) hP
  refine z_aload_n X d_Rdr_init_26 rfl ?_
  refine z_bipush X d_Rdr_init_27 (v := 11) (by decide) ?_
  refine z_newaiP X rfl d_Rdr_init_29 ac_int (t0 := 0) rfl (by decide) rfl (Nat.le_of_ble_eq_true rfl) (Nat.le_of_ble_eq_true rfl) (Nat.le_of_ble_eq_true rfl) hP (by omega) (fun hP => ?_)
  have hF := hF.by2 (by omega) hP
  refine z_putFP X t_Rdr ty_Rdr n_Rdr d_Rdr_init_31 hP 0 rfl cl_Rdr in_Rdr 2 (by decide) fl_Rdr_25 rfl rfl hnm rfl rfl rfl rfl (Nat.le_of_ble_eq_true rfl) (fun hP => ?_)
  have hF := hF.by (by simp) hP
  refine z_aload_n X d_Rdr_init_34 rfl ?_
  refine z_bipush X d_Rdr_init_35 (v := 11) (by decide) ?_
  refine z_newaiP X rfl d_Rdr_init_37 ac_int (t0 := 0) rfl (by decide) rfl (Nat.le_of_ble_eq_true rfl) (Nat.le_of_ble_eq_true rfl) (Nat.le_of_ble_eq_true rfl) hP (by omega) (fun hP => ?_)
  have hF := hF.by2 (by omega) hP
  refine z_putFP X t_Rdr ty_Rdr n_Rdr d_Rdr_init_39 hP 0 rfl cl_Rdr in_Rdr 3 (by decide) fl_Rdr_29 rfl rfl hnm rfl rfl rfl rfl (Nat.le_of_ble_eq_true rfl) (fun hP => ?_)
  have hF := hF.by (by simp) hP
  refine z_aload_n X d_Rdr_init_42 rfl ?_
  refine z_bipush X d_Rdr_init_43 (v := 11) (by decide) ?_
  refine z_newaiP X rfl d_Rdr_init_45 ac_int (t0 := 0) rfl (by decide) rfl (Nat.le_of_ble_eq_true rfl) (Nat.le_of_ble_eq_true rfl) (Nat.le_of_ble_eq_true rfl) hP (by omega) (fun hP => ?_)
  have hF := hF.by2 (by omega) hP
  refine z_putFP X t_Rdr ty_Rdr n_Rdr d_Rdr_init_47 hP 0 rfl cl_Rdr in_Rdr 4 (by decide) fl_Rdr_32 rfl rfl hnm rfl rfl rfl rfl (Nat.le_of_ble_eq_true rfl) (fun hP => ?_)
  have hF := hF.by (by simp) hP
  refine zW.widen (k := 9) (n := 359) (Nat.le_of_ble_eq_true rfl) (Nat.le_of_ble_eq_true rfl) ?_
  exact z_vret X d_Rdr_init_50 ⟨rfl, rfl, hP, hF⟩
theorem d_Rul_init_0 : decode prog_5_method_1_code 0 = .ok (.aload_n 0, 1) := by decide +kernel
theorem d_Rul_init_1 : decode prog_5_method_1_code 1 = .ok (.invokespecial 3, 3) := by decide +kernel
theorem d_Rul_init_4 : decode prog_5_method_1_code 4 = .ok (.aload_n 0, 1) := by decide +kernel
theorem d_Rul_init_5 : decode prog_5_method_1_code 5 = .ok (.iconst 0, 1) := by decide +kernel
theorem d_Rul_init_6 : decode prog_5_method_1_code 6 = .ok (.putfield 9, 3) := by decide +kernel
theorem d_Rul_init_9 : decode prog_5_method_1_code 9 = .ok (.aload_n 0, 1) := by decide +kernel
theorem d_Rul_init_10 : decode prog_5_method_1_code 10 = .ok (.iconst 1, 1) := by decide +kernel
theorem d_Rul_init_11 : decode prog_5_method_1_code 11 = .ok (.putfield 15, 3) := by decide +kernel
theorem d_Rul_init_14 : decode prog_5_method_1_code 14 = .ok (.aload_n 0, 1) := by decide +kernel
theorem d_Rul_init_15 : decode prog_5_method_1_code 15 = .ok (.iconst 0, 1) := by decide +kernel
theorem d_Rul_init_16 : decode prog_5_method_1_code 16 = .ok (.putfield 19, 3) := by decide +kernel
theorem d_Rul_init_19 : decode prog_5_method_1_code 19 = .ok (.aload_n 0, 1) := by decide +kernel
theorem d_Rul_init_20 : decode prog_5_method_1_code 20 = .ok (.iconst (-1), 1) := by decide +kernel
theorem d_Rul_init_21 : decode prog_5_method_1_code 21 = .ok (.putfield 22, 3) := by decide +kernel
theorem d_Rul_init_24 : decode prog_5_method_1_code 24 = .ok (.aload_n 0, 1) := by decide +kernel
theorem d_Rul_init_25 : decode prog_5_method_1_code 25 = .ok (.iconst 0, 1) := by decide +kernel
theorem d_Rul_init_26 : decode prog_5_method_1_code 26 = .ok (.putfield 25, 3) := by decide +kernel
theorem d_Rul_init_29 : decode prog_5_method_1_code 29 = .ok (.aload_n 0, 1) := by decide +kernel
theorem d_Rul_init_30 : decode prog_5_method_1_code 30 = .ok (.iconst 0, 1) := by decide +kernel
theorem d_Rul_init_31 : decode prog_5_method_1_code 31 = .ok (.putfield 28, 3) := by decide +kernel
theorem d_Rul_init_34 : decode prog_5_method_1_code 34 = .ok (.aload_n 0, 1) := by decide +kernel
theorem d_Rul_init_35 : decode prog_5_method_1_code 35 = .ok (.iconst 0, 1) := by decide +kernel
theorem d_Rul_init_36 : decode prog_5_method_1_code 36 = .ok (.putfield 31, 3) := by decide +kernel
theorem d_Rul_init_39 : decode prog_5_method_1_code 39 = .ok (.aload_n 0, 1) := by decide +kernel
theorem d_Rul_init_40 : decode prog_5_method_1_code 40 = .ok (.aload_n 1, 1) := by decide +kernel
theorem d_Rul_init_41 : decode prog_5_method_1_code 41 = .ok (.putfield 34, 3) := by decide +kernel
theorem d_Rul_init_44 : decode prog_5_method_1_code 44 = .ok (.return_, 1) := by decide +kernel
set_option maxHeartbeats 4000000 in
set_option maxRecDepth 100000 in
theorem c_Rul_init {a : Nat} (hP : zP b0 N f [(a, .inr (3, df_Rul))]) {tr : Nat} : zK l D ck ad b0 y_Rul_init prog_5_method_1_code 2 (none) 1 0 0 [.ref a, .ref tr] N f (fun r N' f' => r = none ∧ N' = N ∧ f' = va_up f a (.inr (3, [.ref tr, .int 0, .int 1, .int 0, .int (-1), .int 0, .int 0, .int 0]))) := by
  refine zM.of zG_w (by decide) (Nat.le_of_ble_eq_true rfl) ?_
  intro zp ze zst zm zar zbe zme zc X hnm hb0
  refine z_aload_n X d_Rul_init_0 rfl ?_
  refine z_objInit X d_Rul_init_1 ml_Rul_3 im_Object_init mc_objInit (Nat.le_of_ble_eq_true rfl) (Nat.le_of_ble_eq_true rfl) ?_
  refine z_aload_n X d_Rul_init_4 rfl ?_
  refine z_iconst X d_Rul_init_5 (v := 0) (by decide) ?_
  refine z_putP X t_Rul ty_Rul n_Rul d_Rul_init_6 hP 0 rfl cl_Rul in_Rul 1 (by decide) fl_Rul_9 rfl rfl rfl rfl rfl (Nat.le_of_ble_eq_true rfl) (fun hP => ?_)
  refine z_aload_n X d_Rul_init_9 rfl ?_
  refine z_iconst X d_Rul_init_10 (v := 1) (by decide) ?_
  refine z_putP X t_Rul ty_Rul n_Rul d_Rul_init_11 hP 0 rfl cl_Rul in_Rul 2 (by decide) fl_Rul_15 rfl rfl rfl rfl rfl (Nat.le_of_ble_eq_true rfl) (fun hP => ?_)
  refine z_aload_n X d_Rul_init_14 rfl ?_
  refine z_iconst X d_Rul_init_15 (v := 0) (by decide) ?_
  refine z_putP X t_Rul ty_Rul n_Rul d_Rul_init_16 hP 0 rfl cl_Rul in_Rul 3 (by decide) fl_Rul_19 rfl rfl rfl rfl rfl (Nat.le_of_ble_eq_true rfl) (fun hP => ?_)
  refine z_aload_n X d_Rul_init_19 rfl ?_
  refine z_iconst X d_Rul_init_20 (v := -1) (by decide) ?_
  refine z_putP X t_Rul ty_Rul n_Rul d_Rul_init_21 hP 0 rfl cl_Rul in_Rul 4 (by decide) fl_Rul_22 rfl rfl rfl rfl rfl (Nat.le_of_ble_eq_true rfl) (fun hP => ?_)
  refine z_aload_n X d_Rul_init_24 rfl ?_
  refine z_iconst X d_Rul_init_25 (v := 0) (by decide) ?_
  refine z_putP X t_Rul ty_Rul n_Rul d_Rul_init_26 hP 0 rfl cl_Rul in_Rul 5 (by decide) fl_Rul_25 rfl rfl rfl rfl rfl (Nat.le_of_ble_eq_true rfl) (fun hP => ?_)
  refine z_aload_n X d_Rul_init_29 rfl ?_
  refine z_iconst X d_Rul_init_30 (v := 0) (by decide) ?_
  refine z_putP X t_Rul ty_Rul n_Rul d_Rul_init_31 hP 0 rfl cl_Rul in_Rul 6 (by decide) fl_Rul_28 rfl rfl rfl rfl rfl (Nat.le_of_ble_eq_true rfl) (fun hP => ?_)
  refine z_aload_n X d_Rul_init_34 rfl ?_
  refine z_iconst X d_Rul_init_35 (v := 0) (by decide) ?_
  refine z_putP X t_Rul ty_Rul n_Rul d_Rul_init_36 hP 0 rfl cl_Rul in_Rul 7 (by decide) fl_Rul_31 rfl rfl rfl rfl rfl (Nat.le_of_ble_eq_true rfl) (fun hP => ?_)
  refine z_aload_n X d_Rul_init_39 rfl ?_
  refine z_aload_n X d_Rul_init_40 rfl ?_
  refine z_putFP X t_Rul ty_Rul n_Rul d_Rul_init_41 hP 0 rfl cl_Rul in_Rul 0 (by decide) fl_Rul_34 rfl rfl hnm rfl rfl rfl rfl (Nat.le_of_ble_eq_true rfl) (fun hP => ?_)
  exact z_vret X d_Rul_init_44 ⟨rfl, rfl, by simp only [va_up_up]; rfl⟩
theorem d_Tre_init2_0 : decode prog_7_method_2_code 0 = .ok (.aload_n 0, 1) := by decide +kernel
theorem d_Tre_init2_1 : decode prog_7_method_2_code 1 = .ok (.invokespecial 3, 3) := by decide +kernel
theorem d_Tre_init2_4 : decode prog_7_method_2_code 4 = .ok (.aload_n 0, 1) := by decide +kernel
theorem d_Tre_init2_5 : decode prog_7_method_2_code 5 = .ok (.aload_n 1, 1) := by decide +kernel
theorem d_Tre_init2_6 : decode prog_7_method_2_code 6 = .ok (.getfield 9, 3) := by decide +kernel
theorem d_Tre_init2_9 : decode prog_7_method_2_code 9 = .ok (.aload_n 1, 1) := by decide +kernel
theorem d_Tre_init2_10 : decode prog_7_method_2_code 10 = .ok (.getfield 21, 3) := by decide +kernel
theorem d_Tre_init2_13 : decode prog_7_method_2_code 13 = .ok (.invokestatic 25, 3) := by decide +kernel
theorem d_Tre_init2_16 : decode prog_7_method_2_code 16 = .ok (.putfield 9, 3) := by decide +kernel
theorem d_Tre_init2_19 : decode prog_7_method_2_code 19 = .ok (.aload_n 0, 1) := by decide +kernel
theorem d_Tre_init2_20 : decode prog_7_method_2_code 20 = .ok (.aload_n 1, 1) := by decide +kernel
theorem d_Tre_init2_21 : decode prog_7_method_2_code 21 = .ok (.getfield 15, 3) := by decide +kernel
theorem d_Tre_init2_24 : decode prog_7_method_2_code 24 = .ok (.aload_n 1, 1) := by decide +kernel
theorem d_Tre_init2_25 : decode prog_7_method_2_code 25 = .ok (.getfield 21, 3) := by decide +kernel
theorem d_Tre_init2_28 : decode prog_7_method_2_code 28 = .ok (.invokestatic 25, 3) := by decide +kernel
theorem d_Tre_init2_31 : decode prog_7_method_2_code 31 = .ok (.putfield 15, 3) := by decide +kernel
theorem d_Tre_init2_34 : decode prog_7_method_2_code 34 = .ok (.aload_n 0, 1) := by decide +kernel
theorem d_Tre_init2_35 : decode prog_7_method_2_code 35 = .ok (.aload_n 1, 1) := by decide +kernel
theorem d_Tre_init2_36 : decode prog_7_method_2_code 36 = .ok (.getfield 18, 3) := by decide +kernel
theorem d_Tre_init2_39 : decode prog_7_method_2_code 39 = .ok (.aload_n 1, 1) := by decide +kernel
theorem d_Tre_init2_40 : decode prog_7_method_2_code 40 = .ok (.getfield 21, 3) := by decide +kernel
theorem d_Tre_init2_43 : decode prog_7_method_2_code 43 = .ok (.invokestatic 25, 3) := by decide +kernel
theorem d_Tre_init2_46 : decode prog_7_method_2_code 46 = .ok (.putfield 18, 3) := by decide +kernel
theorem d_Tre_init2_49 : decode prog_7_method_2_code 49 = .ok (.aload_n 0, 1) := by decide +kernel
theorem d_Tre_init2_50 : decode prog_7_method_2_code 50 = .ok (.aload_n 1, 1) := by decide +kernel
theorem d_Tre_init2_51 : decode prog_7_method_2_code 51 = .ok (.getfield 21, 3) := by decide +kernel
theorem d_Tre_init2_54 : decode prog_7_method_2_code 54 = .ok (.putfield 21, 3) := by decide +kernel
theorem d_Tre_init2_57 : decode prog_7_method_2_code 57 = .ok (.return_, 1) := by decide +kernel
set_option maxHeartbeats 4000000 in
set_option maxRecDepth 100000 in
theorem c_Tre_init2 {a tr ka va ra n u : Nat} {K V R : Nat → Int32} (hP : zP b0 N f ((a, .inr (5, df_Tre)) :: wTre ck tr ka va ra n K V R u)) (hu : u ≤ n) (hn : n ≤ 40) : zK l D ck ad b0 y_Tre_init2 prog_7_method_2_code 2 (none) 2 3 120 [.ref a, .ref tr] N f (fun r N' f' => r = none ∧ N' = N + 3 ∧ zP b0 (N + 3) f' ((a, oTre N (N + 1) (N + 2) u) :: wTre ck tr ka va ra n K V R u ++ [(N, aI ck u K), (N + 1, aI ck u V), (N + 2, aI ck u R)]) ∧ zF N f f' [a]) := by
  refine zM.of zG_w (by decide) (Nat.le_of_ble_eq_true rfl) ?_
  intro zp ze zst zm zar zbe zme zc X hnm hb0
  have hF : zF N f f [a] := zF.rf
  refine z_aload_n X d_Tre_init2_0 rfl ?_
  refine z_objInit X d_Tre_init2_1 ml_Tre_3 im_Object_init mc_objInit (Nat.le_of_ble_eq_true rfl) (Nat.le_of_ble_eq_true rfl) ?_
  refine z_aload_n X d_Tre_init2_4 rfl ?_
  refine z_aload_n X d_Tre_init2_5 rfl ?_
  refine z_get X d_Tre_init2_6 (hP.lo 1 rfl) (hP.at 1 rfl) cl_Tre in_Tre 0 (by decide) fl_Tre_9 rfl rfl ?_
  refine z_aload_n X d_Tre_init2_9 rfl ?_
  refine z_get X d_Tre_init2_10 (hP.lo 1 rfl) (hP.at 1 rfl) cl_Tre in_Tre 3 (by decide) fl_Tre_21 rfl rfl ?_
  refine z_callS X zG_ok (c_Arrays_copyOf (hP.sub [2] (by decide) rfl) hu hn) d_Tre_init2_13 ⟨(z_cb (n := 2) X.2.2.2.2.1 ml_Tre_25 mc_Arrays_copyOf ini_Arrays (by decide +kernel) rfl rfl ⟨Nat.le_of_ble_eq_true rfl, Nat.le_of_ble_eq_true rfl⟩), X.2.2.2.2.1 _ st_Arrays_copyOf⟩ rfl rfl (Nat.le_of_ble_eq_true rfl) ⟨Nat.le_of_ble_eq_true rfl, Nat.le_of_ble_eq_true rfl⟩ (fun r N1 f1 hp hN1 => ?_)
  obtain ⟨rfl, rfl, rfl⟩ := hp
  have hP := hP.push (by omega) (aI ck u K)
  have hF := hF.by2 (by omega) hP
  refine z_putFP X t_Tre ty_Tre n_Tre d_Tre_init2_16 hP 0 rfl cl_Tre in_Tre 0 (by decide) fl_Tre_9 rfl rfl hnm rfl rfl rfl rfl (Nat.le_of_ble_eq_true rfl) (fun hP => ?_)
  have hF := hF.by (by simp) hP
  refine z_aload_n X d_Tre_init2_19 rfl ?_
  refine z_aload_n X d_Tre_init2_20 rfl ?_
  refine z_get X d_Tre_init2_21 (hP.lo 1 rfl) (hP.at 1 rfl) cl_Tre in_Tre 1 (by decide) fl_Tre_15 rfl rfl ?_
  refine z_aload_n X d_Tre_init2_24 rfl ?_
  refine z_get X d_Tre_init2_25 (hP.lo 1 rfl) (hP.at 1 rfl) cl_Tre in_Tre 3 (by decide) fl_Tre_21 rfl rfl ?_
  refine z_callS X zG_ok (c_Arrays_copyOf (hP.sub [3] (by decide) rfl) hu hn) d_Tre_init2_28 ⟨(z_cb (n := 2) X.2.2.2.2.1 ml_Tre_25 mc_Arrays_copyOf ini_Arrays (by decide +kernel) rfl rfl ⟨Nat.le_of_ble_eq_true rfl, Nat.le_of_ble_eq_true rfl⟩), X.2.2.2.2.1 _ st_Arrays_copyOf⟩ rfl rfl (Nat.le_of_ble_eq_true rfl) ⟨Nat.le_of_ble_eq_true rfl, Nat.le_of_ble_eq_true rfl⟩ (fun r N1 f1 hp hN1 => ?_)
  obtain ⟨rfl, rfl, rfl⟩ := hp
  have hP := hP.push (by omega) (aI ck u V)
  have hF := hF.by2 (by omega) hP
  refine z_putFP X t_Tre ty_Tre n_Tre d_Tre_init2_31 hP 0 rfl cl_Tre in_Tre 1 (by decide) fl_Tre_15 rfl rfl hnm rfl rfl rfl rfl (Nat.le_of_ble_eq_true rfl) (fun hP => ?_)
  have hF := hF.by (by simp) hP
  refine z_aload_n X d_Tre_init2_34 rfl ?_
  refine z_aload_n X d_Tre_init2_35 rfl ?_
  refine z_get X d_Tre_init2_36 (hP.lo 1 rfl) (hP.at 1 rfl) cl_Tre in_Tre 2 (by decide) fl_Tre_18 rfl rfl ?_
  refine z_aload_n X d_Tre_init2_39 rfl ?_
  refine z_get X d_Tre_init2_40 (hP.lo 1 rfl) (hP.at 1 rfl) cl_Tre in_Tre 3 (by decide) fl_Tre_21 rfl rfl ?_
  refine z_callS X zG_ok (c_Arrays_copyOf (hP.sub [4] (by decide) rfl) hu hn) d_Tre_init2_43 ⟨(z_cb (n := 2) X.2.2.2.2.1 ml_Tre_25 mc_Arrays_copyOf ini_Arrays (by decide +kernel) rfl rfl ⟨Nat.le_of_ble_eq_true rfl, Nat.le_of_ble_eq_true rfl⟩), X.2.2.2.2.1 _ st_Arrays_copyOf⟩ rfl rfl (Nat.le_of_ble_eq_true rfl) ⟨Nat.le_of_ble_eq_true rfl, Nat.le_of_ble_eq_true rfl⟩ (fun r N1 f1 hp hN1 => ?_)
  obtain ⟨rfl, rfl, rfl⟩ := hp
  have hP := hP.push (by omega) (aI ck u R)
  have hF := hF.by2 (by omega) hP
  refine z_putFP X t_Tre ty_Tre n_Tre d_Tre_init2_46 hP 0 rfl cl_Tre in_Tre 2 (by decide) fl_Tre_18 rfl rfl hnm rfl rfl rfl rfl (Nat.le_of_ble_eq_true rfl) (fun hP => ?_)
  have hF := hF.by (by simp) hP
  refine z_aload_n X d_Tre_init2_49 rfl ?_
  refine z_aload_n X d_Tre_init2_50 rfl ?_
  refine z_get X d_Tre_init2_51 (hP.lo 1 rfl) (hP.at 1 rfl) cl_Tre in_Tre 3 (by decide) fl_Tre_21 rfl rfl ?_
  refine z_putP X t_Tre ty_Tre n_Tre d_Tre_init2_54 hP 0 rfl cl_Tre in_Tre 3 (by decide) fl_Tre_21 rfl rfl rfl rfl rfl (Nat.le_of_ble_eq_true rfl) (fun hP => ?_)
  have hF := hF.by (by simp) hP
  refine zW.widen (k := 3) (n := 120) (Nat.le_of_ble_eq_true rfl) (Nat.le_of_ble_eq_true rfl) ?_
  exact z_vret X d_Tre_init2_57 ⟨rfl, rfl, hP, hF⟩
theorem d_Tre_copy_0 : decode prog_7_method_3_code 0 = .ok (.new 10, 3) := by decide +kernel
theorem d_Tre_copy_3 : decode prog_7_method_3_code 3 = .ok (.dup, 1) := by decide +kernel
theorem d_Tre_copy_4 : decode prog_7_method_3_code 4 = .ok (.aload_n 0, 1) := by decide +kernel
theorem d_Tre_copy_5 : decode prog_7_method_3_code 5 = .ok (.invokespecial 31, 3) := by decide +kernel
theorem d_Tre_copy_8 : decode prog_7_method_3_code 8 = .ok (.areturn, 1) := by decide +kernel
set_option maxHeartbeats 4000000 in
set_option maxRecDepth 100000 in
theorem c_Tre_copy {tr ka va ra n u : Nat} {K V R : Nat → Int32} (hP : zP b0 N f (wTre ck tr ka va ra n K V R u)) (hu : u ≤ n) (hn : n ≤ 40) : zK l D ck ad b0 y_Tre_copy prog_7_method_3_code 1 ((some (FieldType.object "CheckRules$Tree"))) 3 4 124 [.ref tr] N f (fun r N' f' => r = some (.ref N) ∧ N' = N + 4 ∧ zP b0 (N + 4) f' (wTre ck tr ka va ra n K V R u ++ wTre ck N (N + 1) (N + 2) (N + 3) u K V R u) ∧ zF N f f' []) := by
  refine zM.of zG_w (by decide) (Nat.le_of_ble_eq_true rfl) ?_
  intro zp ze zst zm zar zbe zme zc X hnm hb0
  have hF : zF N f f [] := zF.rf
  refine z_newP X t_Tre ty_Tre d_Tre_copy_0 cl_Tre in_Tre kl_Tre_10 ins_Tre ini_Tre nf_Tre (Nat.le_of_ble_eq_true rfl) (Nat.le_of_ble_eq_true rfl) hP (by omega) (fun hP => ?_)
  have hF := hF.by2 (by omega) hP
  refine z_dup X d_Tre_copy_3 rfl ?_
  refine z_aload_n X d_Tre_copy_4 rfl ?_
  refine z_callI (ret' := none) X zG_ok (c_Tre_init2 (tr := tr) (ka := ka) (va := va) (ra := ra) (K := K) (V := V) (R := R) (hP.sub [4, 0, 1, 2, 3] (by decide) rfl) hu hn) d_Tre_copy_5 ⟨(z_cb (n := 1) X.2.2.2.2.1 ml_Tre_31 mc_Tre_init2 ini_Tre (by decide +kernel) rfl rfl ⟨Nat.le_of_ble_eq_true rfl, Nat.le_of_ble_eq_true rfl⟩), rfl, X.2.2.2.2.1 _ im_Tre_init2⟩ rfl rfl (Nat.le_of_ble_eq_true rfl) ⟨Nat.le_of_ble_eq_true rfl, Nat.le_of_ble_eq_true rfl⟩ (fun r N1 f1 hp hN1 => ?_)
  obtain ⟨rfl, rfl, hP1, hF1⟩ := hp
  have hP := hP1.sub (wc := wTre ck tr ka va ra n K V R u ++ wTre ck N (N + 1) (N + 2) (N + 3) u K V R u) [1, 2, 3, 4, 0, 5, 6, 7] (by decide) rfl
  have hF := hF.join hF1 (by omega) (fun b hb => by simp at hb ⊢; omega)
  refine zW.widen (k := 4) (n := 124) (Nat.le_of_ble_eq_true rfl) (Nat.le_of_ble_eq_true rfl) ?_
  exact z_aret X d_Tre_copy_8 (Or.inr ⟨_, rfl⟩) ⟨rfl, rfl, hP, hF⟩
end
end
section
/-- what was printed: signs and how many -/
abbrev PSt : Type := (Nat → Int32) × Nat
def pAdd (ps : PSt) (x : Int32) : PSt := if ps.2 < 200 then (upd ps.1 ps.2 x, ps.2 + 1) else ps
def pPut (l : List Int32) (ps : PSt) : PSt := l.foldl pAdd ps
theorem pAdd_len {ps : PSt} {x : Int32} (h : ps.2 ≤ 200) : (pAdd ps x).2 ≤ 200 := by
  rw [pAdd]; by_cases q : ps.2 < 200
  · rw [if_pos q]; show ps.2 + 1 ≤ 200; omega
  · rw [if_neg q]; exact h
theorem pPut_len {l : List Int32} : ∀ {ps : PSt}, ps.2 ≤ 200 → (pPut l ps).2 ≤ 200 := by
  induction l with
  | nil => intro ps h; exact h
  | cons x l ih => intro ps h; exact ih (pAdd_len h)
theorem pPut_app (a b : List Int32) (ps : PSt) : pPut (a ++ b) ps = pPut b (pPut a ps) := List.foldl_append
theorem pPut_1 (x : Int32) (ps : PSt) : pPut [x] ps = pAdd ps x := rfl
/-- the printer's cells: itself, the signs, their row -/
abbrev wPr (ck : Nat → ClassId) (A : Nat → Nat) (ps : PSt) : va_W := [(A 0, .inr (1, [.ref (A 1)])), (A 1, oSgn (A 2) (nI ps.2)), (A 2, aI ck 200 ps.1)]
/-- ... beside a tree -/
abbrev wPT (ck : Nat → ClassId) (A : Nat → Nat) (ps : PSt) (n : Nat) (K V R : Nat → Int32) (u : Nat) : va_W := wPr ck A ps ++ wTre ck (A 3) (A 4) (A 5) (A 6) n K V R u
/-- Printer.addNumber -/
def uN (t : Nat) : Int32 := match t with
  | 0 => 1000000
  | 1 => 100000
  | 2 => 10000
  | 3 => 1000
  | 4 => 100
  | 5 => 10
  | 6 => 1
  | _ => 0
theorem uN_p : ∀ t, t < 7 → (¬ uN t ≤ 0) ∧ (¬ uN t = 0) ∧ uN t / 10 = uN (t + 1) := by decide
def pNumT (v : Int32) : Nat → List Int32
  | 0 => []
  | t + 1 => pNumT v t ++ (if uN t ≤ v ∨ uN t = 1 then [48 + (v / uN t - v / uN t / 10 * 10)] else [])
def pNum (v : Int32) : List Int32 := pNumT v 7
/-- Printer.addSignOf, needsBrackets, printTerm -/
def pSig (k : Int32) : List Int32 := if k < 0 then [] else if 11 ≤ k then [] else [(zSb 14).getD k.toNatClampNeg 0]
def pBr (k b : Int32) (r : Bool) : Bool := if k = 2 then decide (b = 0) || decide (b = 1) else if k = 1 then decide (b = 0) || (decide (b = 1) && r) else if k = 0 then decide (b = 0) && r else false
def pTerm (k v : Int32) : List Int32 := (if k = 13 then zSb 12 else []) ++ ((if k = 14 then zSb 13 else []) ++ ((if k = 11 then [] else [102]) ++ pNum v))
/-- Printer.printBelow, over what prints a node; printNode, n levels deep at most -/
def pBel (K R : Nat → Int32) (u : Nat) (T : Int32 → List Int32) (i b : Int32) : List Int32 := if pBr (sgv K u i) (sgv K u b) (decide (b = sgv R u i)) = true then [40] ++ (T b ++ [41]) else T b
def pTxt (K V R : Nat → Int32) (u : Nat) : Nat → Int32 → List Int32
  | 0, _ => []
  | n + 1, i =>
    if sgv K u i = 2 then [33] ++ pBel K R u (pTxt K V R u n) i (tleft K u i)
    else if sgv K u i = 3 then zSb 10 ++ (pBel K R u (pTxt K V R u n) i (tleft K u i) ++ [41])
    else if sgv K u i = 4 then zSb 11 ++ (pBel K R u (pTxt K V R u n) i (tleft K u i) ++ [41])
    else if sgv K u i = 11 ∨ sgv K u i = 12 ∨ sgv K u i = 13 ∨ sgv K u i = 14 then pTerm (sgv K u i) (sgv V u i)
    else pBel K R u (pTxt K V R u n) i (tleft K u i) ++ (pSig (sgv K u i) ++ pBel K R u (pTxt K V R u n) i (sgv R u i))
section
variable {l : Launch} {D : va_G} {ck : Nat → ClassId} {ad : (Nat → Nat) × (Nat → Nat)} {b0 N : Nat} {f : Nat → va_E}
variable {A : Nat → Nat} {ps : PSt}
set_option maxHeartbeats 4000000 in
set_option maxRecDepth 100000 in
theorem c_Sgn_addT {sg ra : Nat} {ps : PSt} (hP : zP b0 N f [(sg, oSgn ra (nI ps.2)), (ra, aI ck 200 ps.1)]) (hl : ps.2 ≤ 200) {x : Int32} : zK l D ck ad b0 y_Sgn_add prog_6_method_4_code 2 ((some FieldType.boolean)) 0 0 0 [.ref sg, .int x] N f (fun r N' f' => (∃ y : Int32, r = some (.int y)) ∧ N = N' ∧ zP b0 N f' [(sg, oSgn ra (nI (pAdd ps x).2)), (ra, aI ck 200 (pAdd ps x).1)] ∧ zF N f f' [sg, ra]) := by
  refine (c_Sgn_add hP hl).mono ?_
  intro r N1 f1 h
  rw [pAdd]
  by_cases q : ps.2 < 200
  · rw [if_pos q] at h ⊢
    obtain ⟨rfl, rfl, rfl⟩ := h
    exact ⟨⟨_, rfl⟩, rfl, (hP.put 1 rfl _).put 0 rfl _, (zF.rf.put (by simp) _).put (by simp) _⟩
  · rw [if_neg q] at h ⊢
    obtain ⟨rfl, rfl, rfl⟩ := h
    exact ⟨⟨_, rfl⟩, rfl, hP, zF.rf⟩
theorem zP.pra {f' : Nat → va_E} {ps' : PSt} (hP : zP b0 N f (wPr ck A ps)) (h1 : zP b0 N f' [(A 1, oSgn (A 2) (nI ps'.2)), (A 2, aI ck 200 ps'.1)]) (hF : zF N f f' [A 1, A 2]) : zP b0 N f' (wPr ck A ps') :=
  (hP.jn [1, 2] [0] rfl (by decide) (by simp) (by decide) hF (Nat.le_refl _) h1 (fun _ h => Or.inl h)).eq rfl
theorem zP.prt {f' : Nat → va_E} {ps' : PSt} {n : Nat} {K V R : Nat → Int32} {u : Nat} (hP : zP b0 N f (wPT ck A ps n K V R u)) (h1 : zP b0 N f' (wPr ck A ps')) (hF : zF N f f' [A 1, A 2]) : zP b0 N f' (wPT ck A ps' n K V R u) :=
  ((hP.jn [1, 2] [0, 3, 4, 5, 6] rfl (by decide) (by simp) (by decide) hF (Nat.le_refl _) (h1.sub (wc := [(A 1, oSgn (A 2) (nI ps'.2)), (A 2, aI ck 200 ps'.1)]) [1, 2] (by decide) rfl) (fun _ h => Or.inl h)).sub (wc := wPT ck A ps' n K V R u) [0, 5, 6, 1, 2, 3, 4] (by decide) rfl)
theorem d_Prt_addWord_0 : decode prog_3_method_8_code 0 = .ok (.iconst 0, 1) := by decide +kernel
theorem d_Prt_addWord_1 : decode prog_3_method_8_code 1 = .ok (.istore_n 2, 1) := by decide +kernel
theorem d_Prt_addWord_2 : decode prog_3_method_8_code 2 = .ok (.iload_n 2, 1) := by decide +kernel
theorem d_Prt_addWord_3 : decode prog_3_method_8_code 3 = .ok (.aload_n 1, 1) := by decide +kernel
theorem d_Prt_addWord_4 : decode prog_3_method_8_code 4 = .ok (.invokevirtual 76, 3) := by decide +kernel
theorem d_Prt_addWord_7 : decode prog_3_method_8_code 7 = .ok (.if_icmp .ge 22, 3) := by decide +kernel
theorem d_Prt_addWord_10 : decode prog_3_method_8_code 10 = .ok (.aload_n 0, 1) := by decide +kernel
theorem d_Prt_addWord_11 : decode prog_3_method_8_code 11 = .ok (.getfield 12, 3) := by decide +kernel
theorem d_Prt_addWord_14 : decode prog_3_method_8_code 14 = .ok (.aload_n 1, 1) := by decide +kernel
theorem d_Prt_addWord_15 : decode prog_3_method_8_code 15 = .ok (.iload_n 2, 1) := by decide +kernel
theorem d_Prt_addWord_16 : decode prog_3_method_8_code 16 = .ok (.invokevirtual 82, 3) := by decide +kernel
theorem d_Prt_addWord_19 : decode prog_3_method_8_code 19 = .ok (.invokevirtual 31, 3) := by decide +kernel
theorem d_Prt_addWord_22 : decode prog_3_method_8_code 22 = .ok (.pop, 1) := by decide +kernel
theorem d_Prt_addWord_23 : decode prog_3_method_8_code 23 = .ok (.iinc 2 1, 3) := by decide +kernel
theorem d_Prt_addWord_26 : decode prog_3_method_8_code 26 = .ok (.goto (-24), 3) := by decide +kernel
theorem d_Prt_addWord_29 : decode prog_3_method_8_code 29 = .ok (.return_, 1) := by decide +kernel
theorem zSb_tk {j k : Nat} (h : k < (zSb j).length) : (zSb j).take (k + 1) = (zSb j).take k ++ [(zSb j).getD k 0] := by
  rw [List.take_succ, List.getElem?_eq_getElem h, List.getD_eq_getElem?_getD, List.getElem?_eq_getElem h]
  rfl
set_option maxHeartbeats 4000000 in
set_option maxRecDepth 100000 in
theorem c_Prt_addWord (hP : zP b0 N f (wPr ck A ps)) (hl : ps.2 ≤ 200) {j : Nat} (hj : j < 16) : zK l D ck ad b0 y_Prt_addWord prog_3_method_8_code 3 (none) 4 0 0 [.ref (A 0), .ref (ad.1 j)] N f (fun r N' f' => r = none ∧ N = N' ∧ zP b0 N f' (wPr ck A (pPut (zSb j) ps)) ∧ zF N f f' [A 1, A 2]) := by
  refine zM.of zG_w (by decide) (Nat.le_of_ble_eq_true rfl) ?_
  intro zp ze zst zm zar zbe zme zc X hnm hb0
  have hF : zF N f f [A 1, A 2] := zF.rf
  have hl9 := (zSb_ok j hj).1
  have L2 : ∀ (nn : Nat) (k : Nat) (f1 : Nat → va_E), (k ≤ (zSb j).length ∧ k + nn = (zSb j).length + 1) → zP b0 N f1 (wPr ck A (pPut ((zSb j).take k) ps)) → zF N f f1 [A 1, A 2] → zW zp l ze (zR 4 0 0) zst zm zar zbe zme zc D zcl b0 3 0 0 (MQ zbe (zQ D zcl b0 (fun r N' f' => r = none ∧ N = N' ∧ zP b0 N f' (wPr ck A (pPut (zSb j) ps)) ∧ zF N f f' [A 1, A 2])) zar zst 0 0 (zA b0)) N f1 2 [(0, .ref (A 0)), (1, .ref (ad.1 j)), (2, .int (nI k))] [] := by
    intro nn
    induction nn with
    | zero =>
      intro k f1 hk hP hF
      omega
    | succ nn ih =>
      intro k f1 hk hP hF
      refine z_iload_n X d_Prt_addWord_2 rfl ?_
      refine z_aload_n X d_Prt_addWord_3 rfl ?_
      refine z_callVK X zG_ok (c_String_length hj) d_Prt_addWord_4 ⟨(z_cb (n := 0) X.2.2.2.2.1 ml_Prt_76 mc_String_length ini_String (by decide +kernel) rfl rfl ⟨Nat.le_of_ble_eq_true rfl, Nat.le_of_ble_eq_true rfl⟩), X.2.2.2.2.1 _ im_String_length, X.2.2.2.2.1 _ sel_String_length⟩ (zG_so X.2.2.2.2.2.1 hj) rfl rfl (Nat.le_of_ble_eq_true rfl) ⟨Nat.le_of_ble_eq_true rfl, Nat.le_of_ble_eq_true rfl⟩ (fun r N1 f1 hp hN1 => ?_)
      obtain ⟨rfl, rfl, rfl⟩ := hp
      refine z_icmp_ge X 29 d_Prt_addWord_7 (by decide) (fun h7 => ?_) (fun h7 => ?_)
      · skip
        have hk2 : k = (zSb j).length := by have := (nI_leI (a := (zSb j).length) (b := k) (by omega) (by omega)).mp h7; omega
        subst hk2
        exact z_vret X d_Prt_addWord_29 ⟨rfl, rfl, by rw [List.take_length] at hP; exact hP, hF⟩
      · skip
        have hk2 : k < (zSb j).length := by
          rcases Nat.lt_or_ge k (zSb j).length with z | z
          · exact z
          · exact absurd (nI_le z (by omega)) h7
        refine z_aload_n X d_Prt_addWord_10 rfl ?_
        refine z_get X d_Prt_addWord_11 (hP.lo 0 rfl) (hP.at 0 rfl) cl_Prt in_Prt 0 (by decide) fl_Prt_12 rfl rfl ?_
        refine z_aload_n X d_Prt_addWord_14 rfl ?_
        refine z_iload_n X d_Prt_addWord_15 rfl ?_
        refine z_callVK X zG_ok (c_String_charAt hj (k := k) hk2) d_Prt_addWord_16 ⟨(z_cb (n := 1) X.2.2.2.2.1 ml_Prt_82 mc_String_charAt ini_String (by decide +kernel) rfl rfl ⟨Nat.le_of_ble_eq_true rfl, Nat.le_of_ble_eq_true rfl⟩), X.2.2.2.2.1 _ im_String_charAt, X.2.2.2.2.1 _ sel_String_charAt⟩ (zG_so X.2.2.2.2.2.1 hj) rfl rfl (Nat.le_of_ble_eq_true rfl) ⟨Nat.le_of_ble_eq_true rfl, Nat.le_of_ble_eq_true rfl⟩ (fun r N1 f1 hp hN1 => ?_)
        obtain ⟨rfl, rfl, rfl⟩ := hp
        refine z_callV X zG_ok (c_Sgn_addT (ps := pPut ((zSb j).take k) ps) (hP.sub [1, 2] (by decide) rfl) (by first | exact hl | exact pPut_len hl | exact pPut_len (pPut_len hl))) d_Prt_addWord_19 ⟨(z_cb (n := 1) X.2.2.2.2.1 ml_Prt_31 mc_Sgn_add ini_Sgn (by decide +kernel) rfl rfl ⟨Nat.le_of_ble_eq_true rfl, Nat.le_of_ble_eq_true rfl⟩), X.2.2.2.2.1 _ im_Sgn_add, X.2.2.2.2.1 _ sel_Sgn_add⟩ (hP.lo 1 rfl) (hP.at 1 rfl) cl_Sgn rfl rfl (Nat.le_of_ble_eq_true rfl) ⟨Nat.le_of_ble_eq_true rfl, Nat.le_of_ble_eq_true rfl⟩ (fun r N1 f1 hp hN1 => ?_)
        obtain ⟨⟨y9, rfl⟩, rfl, hP1, hF1⟩ := hp
        have hP := zP.pra (ck := ck) (ps := pPut ((zSb j).take k) ps) hP hP1 hF1
        have hF := hF.join hF1 (Nat.le_refl _) (fun _ h => Or.inl h)
        refine z_pop X d_Prt_addWord_22 rfl ?_
        refine z_iinc X d_Prt_addWord_23 rfl (nI_1 _) (by decide) rfl ?_
        refine z_goto X 2 d_Prt_addWord_26 (by decide) ?_
        refine ih (k + 1) _ (by omega) ?_ hF
        rw [show pPut ((zSb j).take (k + 1)) ps = pAdd (pPut ((zSb j).take k) ps) ((zSb j).getD k 0) by rw [zSb_tk hk2, pPut_app, pPut_1]]
        exact hP
  refine z_iconst X d_Prt_addWord_0 (v := 0) (by decide) ?_
  refine z_istore_n X d_Prt_addWord_1 (by decide) rfl ?_
  exact L2 ((zSb j).length + 1) 0 f (by omega) hP hF
theorem d_Prt_addNumber_0 : decode prog_3_method_7_code 0 = .ok (.ldc 75, 2) := by decide +kernel
theorem d_Prt_addNumber_2 : decode prog_3_method_7_code 2 = .ok (.istore_n 2, 1) := by decide +kernel
theorem d_Prt_addNumber_3 : decode prog_3_method_7_code 3 = .ok (.iload_n 2, 1) := by decide +kernel
theorem d_Prt_addNumber_4 : decode prog_3_method_7_code 4 = .ok (.ifCond .le 38, 3) := by decide +kernel
theorem d_Prt_addNumber_7 : decode prog_3_method_7_code 7 = .ok (.iload_n 1, 1) := by decide +kernel
theorem d_Prt_addNumber_8 : decode prog_3_method_7_code 8 = .ok (.iload_n 2, 1) := by decide +kernel
theorem d_Prt_addNumber_9 : decode prog_3_method_7_code 9 = .ok (.if_icmp .ge 8, 3) := by decide +kernel
theorem d_Prt_addNumber_12 : decode prog_3_method_7_code 12 = .ok (.iload_n 2, 1) := by decide +kernel
theorem d_Prt_addNumber_13 : decode prog_3_method_7_code 13 = .ok (.iconst 1, 1) := by decide +kernel
theorem d_Prt_addNumber_14 : decode prog_3_method_7_code 14 = .ok (.if_icmp .ne 20, 3) := by decide +kernel
theorem d_Prt_addNumber_17 : decode prog_3_method_7_code 17 = .ok (.aload_n 0, 1) := by decide +kernel
theorem d_Prt_addNumber_18 : decode prog_3_method_7_code 18 = .ok (.getfield 12, 3) := by decide +kernel
theorem d_Prt_addNumber_21 : decode prog_3_method_7_code 21 = .ok (.bipush 48, 2) := by decide +kernel
theorem d_Prt_addNumber_23 : decode prog_3_method_7_code 23 = .ok (.iload_n 1, 1) := by decide +kernel
theorem d_Prt_addNumber_24 : decode prog_3_method_7_code 24 = .ok (.iload_n 2, 1) := by decide +kernel
theorem d_Prt_addNumber_25 : decode prog_3_method_7_code 25 = .ok (.idiv, 1) := by decide +kernel
theorem d_Prt_addNumber_26 : decode prog_3_method_7_code 26 = .ok (.bipush 10, 2) := by decide +kernel
theorem d_Prt_addNumber_28 : decode prog_3_method_7_code 28 = .ok (.irem, 1) := by decide +kernel
theorem d_Prt_addNumber_29 : decode prog_3_method_7_code 29 = .ok (.iadd, 1) := by decide +kernel
theorem d_Prt_addNumber_30 : decode prog_3_method_7_code 30 = .ok (.invokevirtual 31, 3) := by decide +kernel
theorem d_Prt_addNumber_33 : decode prog_3_method_7_code 33 = .ok (.pop, 1) := by decide +kernel
theorem d_Prt_addNumber_34 : decode prog_3_method_7_code 34 = .ok (.iload_n 2, 1) := by decide +kernel
theorem d_Prt_addNumber_35 : decode prog_3_method_7_code 35 = .ok (.bipush 10, 2) := by decide +kernel
theorem d_Prt_addNumber_37 : decode prog_3_method_7_code 37 = .ok (.idiv, 1) := by decide +kernel
theorem d_Prt_addNumber_38 : decode prog_3_method_7_code 38 = .ok (.istore_n 2, 1) := by decide +kernel
theorem d_Prt_addNumber_39 : decode prog_3_method_7_code 39 = .ok (.goto (-36), 3) := by decide +kernel
theorem d_Prt_addNumber_42 : decode prog_3_method_7_code 42 = .ok (.return_, 1) := by decide +kernel
set_option maxHeartbeats 4000000 in
set_option maxRecDepth 100000 in
theorem c_Prt_addNumber (hP : zP b0 N f (wPr ck A ps)) (hl : ps.2 ≤ 200) {v : Int32} : zK l D ck ad b0 y_Prt_addNumber prog_3_method_7_code 3 (none) 1 0 0 [.ref (A 0), .int v] N f (fun r N' f' => r = none ∧ N = N' ∧ zP b0 N f' (wPr ck A (pPut (pNum v) ps)) ∧ zF N f f' [A 1, A 2]) := by
  refine zM.of zG_w (by decide) (Nat.le_of_ble_eq_true rfl) ?_
  intro zp ze zst zm zar zbe zme zc X hnm hb0
  have hF : zF N f f [A 1, A 2] := zF.rf
  have L3 : ∀ (nn : Nat) (t : Nat) (f1 : Nat → va_E), (t ≤ 7 ∧ t + nn = 8) → zP b0 N f1 (wPr ck A (pPut (pNumT v t) ps)) → zF N f f1 [A 1, A 2] → zW zp l ze (zR 1 0 0) zst zm zar zbe zme zc D zcl b0 3 0 0 (MQ zbe (zQ D zcl b0 (fun r N' f' => r = none ∧ N = N' ∧ zP b0 N f' (wPr ck A (pPut (pNum v) ps)) ∧ zF N f f' [A 1, A 2])) zar zst 0 0 (zA b0)) N f1 3 [(0, .ref (A 0)), (1, .int v), (2, .int (uN t))] [] := by
    intro nn
    induction nn with
    | zero =>
      intro t f1 ht hP hF
      omega
    | succ nn ih =>
      intro t f1 ht hP hF
      refine z_iload_n X d_Prt_addNumber_3 rfl ?_
      refine z_if_le X 42 d_Prt_addNumber_4 (by decide) (fun h4 => ?_) (fun h4 => ?_)
      · skip
        have ht2 : t = 7 := by
          rcases Nat.lt_or_ge t 7 with z | z
          · exact absurd h4 (uN_p t z).1
          · omega
        subst ht2
        exact z_vret X d_Prt_addNumber_42 ⟨rfl, rfl, hP, hF⟩
      · skip
        have ht2 : t < 7 := by
          rcases Nat.lt_or_ge t 7 with z | z
          · exact z
          · rw [show t = 7 by omega] at h4; exact absurd (by decide) h4
        refine z_iload_n X d_Prt_addNumber_7 rfl ?_
        refine z_iload_n X d_Prt_addNumber_8 rfl ?_
        refine z_icmp_ge X 17 d_Prt_addNumber_9 (by decide) (fun h9 => ?_) (fun h9 => ?_)
        · skip
          have hE : pNumT v (t + 1) = pNumT v t ++ [48 + (v / uN t - v / uN t / 10 * 10)] := by rw [pNumT, if_pos (Or.inl h9)]
          refine z_aload_n X d_Prt_addNumber_17 rfl ?_
          refine z_get X d_Prt_addNumber_18 (hP.lo 0 rfl) (hP.at 0 rfl) cl_Prt in_Prt 0 (by decide) fl_Prt_12 rfl rfl ?_
          refine z_bipush X d_Prt_addNumber_21 (v := 48) (by decide) ?_
          refine z_iload_n X d_Prt_addNumber_23 rfl ?_
          refine z_iload_n X d_Prt_addNumber_24 rfl ?_
          refine z_idiv X d_Prt_addNumber_25 (uN_p t ht2).2.1 ?_
          refine z_bipush X d_Prt_addNumber_26 (v := 10) (by decide) ?_
          refine z_irem X d_Prt_addNumber_28 (by decide) ?_
          refine z_iadd X d_Prt_addNumber_29 ?_
          refine z_callV X zG_ok (c_Sgn_addT (ps := pPut (pNumT v t) ps) (hP.sub [1, 2] (by decide) rfl) (by first | exact hl | exact pPut_len hl | exact pPut_len (pPut_len hl))) d_Prt_addNumber_30 ⟨(z_cb (n := 1) X.2.2.2.2.1 ml_Prt_31 mc_Sgn_add ini_Sgn (by decide +kernel) rfl rfl ⟨Nat.le_of_ble_eq_true rfl, Nat.le_of_ble_eq_true rfl⟩), X.2.2.2.2.1 _ im_Sgn_add, X.2.2.2.2.1 _ sel_Sgn_add⟩ (hP.lo 1 rfl) (hP.at 1 rfl) cl_Sgn rfl rfl (Nat.le_of_ble_eq_true rfl) ⟨Nat.le_of_ble_eq_true rfl, Nat.le_of_ble_eq_true rfl⟩ (fun r N1 f1 hp hN1 => ?_)
          obtain ⟨⟨y9, rfl⟩, rfl, hP1, hF1⟩ := hp
          have hP := zP.pra (ck := ck) (ps := pPut (pNumT v t) ps) hP hP1 hF1
          have hF := hF.join hF1 (Nat.le_refl _) (fun _ h => Or.inl h)
          refine z_pop X d_Prt_addNumber_33 rfl ?_
          refine z_iload_n X d_Prt_addNumber_34 rfl ?_
          refine z_bipush X d_Prt_addNumber_35 (v := 10) (by decide) ?_
          refine z_idiv X d_Prt_addNumber_37 (by decide) ?_
          refine z_istore_n X d_Prt_addNumber_38 (by decide) rfl ?_
          refine z_goto X 3 d_Prt_addNumber_39 (by decide) ?_
          refine zW.pick [0, 1, 2] (lv' := [(0, .ref (A 0)), (1, .int v), (2, .int (uN (t + 1)))]) (by rw [← (uN_p t ht2).2.2]; rfl) ?_
          refine ih (t + 1) _ (by omega) ?_ hF
          rw [hE]
          first | exact hP | (rw [pPut_app, pPut_1]; exact hP)
        · skip
          refine z_iload_n X d_Prt_addNumber_12 rfl ?_
          refine z_iconst X d_Prt_addNumber_13 (v := 1) (by decide) ?_
          refine z_icmp_ne X 34 d_Prt_addNumber_14 (by decide) (fun h14 => ?_) (fun h14 => ?_)
          · skip
            have hE : pNumT v (t + 1) = pNumT v t := by rw [pNumT, if_neg (fun z => z.elim h9 h14), List.append_nil]
            refine z_iload_n X d_Prt_addNumber_34 rfl ?_
            refine z_bipush X d_Prt_addNumber_35 (v := 10) (by decide) ?_
            refine z_idiv X d_Prt_addNumber_37 (by decide) ?_
            refine z_istore_n X d_Prt_addNumber_38 (by decide) rfl ?_
            refine z_goto X 3 d_Prt_addNumber_39 (by decide) ?_
            refine zW.pick [0, 1, 2] (lv' := [(0, .ref (A 0)), (1, .int v), (2, .int (uN (t + 1)))]) (by rw [← (uN_p t ht2).2.2]; rfl) ?_
            refine ih (t + 1) _ (by omega) ?_ hF
            rw [hE]
            first | exact hP | (rw [pPut_app, pPut_1]; exact hP)
          · skip
            have hE : pNumT v (t + 1) = pNumT v t ++ [48 + (v / uN t - v / uN t / 10 * 10)] := by rw [pNumT, if_pos (Or.inr h14)]
            refine z_aload_n X d_Prt_addNumber_17 rfl ?_
            refine z_get X d_Prt_addNumber_18 (hP.lo 0 rfl) (hP.at 0 rfl) cl_Prt in_Prt 0 (by decide) fl_Prt_12 rfl rfl ?_
            refine z_bipush X d_Prt_addNumber_21 (v := 48) (by decide) ?_
            refine z_iload_n X d_Prt_addNumber_23 rfl ?_
            refine z_iload_n X d_Prt_addNumber_24 rfl ?_
            refine z_idiv X d_Prt_addNumber_25 (uN_p t ht2).2.1 ?_
            refine z_bipush X d_Prt_addNumber_26 (v := 10) (by decide) ?_
            refine z_irem X d_Prt_addNumber_28 (by decide) ?_
            refine z_iadd X d_Prt_addNumber_29 ?_
            refine z_callV X zG_ok (c_Sgn_addT (ps := pPut (pNumT v t) ps) (hP.sub [1, 2] (by decide) rfl) (by first | exact hl | exact pPut_len hl | exact pPut_len (pPut_len hl))) d_Prt_addNumber_30 ⟨(z_cb (n := 1) X.2.2.2.2.1 ml_Prt_31 mc_Sgn_add ini_Sgn (by decide +kernel) rfl rfl ⟨Nat.le_of_ble_eq_true rfl, Nat.le_of_ble_eq_true rfl⟩), X.2.2.2.2.1 _ im_Sgn_add, X.2.2.2.2.1 _ sel_Sgn_add⟩ (hP.lo 1 rfl) (hP.at 1 rfl) cl_Sgn rfl rfl (Nat.le_of_ble_eq_true rfl) ⟨Nat.le_of_ble_eq_true rfl, Nat.le_of_ble_eq_true rfl⟩ (fun r N1 f1 hp hN1 => ?_)
            obtain ⟨⟨y9, rfl⟩, rfl, hP1, hF1⟩ := hp
            have hP := zP.pra (ck := ck) (ps := pPut (pNumT v t) ps) hP hP1 hF1
            have hF := hF.join hF1 (Nat.le_refl _) (fun _ h => Or.inl h)
            refine z_pop X d_Prt_addNumber_33 rfl ?_
            refine z_iload_n X d_Prt_addNumber_34 rfl ?_
            refine z_bipush X d_Prt_addNumber_35 (v := 10) (by decide) ?_
            refine z_idiv X d_Prt_addNumber_37 (by decide) ?_
            refine z_istore_n X d_Prt_addNumber_38 (by decide) rfl ?_
            refine z_goto X 3 d_Prt_addNumber_39 (by decide) ?_
            refine zW.pick [0, 1, 2] (lv' := [(0, .ref (A 0)), (1, .int v), (2, .int (uN (t + 1)))]) (by rw [← (uN_p t ht2).2.2]; rfl) ?_
            refine ih (t + 1) _ (by omega) ?_ hF
            rw [hE]
            first | exact hP | (rw [pPut_app, pPut_1]; exact hP)
  refine z_ldc X d_Prt_addNumber_0 k_Prt_75 ?_
  refine z_istore_n X d_Prt_addNumber_2 (by decide) rfl ?_
  exact L3 8 0 f (by omega) hP hF
theorem d_Prt_addSignOf_0 : decode prog_3_method_9_code 0 = .ok (.iload_n 1, 1) := by decide +kernel
theorem d_Prt_addSignOf_1 : decode prog_3_method_9_code 1 = .ok (.ifCond .lt 26, 3) := by decide +kernel
theorem d_Prt_addSignOf_4 : decode prog_3_method_9_code 4 = .ok (.iload_n 1, 1) := by decide +kernel
theorem d_Prt_addSignOf_5 : decode prog_3_method_9_code 5 = .ok (.ldc 86, 2) := by decide +kernel
theorem d_Prt_addSignOf_7 : decode prog_3_method_9_code 7 = .ok (.invokevirtual 76, 3) := by decide +kernel
theorem d_Prt_addSignOf_10 : decode prog_3_method_9_code 10 = .ok (.if_icmp .ge 17, 3) := by decide +kernel
theorem d_Prt_addSignOf_13 : decode prog_3_method_9_code 13 = .ok (.aload_n 0, 1) := by decide +kernel
theorem d_Prt_addSignOf_14 : decode prog_3_method_9_code 14 = .ok (.getfield 12, 3) := by decide +kernel
theorem d_Prt_addSignOf_17 : decode prog_3_method_9_code 17 = .ok (.ldc 86, 2) := by decide +kernel
theorem d_Prt_addSignOf_19 : decode prog_3_method_9_code 19 = .ok (.iload_n 1, 1) := by decide +kernel
theorem d_Prt_addSignOf_20 : decode prog_3_method_9_code 20 = .ok (.invokevirtual 82, 3) := by decide +kernel
theorem d_Prt_addSignOf_23 : decode prog_3_method_9_code 23 = .ok (.invokevirtual 31, 3) := by decide +kernel
theorem d_Prt_addSignOf_26 : decode prog_3_method_9_code 26 = .ok (.pop, 1) := by decide +kernel
theorem d_Prt_addSignOf_27 : decode prog_3_method_9_code 27 = .ok (.return_, 1) := by decide +kernel
set_option maxHeartbeats 4000000 in
set_option maxRecDepth 100000 in
theorem c_Prt_addSignOf (hP : zP b0 N f (wPr ck A ps)) (hl : ps.2 ≤ 200) {kd : Int32} : zK l D ck ad b0 y_Prt_addSignOf prog_3_method_9_code 2 (none) 4 0 0 [.ref (A 0), .int kd] N f (fun r N' f' => r = none ∧ N = N' ∧ zP b0 N f' (wPr ck A (pPut (pSig kd) ps)) ∧ zF N f f' [A 1, A 2]) := by
  refine zM.of zG_w (by decide) (Nat.le_of_ble_eq_true rfl) ?_
  intro zp ze zst zm zar zbe zme zc X hnm hb0
  have hF : zF N f f [A 1, A 2] := zF.rf
  refine z_iload_n X d_Prt_addSignOf_0 rfl ?_
  refine z_if_lt X 27 d_Prt_addSignOf_1 (by decide) (fun h1 => ?_) (fun h1 => ?_)
  · skip
    have e9 : pSig kd = [] := by rw [pSig, if_pos h1]
    exact z_vret X d_Prt_addSignOf_27 ⟨rfl, rfl, by rw [e9]; exact hP, hF⟩
  · skip
    refine z_iload_n X d_Prt_addSignOf_4 rfl ?_
    refine z_ldcS X d_Prt_addSignOf_5 (zG_sr (j := 14) X.2.2.2.2.2.1 (by decide)) ?_
    refine z_callVK X zG_ok (c_String_length (j := 14) (by decide)) d_Prt_addSignOf_7 ⟨(z_cb (n := 0) X.2.2.2.2.1 ml_Prt_76 mc_String_length ini_String (by decide +kernel) rfl rfl ⟨Nat.le_of_ble_eq_true rfl, Nat.le_of_ble_eq_true rfl⟩), X.2.2.2.2.1 _ im_String_length, X.2.2.2.2.1 _ sel_String_length⟩ (zG_so (j := 14) X.2.2.2.2.2.1 (by decide)) rfl rfl (Nat.le_of_ble_eq_true rfl) ⟨Nat.le_of_ble_eq_true rfl, Nat.le_of_ble_eq_true rfl⟩ (fun r N1 f1 hp hN1 => ?_)
    obtain ⟨rfl, rfl, rfl⟩ := hp
    refine z_icmp_ge X 27 d_Prt_addSignOf_10 (by decide) (fun h10 => ?_) (fun h10 => ?_)
    · skip
      have h10 : 11 ≤ kd := h10
      have e9 : pSig kd = [] := by rw [pSig, if_neg h1, if_pos h10]
      exact z_vret X d_Prt_addSignOf_27 ⟨rfl, rfl, by rw [e9]; exact hP, hF⟩
    · skip
      have h10 : ¬ 11 ≤ kd := h10
      have e9 : pSig kd = [(zSb 14).getD kd.toNatClampNeg 0] := by rw [pSig, if_neg h1, if_neg h10]
      obtain ⟨k9, hk8, rfl⟩ := nI_of h1
      have hk9 : k9 < (zSb 14).length := by
        rcases Nat.lt_or_ge k9 11 with z | z
        · exact z
        · exact absurd (nI_le (a := 11) z hk8) h10
      rw [nI_clamp hk8] at e9
      refine z_aload_n X d_Prt_addSignOf_13 rfl ?_
      refine z_get X d_Prt_addSignOf_14 (hP.lo 0 rfl) (hP.at 0 rfl) cl_Prt in_Prt 0 (by decide) fl_Prt_12 rfl rfl ?_
      refine z_ldcS X d_Prt_addSignOf_17 (zG_sr (j := 14) X.2.2.2.2.2.1 (by decide)) ?_
      refine z_iload_n X d_Prt_addSignOf_19 rfl ?_
      refine z_callVK X zG_ok (c_String_charAt (j := 14) (by decide) (k := k9) hk9) d_Prt_addSignOf_20 ⟨(z_cb (n := 1) X.2.2.2.2.1 ml_Prt_82 mc_String_charAt ini_String (by decide +kernel) rfl rfl ⟨Nat.le_of_ble_eq_true rfl, Nat.le_of_ble_eq_true rfl⟩), X.2.2.2.2.1 _ im_String_charAt, X.2.2.2.2.1 _ sel_String_charAt⟩ (zG_so (j := 14) X.2.2.2.2.2.1 (by decide)) rfl rfl (Nat.le_of_ble_eq_true rfl) ⟨Nat.le_of_ble_eq_true rfl, Nat.le_of_ble_eq_true rfl⟩ (fun r N1 f1 hp hN1 => ?_)
      obtain ⟨rfl, rfl, rfl⟩ := hp
      refine z_callV X zG_ok (c_Sgn_addT (ps := ps) (hP.sub [1, 2] (by decide) rfl) (by first | exact hl | exact pPut_len hl | exact pPut_len (pPut_len hl))) d_Prt_addSignOf_23 ⟨(z_cb (n := 1) X.2.2.2.2.1 ml_Prt_31 mc_Sgn_add ini_Sgn (by decide +kernel) rfl rfl ⟨Nat.le_of_ble_eq_true rfl, Nat.le_of_ble_eq_true rfl⟩), X.2.2.2.2.1 _ im_Sgn_add, X.2.2.2.2.1 _ sel_Sgn_add⟩ (hP.lo 1 rfl) (hP.at 1 rfl) cl_Sgn rfl rfl (Nat.le_of_ble_eq_true rfl) ⟨Nat.le_of_ble_eq_true rfl, Nat.le_of_ble_eq_true rfl⟩ (fun r N1 f1 hp hN1 => ?_)
      obtain ⟨⟨y9, rfl⟩, rfl, hP1, hF1⟩ := hp
      have hP := zP.pra (ck := ck) (ps := ps) hP hP1 hF1
      have hF := hF.join hF1 (Nat.le_refl _) (fun _ h => Or.inl h)
      refine z_pop X d_Prt_addSignOf_26 rfl ?_
      exact z_vret X d_Prt_addSignOf_27 ⟨rfl, rfl, by rw [e9]; exact hP, hF⟩
theorem d_Prt_needsBrackets_0 : decode prog_3_method_5_code 0 = .ok (.iload_n 0, 1) := by decide +kernel
theorem d_Prt_needsBrackets_1 : decode prog_3_method_5_code 1 = .ok (.tableswitch 75 0 2 #[61, 42, 27], 27) := by decide +kernel
theorem d_Prt_needsBrackets_28 : decode prog_3_method_5_code 28 = .ok (.iload_n 1, 1) := by decide +kernel
theorem d_Prt_needsBrackets_29 : decode prog_3_method_5_code 29 = .ok (.ifCond .eq 8, 3) := by decide +kernel
theorem d_Prt_needsBrackets_32 : decode prog_3_method_5_code 32 = .ok (.iload_n 1, 1) := by decide +kernel
theorem d_Prt_needsBrackets_33 : decode prog_3_method_5_code 33 = .ok (.iconst 1, 1) := by decide +kernel
theorem d_Prt_needsBrackets_34 : decode prog_3_method_5_code 34 = .ok (.if_icmp .ne 7, 3) := by decide +kernel
theorem d_Prt_needsBrackets_37 : decode prog_3_method_5_code 37 = .ok (.iconst 1, 1) := by decide +kernel
theorem d_Prt_needsBrackets_38 : decode prog_3_method_5_code 38 = .ok (.goto 4, 3) := by decide +kernel
theorem d_Prt_needsBrackets_41 : decode prog_3_method_5_code 41 = .ok (.iconst 0, 1) := by decide +kernel
theorem d_Prt_needsBrackets_42 : decode prog_3_method_5_code 42 = .ok (.ireturn, 1) := by decide +kernel
theorem d_Prt_needsBrackets_43 : decode prog_3_method_5_code 43 = .ok (.iload_n 1, 1) := by decide +kernel
theorem d_Prt_needsBrackets_44 : decode prog_3_method_5_code 44 = .ok (.ifCond .eq 12, 3) := by decide +kernel
theorem d_Prt_needsBrackets_47 : decode prog_3_method_5_code 47 = .ok (.iload_n 1, 1) := by decide +kernel
theorem d_Prt_needsBrackets_48 : decode prog_3_method_5_code 48 = .ok (.iconst 1, 1) := by decide +kernel
theorem d_Prt_needsBrackets_49 : decode prog_3_method_5_code 49 = .ok (.if_icmp .ne 11, 3) := by decide +kernel
theorem d_Prt_needsBrackets_52 : decode prog_3_method_5_code 52 = .ok (.iload_n 2, 1) := by decide +kernel
theorem d_Prt_needsBrackets_53 : decode prog_3_method_5_code 53 = .ok (.ifCond .eq 7, 3) := by decide +kernel
theorem d_Prt_needsBrackets_56 : decode prog_3_method_5_code 56 = .ok (.iconst 1, 1) := by decide +kernel
theorem d_Prt_needsBrackets_57 : decode prog_3_method_5_code 57 = .ok (.goto 4, 3) := by decide +kernel
theorem d_Prt_needsBrackets_60 : decode prog_3_method_5_code 60 = .ok (.iconst 0, 1) := by decide +kernel
theorem d_Prt_needsBrackets_61 : decode prog_3_method_5_code 61 = .ok (.ireturn, 1) := by decide +kernel
theorem d_Prt_needsBrackets_62 : decode prog_3_method_5_code 62 = .ok (.iload_n 1, 1) := by decide +kernel
theorem d_Prt_needsBrackets_63 : decode prog_3_method_5_code 63 = .ok (.ifCond .ne 11, 3) := by decide +kernel
theorem d_Prt_needsBrackets_66 : decode prog_3_method_5_code 66 = .ok (.iload_n 2, 1) := by decide +kernel
theorem d_Prt_needsBrackets_67 : decode prog_3_method_5_code 67 = .ok (.ifCond .eq 7, 3) := by decide +kernel
theorem d_Prt_needsBrackets_70 : decode prog_3_method_5_code 70 = .ok (.iconst 1, 1) := by decide +kernel
theorem d_Prt_needsBrackets_71 : decode prog_3_method_5_code 71 = .ok (.goto 4, 3) := by decide +kernel
theorem d_Prt_needsBrackets_74 : decode prog_3_method_5_code 74 = .ok (.iconst 0, 1) := by decide +kernel
theorem d_Prt_needsBrackets_75 : decode prog_3_method_5_code 75 = .ok (.ireturn, 1) := by decide +kernel
theorem d_Prt_needsBrackets_76 : decode prog_3_method_5_code 76 = .ok (.iconst 0, 1) := by decide +kernel
theorem d_Prt_needsBrackets_77 : decode prog_3_method_5_code 77 = .ok (.ireturn, 1) := by decide +kernel
set_option maxHeartbeats 4000000 in
set_option maxRecDepth 100000 in
theorem c_Prt_needsBrackets {kd b : Int32} {bb : Bool} : zK l D ck ad b0 y_Prt_needsBrackets prog_3_method_5_code 3 ((some FieldType.boolean)) 0 0 0 [.int kd, .int b, .int (zb bb)] N f (fun r N' f' => r = some (.int (zb (pBr kd b bb))) ∧ N = N' ∧ f = f') := by
  refine zM.of zG_w (by decide) (Nat.le_of_ble_eq_true rfl) ?_
  intro zp ze zst zm zar zbe zme zc X hnm hb0
  refine z_iload_n X d_Prt_needsBrackets_0 rfl ?_
  refine z_tableL X 76 [62, 43, 28] d_Prt_needsBrackets_1 (by decide) (by decide) (by decide) (fun i hi hx => ?_) (fun hd => ?_) (by decide)
  · match i, hi, hx with
    | 0, _, hx =>
      have g1 : _ = (0 : Int32) := hx
      have g1 : kd = 0 := g1
      subst g1
      refine zW.topc (pc' := 62) rfl ?_
      refine z_iload_n X d_Prt_needsBrackets_62 rfl ?_
      refine z_if_ne X 74 d_Prt_needsBrackets_63 (by decide) (fun h63 => ?_) (fun h63 => ?_)
      · skip
        refine z_iconst X d_Prt_needsBrackets_74 (v := 0) (by decide) ?_
        exact z_zret X d_Prt_needsBrackets_75 rfl ⟨by first | (rw [h63, g5]; rfl) | (simp [pBr, h63]; rfl), rfl, rfl⟩
      · skip
        refine z_iload_n X d_Prt_needsBrackets_66 rfl ?_
        refine z_if_eq X 74 d_Prt_needsBrackets_67 (by decide) (fun h67 => ?_) (fun h67 => ?_)
        · skip
          have g5 : bb = false := zb_0.mp h67
          refine z_iconst X d_Prt_needsBrackets_74 (v := 0) (by decide) ?_
          exact z_zret X d_Prt_needsBrackets_75 rfl ⟨by first | (rw [h63, g5]; rfl) | (simp [pBr, h63]; rfl), rfl, rfl⟩
        · skip
          have g5 : bb = true := by
            cases bb
            · exact absurd rfl h67
            · rfl
          refine z_iconst X d_Prt_needsBrackets_70 (v := 1) (by decide) ?_
          refine z_goto X 75 d_Prt_needsBrackets_71 (by decide) ?_
          exact z_zret X d_Prt_needsBrackets_75 rfl ⟨by first | (rw [h63, g5]; rfl) | (simp [pBr, h63]; rfl), rfl, rfl⟩
    | 1, _, hx =>
      have g1 : _ = (1 : Int32) := hx
      have g1 : kd = 1 := g1
      subst g1
      refine zW.topc (pc' := 43) rfl ?_
      refine z_iload_n X d_Prt_needsBrackets_43 rfl ?_
      refine z_if_eq X 56 d_Prt_needsBrackets_44 (by decide) (fun h44 => ?_) (fun h44 => ?_)
      · skip
        refine z_iconst X d_Prt_needsBrackets_56 (v := 1) (by decide) ?_
        refine z_goto X 61 d_Prt_needsBrackets_57 (by decide) ?_
        exact z_zret X d_Prt_needsBrackets_61 rfl ⟨by first | (rw [h44]; rfl) | (rw [h49, g5]; rfl) | (simp [pBr, h44, h49]; rfl), rfl, rfl⟩
      · skip
        refine z_iload_n X d_Prt_needsBrackets_47 rfl ?_
        refine z_iconst X d_Prt_needsBrackets_48 (v := 1) (by decide) ?_
        refine z_icmp_ne X 60 d_Prt_needsBrackets_49 (by decide) (fun h49 => ?_) (fun h49 => ?_)
        · skip
          refine z_iconst X d_Prt_needsBrackets_60 (v := 0) (by decide) ?_
          exact z_zret X d_Prt_needsBrackets_61 rfl ⟨by first | (rw [h44]; rfl) | (rw [h49, g5]; rfl) | (simp [pBr, h44, h49]; rfl), rfl, rfl⟩
        · skip
          refine z_iload_n X d_Prt_needsBrackets_52 rfl ?_
          refine z_if_eq X 60 d_Prt_needsBrackets_53 (by decide) (fun h53 => ?_) (fun h53 => ?_)
          · skip
            have g5 : bb = false := zb_0.mp h53
            refine z_iconst X d_Prt_needsBrackets_60 (v := 0) (by decide) ?_
            exact z_zret X d_Prt_needsBrackets_61 rfl ⟨by first | (rw [h44]; rfl) | (rw [h49, g5]; rfl) | (simp [pBr, h44, h49]; rfl), rfl, rfl⟩
          · skip
            have g5 : bb = true := by
              cases bb
              · exact absurd rfl h53
              · rfl
            refine z_iconst X d_Prt_needsBrackets_56 (v := 1) (by decide) ?_
            refine z_goto X 61 d_Prt_needsBrackets_57 (by decide) ?_
            exact z_zret X d_Prt_needsBrackets_61 rfl ⟨by first | (rw [h44]; rfl) | (rw [h49, g5]; rfl) | (simp [pBr, h44, h49]; rfl), rfl, rfl⟩
    | 2, _, hx =>
      have g1 : _ = (2 : Int32) := hx
      have g1 : kd = 2 := g1
      subst g1
      refine zW.topc (pc' := 28) rfl ?_
      refine z_iload_n X d_Prt_needsBrackets_28 rfl ?_
      refine z_if_eq X 37 d_Prt_needsBrackets_29 (by decide) (fun h29 => ?_) (fun h29 => ?_)
      · skip
        refine z_iconst X d_Prt_needsBrackets_37 (v := 1) (by decide) ?_
        refine z_goto X 42 d_Prt_needsBrackets_38 (by decide) ?_
        exact z_zret X d_Prt_needsBrackets_42 rfl ⟨by first | (rw [h29]; rfl) | (rw [h34]; rfl) | (simp [pBr, h29, h34]; rfl), rfl, rfl⟩
      · skip
        refine z_iload_n X d_Prt_needsBrackets_32 rfl ?_
        refine z_iconst X d_Prt_needsBrackets_33 (v := 1) (by decide) ?_
        refine z_icmp_ne X 41 d_Prt_needsBrackets_34 (by decide) (fun h34 => ?_) (fun h34 => ?_)
        · skip
          refine z_iconst X d_Prt_needsBrackets_41 (v := 0) (by decide) ?_
          exact z_zret X d_Prt_needsBrackets_42 rfl ⟨by first | (rw [h29]; rfl) | (rw [h34]; rfl) | (simp [pBr, h29, h34]; rfl), rfl, rfl⟩
        · skip
          refine z_iconst X d_Prt_needsBrackets_37 (v := 1) (by decide) ?_
          refine z_goto X 42 d_Prt_needsBrackets_38 (by decide) ?_
          exact z_zret X d_Prt_needsBrackets_42 rfl ⟨by first | (rw [h29]; rfl) | (rw [h34]; rfl) | (simp [pBr, h29, h34]; rfl), rfl, rfl⟩
    | j + 3, hi, _ => exact absurd hi (by simp)
  · skip
    have g1_0 : ¬ _ = (0 : Int32) := hd 0 (by decide)
    have g1_1 : ¬ _ = (1 : Int32) := hd 1 (by decide)
    have g1_2 : ¬ _ = (2 : Int32) := hd 2 (by decide)
    refine z_iconst X d_Prt_needsBrackets_76 (v := 0) (by decide) ?_
    exact z_zret X d_Prt_needsBrackets_77 rfl ⟨by rw [pBr, if_neg g1_2, if_neg g1_1, if_neg g1_0]; rfl, rfl, rfl⟩
end
end
