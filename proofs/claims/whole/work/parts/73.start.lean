/-! what holds at the law's entry -/
def lwF : List Cond := flatC (Jvm.Cond.and given_1 narrow_1)
def lwS (own : String) (k : Nat) (bs : List Int32) (i : Nat) : Prop :=
  lwF[i]? = some (Cond.exactly (.string own k) "java/lang/String") ∧ lwF[i + 1]? = some (Cond.eq (.field (.string own k) "java/lang/String" "coder" "B") (.int 0)) ∧ lwF[i + 2]? = some (Cond.arrayOf (.field (.string own k) "java/lang/String" "value" "[B") .byte) ∧ lwF[i + 3]? = some (Cond.eq (.length (.field (.string own k) "java/lang/String" "value" "[B")) (.int (Int32.ofNat bs.length))) ∧
    ∀ j, j < bs.length → lwF[i + 4 + j]? = some (Cond.eq (.elem (.field (.string own k) "java/lang/String" "value" "[B") (.int (Int32.ofNat j))) (.int (bs.getD j 0)))
theorem lwS_of {s : State} {A : Array Value} {own tx : String} {k i b0 : Nat} {bs : List Int32} (h : lwS own k bs i) (hF : ∀ w ∈ lwF, w.before A s = true) (hr : (Cond.stringRef own k tx).before A s = true) (hl : bs.length < 2 ^ 31) (hA : ∀ a : Nat, a < s.heap.size → ¬ zA b0 a) : ∃ q : Nat × Nat, vk_R own k tx q.1 s ∧ va_O "java/lang/String" q.1 (zA b0) s s.heap ∧ va_OF "java/lang/String" "coder" "B" (.int 0) q.1 (zA b0) s s.heap ∧ va_OF "java/lang/String" "value" "[B" (.ref q.2) q.1 (zA b0) s s.heap ∧ va_T .byte q.2 bs.length (fun k => .int (bs.getD k 0)) (zA b0) s s.heap := by
  obtain ⟨w1, w2, w3, w4, w5⟩ := h
  obtain ⟨aK, aV, hS, he⟩ := vk_Sof (args := A) (s := s) (N := 1) (tm := fun _ => Term.string own k) (len := [bs.length]) (byt := [bs]) (A := zA b0) (fun i hi => by obtain rfl : i = 0 := (by omega); exact hl) (fun i hi => hF _ (List.mem_of_getElem? w1)) (fun i hi => hF _ (List.mem_of_getElem? w2)) (fun i hi => hF _ (List.mem_of_getElem? w3)) (fun i hi => by obtain rfl : i = 0 := (by omega); exact hF _ (List.mem_of_getElem? w4)) (fun i hi j hj => by obtain rfl : i = 0 := (by omega); exact hF _ (List.mem_of_getElem? (w5 j hj))) (fun i j hi hj hn => absurd (show i = j by omega) hn) hA
  obtain ⟨g1, g2, g3, g4⟩ := hS.1 0 (by omega)
  exact ⟨(aK 0, aV 0), vk_R.of hr (he 0 (by omega)), g1, g2, g3, g4⟩
theorem lwS_0 : lwS "CheckRules" 60 [116, 104, 101, 114, 101, 32, 97, 114, 101, 32, 50, 48, 32, 114, 117, 108, 101, 115] 44 := by unfold lwS; decide +kernel
theorem lwR_0 : Cond.stringRef "CheckRules" 60 "there are 20 rules" ∈ lw_tbl := List.mem_of_getElem? (i := 477) (by decide +kernel)
theorem lwS_1 : lwS "CheckRules$Reader" 147 [102] 66 := by unfold lwS; decide +kernel
theorem lwR_1 : Cond.stringRef "CheckRules$Reader" 147 "f" ∈ lw_tbl := List.mem_of_getElem? (i := 539) (by decide +kernel)
theorem lwS_2 : lwS "CheckRules$Reader" 153 [97, 108, 108] 72 := by unfold lwS; decide +kernel
theorem lwR_2 : Cond.stringRef "CheckRules$Reader" 153 "all" ∈ lw_tbl := List.mem_of_getElem? (i := 592) (by decide +kernel)
theorem lwS_3 : lwS "CheckRules$Reader" 155 [97, 110, 121] 81 := by unfold lwS; decide +kernel
theorem lwR_3 : Cond.stringRef "CheckRules$Reader" 155 "any" ∈ lw_tbl := List.mem_of_getElem? (i := 593) (by decide +kernel)
theorem lwS_4 : lwS "CheckRules$Reader" 157 [115, 117, 109] 91 := by unfold lwS; decide +kernel
theorem lwR_4 : Cond.stringRef "CheckRules$Reader" 157 "sum" ∈ lw_tbl := List.mem_of_getElem? (i := 594) (by decide +kernel)
theorem lwS_5 : lwS "CheckRules$Reader" 159 [99, 111, 117, 110, 116] 102 := by unfold lwS; decide +kernel
theorem lwR_5 : Cond.stringRef "CheckRules$Reader" 159 "count" ∈ lw_tbl := List.mem_of_getElem? (i := 595) (by decide +kernel)
theorem lwS_6 : lwS "CheckRules$Reader" 121 [124, 38, 33, 32, 32, 60, 62, 61, 35, 43, 45] 116 := by unfold lwS; decide +kernel
theorem lwR_6 : Cond.stringRef "CheckRules$Reader" 121 "|&!  <>=#+-" ∈ lw_tbl := List.mem_of_getElem? (i := 632) (by decide +kernel)
theorem lwS_7 : lwS "CheckRules" 123 [110, 111, 32, 115, 117, 99, 104, 32, 114, 117, 108, 101] 137 := by unfold lwS; decide +kernel
theorem lwR_7 : Cond.stringRef "CheckRules" 123 "no such rule" ∈ lw_tbl := List.mem_of_getElem? (i := 794) (by decide +kernel)
theorem lwS_8 : lwS "CheckRules" 140 [110, 111, 32, 115, 117, 99, 104, 32, 102, 105, 101, 108, 100] 160 := by unfold lwS; decide +kernel
theorem lwR_8 : Cond.stringRef "CheckRules" 140 "no such field" ∈ lw_tbl := List.mem_of_getElem? (i := 815) (by decide +kernel)
theorem lwS_9 : lwS "CheckRules" 155 [110, 111, 32, 115, 117, 99, 104, 32, 114, 117, 108, 101, 44, 32, 110, 111, 100, 101, 32, 111, 114, 32, 119, 104, 97, 116] 185 := by unfold lwS; decide +kernel
theorem lwR_9 : Cond.stringRef "CheckRules" 155 "no such rule, node or what" ∈ lw_tbl := List.mem_of_getElem? (i := 839) (by decide +kernel)
theorem lwS_10 : lwS "CheckRules$Printer" 42 [97, 108, 108, 40] 224 := by unfold lwS; decide +kernel
theorem lwR_10 : Cond.stringRef "CheckRules$Printer" 42 "all(" ∈ lw_tbl := List.mem_of_getElem? (i := 877) (by decide +kernel)
theorem lwS_11 : lwS "CheckRules$Printer" 44 [97, 110, 121, 40] 242 := by unfold lwS; decide +kernel
theorem lwR_11 : Cond.stringRef "CheckRules$Printer" 44 "any(" ∈ lw_tbl := List.mem_of_getElem? (i := 878) (by decide +kernel)
theorem lwS_12 : lwS "CheckRules$Printer" 68 [115, 117, 109, 32] 261 := by unfold lwS; decide +kernel
theorem lwR_12 : Cond.stringRef "CheckRules$Printer" 68 "sum " ∈ lw_tbl := List.mem_of_getElem? (i := 890) (by decide +kernel)
theorem lwS_13 : lwS "CheckRules$Printer" 70 [99, 111, 117, 110, 116, 32] 281 := by unfold lwS; decide +kernel
theorem lwR_13 : Cond.stringRef "CheckRules$Printer" 70 "count " ∈ lw_tbl := List.mem_of_getElem? (i := 891) (by decide +kernel)
theorem lwS_14 : lwS "CheckRules$Printer" 86 [124, 38, 33, 32, 32, 60, 62, 61, 35, 43, 45] 304 := by unfold lwS; decide +kernel
theorem lwR_14 : Cond.stringRef "CheckRules$Printer" 86 "|&!  <>=#+-" ∈ lw_tbl := List.mem_of_getElem? (i := 901) (by decide +kernel)
theorem lwS_15 : lwS "CheckRules" 181 [110, 111, 32, 115, 117, 99, 104, 32, 115, 105, 103, 110] 333 := by unfold lwS; decide +kernel
theorem lwR_15 : Cond.stringRef "CheckRules" 181 "no such sign" ∈ lw_tbl := List.mem_of_getElem? (i := 910) (by decide +kernel)
theorem lw_str {s : State} {A : Array Value} {b0 : Nat} (hF : ∀ w ∈ lwF, w.before A s = true) (hts : ∀ w ∈ lw_tbl, w.before A s = true) (hA : ∀ a : Nat, a < s.heap.size → ¬ zA b0 a) : ∃ ad, zStr ad b0 s := by
  have h0 : ∀ j : Nat, ∃ q : Nat × Nat, j < 16 → vk_R (zSo j) (zSi j) (zSt j) q.1 s ∧ va_O "java/lang/String" q.1 (zA b0) s s.heap ∧ va_OF "java/lang/String" "coder" "B" (.int 0) q.1 (zA b0) s s.heap ∧ va_OF "java/lang/String" "value" "[B" (.ref q.2) q.1 (zA b0) s s.heap ∧ va_T .byte q.2 (zSb j).length (fun k => .int ((zSb j).getD k 0)) (zA b0) s s.heap := by
    intro j
    match j with
    | 0 => obtain ⟨q, h⟩ := lwS_of lwS_0 hF (hts _ lwR_0) (by decide) hA; exact ⟨q, fun _ => h⟩
    | 1 => obtain ⟨q, h⟩ := lwS_of lwS_1 hF (hts _ lwR_1) (by decide) hA; exact ⟨q, fun _ => h⟩
    | 2 => obtain ⟨q, h⟩ := lwS_of lwS_2 hF (hts _ lwR_2) (by decide) hA; exact ⟨q, fun _ => h⟩
    | 3 => obtain ⟨q, h⟩ := lwS_of lwS_3 hF (hts _ lwR_3) (by decide) hA; exact ⟨q, fun _ => h⟩
    | 4 => obtain ⟨q, h⟩ := lwS_of lwS_4 hF (hts _ lwR_4) (by decide) hA; exact ⟨q, fun _ => h⟩
    | 5 => obtain ⟨q, h⟩ := lwS_of lwS_5 hF (hts _ lwR_5) (by decide) hA; exact ⟨q, fun _ => h⟩
    | 6 => obtain ⟨q, h⟩ := lwS_of lwS_6 hF (hts _ lwR_6) (by decide) hA; exact ⟨q, fun _ => h⟩
    | 7 => obtain ⟨q, h⟩ := lwS_of lwS_7 hF (hts _ lwR_7) (by decide) hA; exact ⟨q, fun _ => h⟩
    | 8 => obtain ⟨q, h⟩ := lwS_of lwS_8 hF (hts _ lwR_8) (by decide) hA; exact ⟨q, fun _ => h⟩
    | 9 => obtain ⟨q, h⟩ := lwS_of lwS_9 hF (hts _ lwR_9) (by decide) hA; exact ⟨q, fun _ => h⟩
    | 10 => obtain ⟨q, h⟩ := lwS_of lwS_10 hF (hts _ lwR_10) (by decide) hA; exact ⟨q, fun _ => h⟩
    | 11 => obtain ⟨q, h⟩ := lwS_of lwS_11 hF (hts _ lwR_11) (by decide) hA; exact ⟨q, fun _ => h⟩
    | 12 => obtain ⟨q, h⟩ := lwS_of lwS_12 hF (hts _ lwR_12) (by decide) hA; exact ⟨q, fun _ => h⟩
    | 13 => obtain ⟨q, h⟩ := lwS_of lwS_13 hF (hts _ lwR_13) (by decide) hA; exact ⟨q, fun _ => h⟩
    | 14 => obtain ⟨q, h⟩ := lwS_of lwS_14 hF (hts _ lwR_14) (by decide) hA; exact ⟨q, fun _ => h⟩
    | 15 => obtain ⟨q, h⟩ := lwS_of lwS_15 hF (hts _ lwR_15) (by decide) hA; exact ⟨q, fun _ => h⟩
    | j + 16 => exact ⟨(0, 0), fun h => absurd h (by omega)⟩
  obtain ⟨g, hg⟩ := Classical.axiomOfChoice h0
  exact ⟨(fun j => (g j).1, fun j => (g j).2), fun j hj => hg j hj⟩
theorem lwN_0 : Cond.methodLinkNest "CheckRules" 11 ⟨"CheckRules$Reader", "<init>", "()V"⟩ "CheckRules" ∈ lw_tbl ∧ (Cond.methodLinkNest "CheckRules" 11 ⟨"CheckRules$Reader", "<init>", "()V"⟩ "CheckRules").onTables = true := ⟨List.mem_of_getElem? (i := 95) (by decide +kernel), rfl⟩
theorem lwN_1 : Cond.methodLinkNest "CheckRules$Reader" 11 ⟨"CheckRules$Signs", "<init>", "()V"⟩ "CheckRules" ∈ lw_tbl ∧ (Cond.methodLinkNest "CheckRules$Reader" 11 ⟨"CheckRules$Signs", "<init>", "()V"⟩ "CheckRules").onTables = true := ⟨List.mem_of_getElem? (i := 101) (by decide +kernel), rfl⟩
theorem lwN_2 : Cond.fieldLinkNest "CheckRules" 48 "CheckRules$Reader" "text" "LCheckRules$Signs;" "CheckRules" ∈ lw_tbl ∧ (Cond.fieldLinkNest "CheckRules" 48 "CheckRules$Reader" "text" "LCheckRules$Signs;" "CheckRules").onTables = true := ⟨List.mem_of_getElem? (i := 133) (by decide +kernel), rfl⟩
theorem lwN_3 : Cond.methodLinkNest "CheckRules" 20 ⟨"CheckRules$Worker", "<init>", "()V"⟩ "CheckRules" ∈ lw_tbl ∧ (Cond.methodLinkNest "CheckRules" 20 ⟨"CheckRules$Worker", "<init>", "()V"⟩ "CheckRules").onTables = true := ⟨List.mem_of_getElem? (i := 178) (by decide +kernel), rfl⟩
theorem lwN_4 : Cond.fieldLinkNest "CheckRules" 98 "CheckRules$Worker" "declaration" "LCheckRules$Declaration;" "CheckRules" ∈ lw_tbl ∧ (Cond.fieldLinkNest "CheckRules" 98 "CheckRules$Worker" "declaration" "LCheckRules$Declaration;" "CheckRules").onTables = true := ⟨List.mem_of_getElem? (i := 197) (by decide +kernel), rfl⟩
theorem lwN_5 : Cond.methodLinkNest "CheckRules" 27 ⟨"CheckRules$Printer", "<init>", "()V"⟩ "CheckRules" ∈ lw_tbl ∧ (Cond.methodLinkNest "CheckRules" 27 ⟨"CheckRules$Printer", "<init>", "()V"⟩ "CheckRules").onTables = true := ⟨List.mem_of_getElem? (i := 209) (by decide +kernel), rfl⟩
theorem lwN_6 : Cond.methodLinkNest "CheckRules$Printer" 11 ⟨"CheckRules$Signs", "<init>", "()V"⟩ "CheckRules" ∈ lw_tbl ∧ (Cond.methodLinkNest "CheckRules$Printer" 11 ⟨"CheckRules$Signs", "<init>", "()V"⟩ "CheckRules").onTables = true := ⟨List.mem_of_getElem? (i := 214) (by decide +kernel), rfl⟩
theorem lwN_7 : Cond.fieldLinkNest "CheckRules" 174 "CheckRules$Printer" "printed" "LCheckRules$Signs;" "CheckRules" ∈ lw_tbl ∧ (Cond.fieldLinkNest "CheckRules" 174 "CheckRules$Printer" "printed" "LCheckRules$Signs;" "CheckRules").onTables = true := ⟨List.mem_of_getElem? (i := 216) (by decide +kernel), rfl⟩
theorem lwN_8 : Cond.fieldLinkNest "CheckRules" 129 "CheckRules$Rule" "tree" "LCheckRules$Tree;" "CheckRules" ∈ lw_tbl ∧ (Cond.fieldLinkNest "CheckRules" 129 "CheckRules$Rule" "tree" "LCheckRules$Tree;" "CheckRules").onTables = true := ⟨List.mem_of_getElem? (i := 745) (by decide +kernel), rfl⟩
theorem lwN_9 : Cond.fieldLinkNest "CheckRules" 83 "CheckRules$Rule" "group" "I" "CheckRules" ∈ lw_tbl ∧ (Cond.fieldLinkNest "CheckRules" 83 "CheckRules$Rule" "group" "I" "CheckRules").onTables = true := ⟨List.mem_of_getElem? (i := 747) (by decide +kernel), rfl⟩
theorem lwN_10 : Cond.fieldLinkNest "CheckRules" 86 "CheckRules$Rule" "hard" "Z" "CheckRules" ∈ lw_tbl ∧ (Cond.fieldLinkNest "CheckRules" 86 "CheckRules$Rule" "hard" "Z" "CheckRules").onTables = true := ⟨List.mem_of_getElem? (i := 749) (by decide +kernel), rfl⟩
theorem lwN_11 : Cond.fieldLinkNest "CheckRules" 93 "CheckRules$Rule" "firstDay" "I" "CheckRules" ∈ lw_tbl ∧ (Cond.fieldLinkNest "CheckRules" 93 "CheckRules$Rule" "firstDay" "I" "CheckRules").onTables = true := ⟨List.mem_of_getElem? (i := 751) (by decide +kernel), rfl⟩
theorem lwN_12 : Cond.fieldLinkNest "CheckRules" 126 "CheckRules$Rule" "latest" "I" "CheckRules" ∈ lw_tbl ∧ (Cond.fieldLinkNest "CheckRules" 126 "CheckRules$Rule" "latest" "I" "CheckRules").onTables = true := ⟨List.mem_of_getElem? (i := 753) (by decide +kernel), rfl⟩
theorem lwN_13 : Cond.fieldLinkNest "CheckRules" 147 "CheckRules$Rule" "met" "Z" "CheckRules" ∈ lw_tbl ∧ (Cond.fieldLinkNest "CheckRules" 147 "CheckRules$Rule" "met" "Z" "CheckRules").onTables = true := ⟨List.mem_of_getElem? (i := 755) (by decide +kernel), rfl⟩
theorem lwN_14 : Cond.fieldLinkNest "CheckRules" 137 "CheckRules$Rule" "answered" "Z" "CheckRules" ∈ lw_tbl ∧ (Cond.fieldLinkNest "CheckRules" 137 "CheckRules$Rule" "answered" "Z" "CheckRules").onTables = true := ⟨List.mem_of_getElem? (i := 757) (by decide +kernel), rfl⟩
theorem lwN_15 : Cond.fieldLinkNest "CheckRules" 193 "CheckRules$Rule" "faulty" "Z" "CheckRules" ∈ lw_tbl ∧ (Cond.fieldLinkNest "CheckRules" 193 "CheckRules$Rule" "faulty" "Z" "CheckRules").onTables = true := ⟨List.mem_of_getElem? (i := 759) (by decide +kernel), rfl⟩
theorem lwN_16 : Cond.castable "java/lang/IllegalStateException" "java/lang/IllegalStateException" ∈ lw_tbl ∧ (Cond.castable "java/lang/IllegalStateException" "java/lang/IllegalStateException").onTables = true := ⟨List.mem_of_getElem? (i := 438) (by decide +kernel), rfl⟩
theorem lwN_17 : Cond.castable "[I" "java/lang/Cloneable" ∈ lw_tbl ∧ (Cond.castable "[I" "java/lang/Cloneable").onTables = true := ⟨List.mem_of_getElem? (i := 734) (by decide +kernel), rfl⟩
theorem lwN_18 : Cond.castable "java/lang/IllegalArgumentException" "java/lang/IllegalArgumentException" ∈ lw_tbl ∧ (Cond.castable "java/lang/IllegalArgumentException" "java/lang/IllegalArgumentException").onTables = true := ⟨List.mem_of_getElem? (i := 787) (by decide +kernel), rfl⟩
theorem lwN_19 : Cond.castable "java/lang/IndexOutOfBoundsException" "java/lang/IndexOutOfBoundsException" ∈ lw_tbl ∧ (Cond.castable "java/lang/IndexOutOfBoundsException" "java/lang/IndexOutOfBoundsException").onTables = true := ⟨List.mem_of_getElem? (i := 832) (by decide +kernel), rfl⟩
theorem lwN_20 : Cond.declares ⟨"java/lang/RuntimeException", "<init>", "()V"⟩ ∈ lw_tbl ∧ (Cond.declares ⟨"java/lang/RuntimeException", "<init>", "()V"⟩).onTables = true := ⟨List.mem_of_getElem? (i := 439) (by decide +kernel), rfl⟩
theorem lwN_21 : Cond.declares ⟨"java/lang/RuntimeException", "<init>", "(Ljava/lang/String;)V"⟩ ∈ lw_tbl ∧ (Cond.declares ⟨"java/lang/RuntimeException", "<init>", "(Ljava/lang/String;)V"⟩).onTables = true := ⟨List.mem_of_getElem? (i := 440) (by decide +kernel), rfl⟩
theorem lwN_22 : Cond.declares ⟨"java/lang/Exception", "<init>", "()V"⟩ ∈ lw_tbl ∧ (Cond.declares ⟨"java/lang/Exception", "<init>", "()V"⟩).onTables = true := ⟨List.mem_of_getElem? (i := 441) (by decide +kernel), rfl⟩
theorem lwN_23 : Cond.declares ⟨"java/lang/Exception", "<init>", "(Ljava/lang/String;)V"⟩ ∈ lw_tbl ∧ (Cond.declares ⟨"java/lang/Exception", "<init>", "(Ljava/lang/String;)V"⟩).onTables = true := ⟨List.mem_of_getElem? (i := 442) (by decide +kernel), rfl⟩
theorem lwN_24 : Cond.declares ⟨"java/lang/Throwable", "<init>", "()V"⟩ ∈ lw_tbl ∧ (Cond.declares ⟨"java/lang/Throwable", "<init>", "()V"⟩).onTables = true := ⟨List.mem_of_getElem? (i := 443) (by decide +kernel), rfl⟩
theorem lwN_25 : Cond.declares ⟨"java/lang/Throwable", "<init>", "(Ljava/lang/String;)V"⟩ ∈ lw_tbl ∧ (Cond.declares ⟨"java/lang/Throwable", "<init>", "(Ljava/lang/String;)V"⟩).onTables = true := ⟨List.mem_of_getElem? (i := 444) (by decide +kernel), rfl⟩
theorem lwN_all : ∀ w ∈ zNs, w ∈ lw_tbl ∧ w.onTables = true := List.forall_mem_cons.mpr ⟨lwN_0, List.forall_mem_cons.mpr ⟨lwN_1, List.forall_mem_cons.mpr ⟨lwN_2, List.forall_mem_cons.mpr ⟨lwN_3, List.forall_mem_cons.mpr ⟨lwN_4, List.forall_mem_cons.mpr ⟨lwN_5, List.forall_mem_cons.mpr ⟨lwN_6, List.forall_mem_cons.mpr ⟨lwN_7, List.forall_mem_cons.mpr ⟨lwN_8, List.forall_mem_cons.mpr ⟨lwN_9, List.forall_mem_cons.mpr ⟨lwN_10, List.forall_mem_cons.mpr ⟨lwN_11, List.forall_mem_cons.mpr ⟨lwN_12, List.forall_mem_cons.mpr ⟨lwN_13, List.forall_mem_cons.mpr ⟨lwN_14, List.forall_mem_cons.mpr ⟨lwN_15, List.forall_mem_cons.mpr ⟨lwN_16, List.forall_mem_cons.mpr ⟨lwN_17, List.forall_mem_cons.mpr ⟨lwN_18, List.forall_mem_cons.mpr ⟨lwN_19, List.forall_mem_cons.mpr ⟨lwN_20, List.forall_mem_cons.mpr ⟨lwN_21, List.forall_mem_cons.mpr ⟨lwN_22, List.forall_mem_cons.mpr ⟨lwN_23, List.forall_mem_cons.mpr ⟨lwN_24, List.forall_mem_cons.mpr ⟨lwN_25, fun _ h => absurd h List.not_mem_nil⟩⟩⟩⟩⟩⟩⟩⟩⟩⟩⟩⟩⟩⟩⟩⟩⟩⟩⟩⟩⟩⟩⟩⟩⟩⟩
theorem lwL_0 : Cond.laysStatic "java/lang/Throwable" "UNASSIGNED_STACK" "[Ljava/lang/StackTraceElement;" ∈ lw_tbl := List.mem_of_getElem? (i := 463) (by decide +kernel)
theorem lwI_0 : Cond.initialized "java/lang/Throwable" ∈ lw_tbl := List.mem_of_getElem? (i := 71) (by decide +kernel)
theorem lwV_0 : Cond.isRef (.static "java/lang/Throwable" "UNASSIGNED_STACK" "[Ljava/lang/StackTraceElement;") ∈ lwF := List.mem_of_getElem? (i := 4) (by decide +kernel)
theorem lwL_1 : Cond.laysStatic "java/lang/Throwable" "SUPPRESSED_SENTINEL" "Ljava/util/List;" ∈ lw_tbl := List.mem_of_getElem? (i := 465) (by decide +kernel)
theorem lwI_1 : Cond.initialized "java/lang/Throwable" ∈ lw_tbl := List.mem_of_getElem? (i := 71) (by decide +kernel)
theorem lwV_1 : Cond.isRef (.static "java/lang/Throwable" "SUPPRESSED_SENTINEL" "Ljava/util/List;") ∈ lwF := List.mem_of_getElem? (i := 5) (by decide +kernel)
theorem lwL_2 : Cond.laysStatic "java/lang/String" "COMPACT_STRINGS" "Z" ∈ lw_tbl := List.mem_of_getElem? (i := 553) (by decide +kernel)
theorem lwI_2 : Cond.initialized "java/lang/String" ∈ lw_tbl := List.mem_of_getElem? (i := 75) (by decide +kernel)
theorem lwV_2 : Cond.eq (.static "java/lang/String" "COMPACT_STRINGS" "Z") (.int 1) ∈ lwF := List.mem_of_getElem? (i := 6) (by decide +kernel)
theorem lwL_3 : Cond.laysStatic "jdk/internal/util/Preconditions" "SIOOBE_FORMATTER" "Ljava/util/function/BiFunction;" ∈ lw_tbl := List.mem_of_getElem? (i := 569) (by decide +kernel)
theorem lwI_3 : Cond.initialized "jdk/internal/util/Preconditions" ∈ lw_tbl := List.mem_of_getElem? (i := 77) (by decide +kernel)
theorem lwV_3 : Cond.isRef (.static "jdk/internal/util/Preconditions" "SIOOBE_FORMATTER" "Ljava/util/function/BiFunction;") ∈ lwF := List.mem_of_getElem? (i := 7) (by decide +kernel)
theorem lwAO : Cond.arrayOver (.object "CheckRules$Rule") ∈ lw_tbl := List.mem_of_getElem? (i := 221) (by decide +kernel)
theorem lw_zG {s : State} {A : Array Value} {b0 : Nat} (hF : ∀ w ∈ lwF, w.before A s = true) (hts : ∀ w ∈ lw_tbl, w.before A s = true) (hA : ∀ a : Nat, a < s.heap.size → ¬ zA b0 a) : ∃ ad, zG ad b0 s := by
  obtain ⟨ad, had⟩ := lw_str hF hts hA
  refine ⟨ad, fun w hw => word_at (State.WarmedH.refl s) (zTs_good w hw) (hts w (List.mem_filter.mp hw).1), fun w hw => va_Nw.of (lwN_all w hw).2 (hts w (lwN_all w hw).1), va_AO.of (hts _ lwAO), had, ?_, ⟨?_, ?_⟩, ⟨?_, ?_⟩, ?_⟩
  · exact va_Zof (hts _ lwL_2) (hts _ lwI_2) (va_eqt (hF _ lwV_2)) hA
  · exact va_Zqof (hts _ lwL_0) (hts _ lwI_0) (hF _ lwV_0) hA
  · exact hts _ lwL_0
  · exact va_Zqof (hts _ lwL_1) (hts _ lwI_1) (hF _ lwV_1) hA
  · exact hts _ lwL_1
  · exact va_Zqof (hts _ lwL_3) (hts _ lwI_3) (hF _ lwV_3) hA
theorem lw_va {s : State} {A : Array Value} (hts : ∀ w ∈ zTs, w.before A s = true) (hao : (Cond.arrayOver (.object "CheckRules$Rule")).before A s = true) : ∃ (D : va_G) (ck : Nat → ClassId), va_K D zcl (zty ck) s := by
  have h0 : ∀ c : Nat, ∃ q : ClassId × (Nat → Nat), ∀ x : vw_C, zcl[c]? = some x → u_Kn s x.1 x.2.1 x.2.2 q.1 q.2 := by
    intro c
    match c with
    | 0 =>
      obtain ⟨a, i, h⟩ := u_known hts in_Decl (hts _ ins_Decl)
      refine ⟨(a, i), fun x hx => ?_⟩
      obtain rfl : (R_Decl, F_Decl, _) = x := Option.some.inj hx
      exact h
    | 1 =>
      obtain ⟨a, i, h⟩ := u_known hts in_Prt (hts _ ins_Prt)
      refine ⟨(a, i), fun x hx => ?_⟩
      obtain rfl : (R_Prt, F_Prt, _) = x := Option.some.inj hx
      exact h
    | 2 =>
      obtain ⟨a, i, h⟩ := u_known hts in_Rdr (hts _ ins_Rdr)
      refine ⟨(a, i), fun x hx => ?_⟩
      obtain rfl : (R_Rdr, F_Rdr, _) = x := Option.some.inj hx
      exact h
    | 3 =>
      obtain ⟨a, i, h⟩ := u_known hts in_Rul (hts _ ins_Rul)
      refine ⟨(a, i), fun x hx => ?_⟩
      obtain rfl : (R_Rul, F_Rul, _) = x := Option.some.inj hx
      exact h
    | 4 =>
      obtain ⟨a, i, h⟩ := u_known hts in_Sgn (hts _ ins_Sgn)
      refine ⟨(a, i), fun x hx => ?_⟩
      obtain rfl : (R_Sgn, F_Sgn, _) = x := Option.some.inj hx
      exact h
    | 5 =>
      obtain ⟨a, i, h⟩ := u_known hts in_Tre (hts _ ins_Tre)
      refine ⟨(a, i), fun x hx => ?_⟩
      obtain rfl : (R_Tre, F_Tre, _) = x := Option.some.inj hx
      exact h
    | 6 =>
      obtain ⟨a, i, h⟩ := u_known hts in_Wrk (hts _ ins_Wrk)
      refine ⟨(a, i), fun x hx => ?_⟩
      obtain rfl : (R_Wrk, F_Wrk, _) = x := Option.some.inj hx
      exact h
    | 7 =>
      obtain ⟨a, i, h⟩ := u_known hts in_Cls (hts _ ins_Cls)
      refine ⟨(a, i), fun x hx => ?_⟩
      obtain rfl : (R_Cls, F_Cls, _) = x := Option.some.inj hx
      exact h
    | 8 =>
      obtain ⟨a, i, h⟩ := u_known hts in_Mod (hts _ ins_Mod)
      refine ⟨(a, i), fun x hx => ?_⟩
      obtain rfl : (R_Mod, F_Mod, _) = x := Option.some.inj hx
      exact h
    | 9 =>
      obtain ⟨a, i, h⟩ := u_known hts in_ISE (hts _ ins_ISE)
      refine ⟨(a, i), fun x hx => ?_⟩
      obtain rfl : (R_ISE, F_ISE, _) = x := Option.some.inj hx
      exact h
    | 10 =>
      obtain ⟨a, i, h⟩ := u_known hts in_IAE (hts _ ins_IAE)
      refine ⟨(a, i), fun x hx => ?_⟩
      obtain rfl : (R_IAE, F_IAE, _) = x := Option.some.inj hx
      exact h
    | 11 =>
      obtain ⟨a, i, h⟩ := u_known hts in_IOE (hts _ ins_IOE)
      refine ⟨(a, i), fun x hx => ?_⟩
      obtain rfl : (R_IOE, F_IOE, _) = x := Option.some.inj hx
      exact h
    | c + 12 =>
      obtain ⟨a, i, h⟩ := u_known hts in_Decl (hts _ ins_Decl)
      exact ⟨(a, i), fun x hx => by cases hx⟩
  obtain ⟨g, hg⟩ := Classical.axiomOfChoice h0
  obtain ⟨c0, k0, p0, a0, b0, d0⟩ := Cond.arrayClass_spec (hts _ ac_int)
  obtain ⟨c1, k1, p1, a1, b1, d1⟩ := Cond.arrayClass_spec (hts _ ac_boolean)
  obtain ⟨c2, k2, p2, a2, b2, d2⟩ := Cond.arrayClass_spec (hts _ ac_long)
  obtain ⟨c4, k4, p4, a4, b4, d4⟩ := Cond.arrayClass_spec (hts _ ac_byte)
  obtain ⟨p3, c3, k3, a3, -, b3, d3, e3⟩ := Cond.arrayOver_spec hao
  refine ⟨(fun c => (g c).1, fun c => (g c).2), fun j => match j with | 0 => c0 | 1 => c1 | 2 => c2 | 3 => c3 | _ => c4, fun c q hq => hg c q hq, fun k q hq => ?_⟩
  match k, hq with
  | 0, hq =>
    obtain rfl := Option.some.inj hq
    exact ⟨fun n z => ⟨fun k h => (by cases h), k0, b0, p0, d0⟩, a0⟩
  | 1, hq =>
    obtain rfl := Option.some.inj hq
    exact ⟨fun n z => ⟨fun k h => (by cases h), k1, b1, p1, d1⟩, a1⟩
  | 2, hq =>
    obtain rfl := Option.some.inj hq
    exact ⟨fun n z => ⟨fun k h => (by cases h), k2, b2, p2, d2⟩, a2⟩
  | 3, hq =>
    obtain rfl := Option.some.inj hq
    exact ⟨fun n z => ⟨fun k h => (by cases h), k3, b3, p3, d3⟩, ⟨k3, p3, b3, d3, a3, e3⟩⟩
  | 4, hq =>
    obtain rfl := Option.some.inj hq
    exact ⟨fun n z => ⟨fun k h => (by cases h), k4, b4, p4, d4⟩, a4⟩
  | k + 5, hq => cases hq
/-- from the entry, for every script of at most 2048 ints, the law comes to its end with true -/
theorem whole_start {p : Program} {e : Env} {s : State} {m : MethodId} {below : List Frame} {meth : Method} {c : Code} (l : Launch) (hfl : l.flags = flags0) {b L : Nat} {xs : Nat → Int32} (hL : L ≤ 2048) (C0 : lw_At p s m meth c b L xs) : W p l e room_1 s m #[Value.ref b] below meth c s.heap [] 0 0 (lw_Z below #[Value.ref b] s) (entryFrame m ([Value.ref b] : List Value).toArray 7) := by
  obtain ⟨h1, h2, h3, h4, h5, h6, h7, h8, h9, h10⟩ := C0
  have hF : ∀ w ∈ lwF, w.before #[Value.ref b] s = true := flat_of_before _ h10
  have hT : ∀ w ∈ zTs, w.before #[Value.ref b] s = true := fun w hw => h6 w (List.mem_filter.mp hw).1
  obtain ⟨ad, hG⟩ := lw_zG (b0 := s.heap.size) hF h6 (fun a h q => by have q : s.heap.size ≤ a := q; omega)
  obtain ⟨D, ck, hK⟩ := lw_va hT (h6 _ lwAO)
  have X : zX p s m #[Value.ref b] meth c D zcl (zty ck) s.heap.size (zG ad s.heap.size) code 7 "CheckRulesLaw" zTs ret := ⟨h1, h2, h4, h5, hT, hG, hK, h3, h9, Nat.le_refl _⟩
  have hLv := lv_entry [Value.ref b] (n := 7) (Nat.le_of_ble_eq_true rfl)
  rw [lg_entry_eq]
  exact lw_init (l := l) (e := e) (below := below) (f := fun _ => zjk) X (fun e ha => Launch.traces_off hfl ha) h7 h8 rfl hL s.heap [] _ ⟨rfl, fun a q1 q2 => absurd q2 (by omega)⟩ va_S.rf hLv
set_option maxHeartbeats 4000000 in
theorem lw_walk (l : Launch) (hfl : l.flags = flags0) (b : Addr) (xs : List Int32) : MetFree l x (headSpec (Jvm.Cond.code x code maxLocals ret :: tables_1) room_1) (lw_P b xs) (fun _ _ _ _ _ => True) lw_Q := by
  refine MetFree.of_bodyS (code := code) (maxLocals := maxLocals) (ret := ret) (by decide) ?_ ?_
  · intro args s m h hn
    obtain ⟨meth, c, h1, h2, h3, h4, h5, h6, -, -⟩ := Cond.code_spec hn (atoms_spec (ws := Jvm.Cond.code x code maxLocals ret :: tables_1) h _ List.mem_cons_self)
    exact ⟨meth, c, h1, h2, h3, h4, h5, h6⟩
  · intro p e s m args below meth c s₁ B hml0 hP _
    obtain ⟨rfl, hx, hbd, hgv⟩ := hP
    obtain ⟨scr, harrAt, hlist, hof, hsmall⟩ := hx
    obtain ⟨hcb, hkn, -, -⟩ := State.arrayAt?_spec harrAt
    have hown : s.vm.findClass R_law = some m.cls := findClass_of_methodNamed B.named
    have hts0 : ∀ c ∈ (Jvm.Cond.code x code maxLocals ret :: tables_1), c.before #[Value.ref b] s = true := atoms_spec (ws := Jvm.Cond.code x code maxLocals ret :: tables_1) B.pre
    have hts : ∀ w ∈ lw_tbl, w.before #[Value.ref b] s = true := k2_hts_sels lw_privs (fun w hw => hts0 w (List.mem_cons_of_mem _ hw)) lw_privs_ok
    have hml : c.maxLocals = 7 := B.maxLocals_eq (hts0 _ List.mem_cons_self)
    have X₀ : Stand p l e room_1 s m #[Value.ref b] below meth c s₁ [] 0 0 := Stand.of_body B
    have hh0 : s₁.heap = s.heap := by rw [B.state]; rfl
    have hsz : scr.slots.size = xs.length := by rw [← Array.length_toList, hlist, List.length_map]
    have hval : ∀ j : Nat, j < xs.length → scr.slots[j]? = some (.int (xs.getD j 0)) := fun j hj => by
      rw [← Array.getElem?_toList, hlist]
      simp [hj]
    have hbl : b < s.heap.size := (Array.getElem?_eq_some_iff.mp hcb).1
    have hX : va_X b xs.length (fun j => xs.getD j 0) s s.heap := ⟨scr, hcb, hof, hkn, hsz, hval⟩
    have K : W p l e room_1 s m #[Value.ref b] below meth c s₁.heap [] 0 0 (lw_Z below #[Value.ref b] s) (entryFrame m ([Value.ref b] : List Value).toArray 7) := by
      rw [hh0]
      exact whole_start l hfl hbd ⟨B.exec, B.bytes, B.returns, hml, hown, hts, hX, hbl, B.notSynchronized, hgv⟩
    obtain ⟨t, a1, o, b1, b2, b3⟩ := K s₁ rfl X₀
    exact ⟨t, o, a1, b1, b2, b3⟩
theorem lw_pre_spec {args : Array Value} {s : State} (h : (Jvm.Cond.and given_1 narrow_1).before args s = true) (hr : rest_1_c.before args s = true) : ∃ (b : Addr) (xs : List Int32), lw_P b xs args s := by
  have hs := flat_of_before _ h
  have hq := flat_of_before _ hr
  have hc : (Cond.count 1).before args s = true := hs _ (by decide +kernel)
  have harr : (Cond.arrayOf (.arg 0) .int).before args s = true := hs _ (by decide +kernel)
  have hle : (Cond.le (.length (.arg 0)) (.int 2048)).before args s = true := hs _ (by decide +kernel)
  have hlen : (Cond.isInt (.length (.arg 0))).before args s = true := hq _ (by decide +kernel)
  have hall : (Cond.all (.arg 0) (.isInt (.elem (.arg 0) (.index 0)))).before args s = true := hq _ (by decide +kernel)
  obtain ⟨b, xs, hb, hx⟩ := State.ints_of_pre rfl harr hlen hall
  have hsm : xs.length < 2 ^ 31 := hx.choose_spec.2.2.2
  have hev : (Term.length (.arg 0)).eval args s none [] s = some (.int xs.length.toInt32) := hx.length_eval hb
  have hv := Cond.le_ints hev (show (Term.int 2048).eval args s none [] s = some (.int 2048) from rfl)
  have hd : xs.length.toInt32 ≤ 2048 := by
    simpa [Cond.before, Cond.holds, hv] using hle
  have hN : xs.length ≤ 2048 := (Int32.ofNat_le_ofNat hsm (by decide)).mp (show Int32.ofNat xs.length ≤ Int32.ofNat 2048 from hd)
  exact ⟨b, xs, Cond.one_arg hc (show args[0]? = some (.ref b) from hb), hx, hN, h⟩
theorem lw_comes (l : Launch) (hfl : l.flags = flags0) : Comes l x (Jvm.Cond.code x code maxLocals ret :: tables_1) room_1 (fun tb e args s => Calls_1 tb e args s ∧ rest_1 tb e args s ∧ Pre_1 tb e args s)
    (fun _ _ args s o t => lw_Q args s o t) := by
  intro p e ha hc hk s m args below hf hfit hheap happ hpre
  obtain ⟨b, xs, hP⟩ := lw_pre_spec hpre.2.2 hpre.2.1
  obtain ⟨k, o, h1, h2, h3, hQ⟩ := lw_walk l hfl b xs p e ha hc hk s m args below hf ((Spec.applies_iff_loose hf).mp happ).1 hP trivial
  exact ⟨k, o, h1, h2, h3, hQ⟩
theorem lw_frame {s t : State} {o : Outcome} {args : Array Value} (h : Framed s o t [] 601024 7293034) :
    Framed s o t (fieldLocs frame_1_writes args s ++ arrayLocs frame_1_arrays args s ++ staticLocs frame_1_statics s) 601024 7293034 := h
theorem lw_limb (L : Cond) (hL : ∀ (args : Array Value) (s t : State), L.after args s (.returned (some (.int 1))) t = true) :
    ArmFor flags0 classFile x code maxLocals ret World_1 tables_1 room_1 Calls_1 rest_1 Pre_1
      (fun tb e a s o t => postC L tb e a s o t ∧ Framed s o t (fieldLocs frame_1_writes a s ++ arrayLocs frame_1_arrays a s ++ staticLocs frame_1_statics s) 601024 7293034) := by
  intro l hfl _ _ p e ha hc hk s m args below hf hfit hheap happ hpre
  obtain ⟨k, o, h1, h2, h3, rfl, hF⟩ := lw_comes l hfl p e ha hc hk s m args below hf hfit hheap happ hpre
  exact ⟨k, _, h1, h2, h3, hL args s _, lw_frame hF⟩
theorem i_vc : Claimed_1_1 ∧ Claimed_1_2 := ⟨lw_limb limb_1_1 (fun args s t => by simp [limb_1_1, Cond.after, Cond.holds, Cond.value]), lw_limb limb_1_2 (fun args s t => Cond.after_iff.mpr (by
  first | (rw [show limb_1_2 = Cond.eq .result (.int 1) from rfl, Cond.eq_ints (x := 1) (y := 1) rfl rfl]; simp; done) | (simp [limb_1_2, Cond.value, Term.eval]; done)))⟩
