/-- links between nest mates -/
def zNs : List Cond := [Cond.methodLinkNest "CheckRules" 11 ⟨"CheckRules$Reader", "<init>", "()V"⟩ "CheckRules", Cond.methodLinkNest "CheckRules$Reader" 11 ⟨"CheckRules$Signs", "<init>", "()V"⟩ "CheckRules", Cond.fieldLinkNest "CheckRules" 48 "CheckRules$Reader" "text" "LCheckRules$Signs;" "CheckRules", Cond.methodLinkNest "CheckRules" 20 ⟨"CheckRules$Worker", "<init>", "()V"⟩ "CheckRules", Cond.fieldLinkNest "CheckRules" 98 "CheckRules$Worker" "declaration" "LCheckRules$Declaration;" "CheckRules", Cond.methodLinkNest "CheckRules" 27 ⟨"CheckRules$Printer", "<init>", "()V"⟩ "CheckRules", Cond.methodLinkNest "CheckRules$Printer" 11 ⟨"CheckRules$Signs", "<init>", "()V"⟩ "CheckRules", Cond.fieldLinkNest "CheckRules" 174 "CheckRules$Printer" "printed" "LCheckRules$Signs;" "CheckRules", Cond.fieldLinkNest "CheckRules" 129 "CheckRules$Rule" "tree" "LCheckRules$Tree;" "CheckRules", Cond.fieldLinkNest "CheckRules" 83 "CheckRules$Rule" "group" "I" "CheckRules", Cond.fieldLinkNest "CheckRules" 86 "CheckRules$Rule" "hard" "Z" "CheckRules", Cond.fieldLinkNest "CheckRules" 93 "CheckRules$Rule" "firstDay" "I" "CheckRules", Cond.fieldLinkNest "CheckRules" 126 "CheckRules$Rule" "latest" "I" "CheckRules", Cond.fieldLinkNest "CheckRules" 147 "CheckRules$Rule" "met" "Z" "CheckRules", Cond.fieldLinkNest "CheckRules" 137 "CheckRules$Rule" "answered" "Z" "CheckRules", Cond.fieldLinkNest "CheckRules" 193 "CheckRules$Rule" "faulty" "Z" "CheckRules", Cond.castable "java/lang/IllegalStateException" "java/lang/IllegalStateException", Cond.castable "[I" "java/lang/Cloneable", Cond.castable "java/lang/IllegalArgumentException" "java/lang/IllegalArgumentException", Cond.castable "java/lang/IndexOutOfBoundsException" "java/lang/IndexOutOfBoundsException", Cond.declares ⟨"java/lang/RuntimeException", "<init>", "()V"⟩, Cond.declares ⟨"java/lang/RuntimeException", "<init>", "(Ljava/lang/String;)V"⟩, Cond.declares ⟨"java/lang/Exception", "<init>", "()V"⟩, Cond.declares ⟨"java/lang/Exception", "<init>", "(Ljava/lang/String;)V"⟩, Cond.declares ⟨"java/lang/Throwable", "<init>", "()V"⟩, Cond.declares ⟨"java/lang/Throwable", "<init>", "(Ljava/lang/String;)V"⟩]
theorem ns_0 : Cond.methodLinkNest "CheckRules" 11 ⟨"CheckRules$Reader", "<init>", "()V"⟩ "CheckRules" ∈ zNs := List.mem_of_getElem? (i := 0) rfl
theorem ns_1 : Cond.methodLinkNest "CheckRules$Reader" 11 ⟨"CheckRules$Signs", "<init>", "()V"⟩ "CheckRules" ∈ zNs := List.mem_of_getElem? (i := 1) rfl
theorem ns_2 : Cond.fieldLinkNest "CheckRules" 48 "CheckRules$Reader" "text" "LCheckRules$Signs;" "CheckRules" ∈ zNs := List.mem_of_getElem? (i := 2) rfl
theorem ns_3 : Cond.methodLinkNest "CheckRules" 20 ⟨"CheckRules$Worker", "<init>", "()V"⟩ "CheckRules" ∈ zNs := List.mem_of_getElem? (i := 3) rfl
theorem ns_4 : Cond.fieldLinkNest "CheckRules" 98 "CheckRules$Worker" "declaration" "LCheckRules$Declaration;" "CheckRules" ∈ zNs := List.mem_of_getElem? (i := 4) rfl
theorem ns_5 : Cond.methodLinkNest "CheckRules" 27 ⟨"CheckRules$Printer", "<init>", "()V"⟩ "CheckRules" ∈ zNs := List.mem_of_getElem? (i := 5) rfl
theorem ns_6 : Cond.methodLinkNest "CheckRules$Printer" 11 ⟨"CheckRules$Signs", "<init>", "()V"⟩ "CheckRules" ∈ zNs := List.mem_of_getElem? (i := 6) rfl
theorem ns_7 : Cond.fieldLinkNest "CheckRules" 174 "CheckRules$Printer" "printed" "LCheckRules$Signs;" "CheckRules" ∈ zNs := List.mem_of_getElem? (i := 7) rfl
theorem ns_8 : Cond.fieldLinkNest "CheckRules" 129 "CheckRules$Rule" "tree" "LCheckRules$Tree;" "CheckRules" ∈ zNs := List.mem_of_getElem? (i := 8) rfl
theorem ns_9 : Cond.fieldLinkNest "CheckRules" 83 "CheckRules$Rule" "group" "I" "CheckRules" ∈ zNs := List.mem_of_getElem? (i := 9) rfl
theorem ns_10 : Cond.fieldLinkNest "CheckRules" 86 "CheckRules$Rule" "hard" "Z" "CheckRules" ∈ zNs := List.mem_of_getElem? (i := 10) rfl
theorem ns_11 : Cond.fieldLinkNest "CheckRules" 93 "CheckRules$Rule" "firstDay" "I" "CheckRules" ∈ zNs := List.mem_of_getElem? (i := 11) rfl
theorem ns_12 : Cond.fieldLinkNest "CheckRules" 126 "CheckRules$Rule" "latest" "I" "CheckRules" ∈ zNs := List.mem_of_getElem? (i := 12) rfl
theorem ns_13 : Cond.fieldLinkNest "CheckRules" 147 "CheckRules$Rule" "met" "Z" "CheckRules" ∈ zNs := List.mem_of_getElem? (i := 13) rfl
theorem ns_14 : Cond.fieldLinkNest "CheckRules" 137 "CheckRules$Rule" "answered" "Z" "CheckRules" ∈ zNs := List.mem_of_getElem? (i := 14) rfl
theorem ns_15 : Cond.fieldLinkNest "CheckRules" 193 "CheckRules$Rule" "faulty" "Z" "CheckRules" ∈ zNs := List.mem_of_getElem? (i := 15) rfl
theorem ns_16 : Cond.castable "java/lang/IllegalStateException" "java/lang/IllegalStateException" ∈ zNs := List.mem_of_getElem? (i := 16) rfl
theorem ns_17 : Cond.castable "[I" "java/lang/Cloneable" ∈ zNs := List.mem_of_getElem? (i := 17) rfl
theorem ns_18 : Cond.castable "java/lang/IllegalArgumentException" "java/lang/IllegalArgumentException" ∈ zNs := List.mem_of_getElem? (i := 18) rfl
theorem ns_19 : Cond.castable "java/lang/IndexOutOfBoundsException" "java/lang/IndexOutOfBoundsException" ∈ zNs := List.mem_of_getElem? (i := 19) rfl
theorem ns_20 : Cond.declares ⟨"java/lang/RuntimeException", "<init>", "()V"⟩ ∈ zNs := List.mem_of_getElem? (i := 20) rfl
theorem ns_21 : Cond.declares ⟨"java/lang/RuntimeException", "<init>", "(Ljava/lang/String;)V"⟩ ∈ zNs := List.mem_of_getElem? (i := 21) rfl
theorem ns_22 : Cond.declares ⟨"java/lang/Exception", "<init>", "()V"⟩ ∈ zNs := List.mem_of_getElem? (i := 22) rfl
theorem ns_23 : Cond.declares ⟨"java/lang/Exception", "<init>", "(Ljava/lang/String;)V"⟩ ∈ zNs := List.mem_of_getElem? (i := 23) rfl
theorem ns_24 : Cond.declares ⟨"java/lang/Throwable", "<init>", "()V"⟩ ∈ zNs := List.mem_of_getElem? (i := 24) rfl
theorem ns_25 : Cond.declares ⟨"java/lang/Throwable", "<init>", "(Ljava/lang/String;)V"⟩ ∈ zNs := List.mem_of_getElem? (i := 25) rfl
/-- the String constants: whose, which entry, text, bytes -/
def zSo : Nat → String := fun j => match j with
  | 0 => "CheckRules"
  | 1 => "CheckRules$Reader"
  | 2 => "CheckRules$Reader"
  | 3 => "CheckRules$Reader"
  | 4 => "CheckRules$Reader"
  | 5 => "CheckRules$Reader"
  | 6 => "CheckRules$Reader"
  | 7 => "CheckRules"
  | 8 => "CheckRules"
  | 9 => "CheckRules"
  | 10 => "CheckRules$Printer"
  | 11 => "CheckRules$Printer"
  | 12 => "CheckRules$Printer"
  | 13 => "CheckRules$Printer"
  | 14 => "CheckRules$Printer"
  | _ => "CheckRules"
def zSi : Nat → Nat := fun j => match j with
  | 0 => 60
  | 1 => 147
  | 2 => 153
  | 3 => 155
  | 4 => 157
  | 5 => 159
  | 6 => 121
  | 7 => 123
  | 8 => 140
  | 9 => 155
  | 10 => 42
  | 11 => 44
  | 12 => 68
  | 13 => 70
  | 14 => 86
  | _ => 181
def zSt : Nat → String := fun j => match j with
  | 0 => "there are 20 rules"
  | 1 => "f"
  | 2 => "all"
  | 3 => "any"
  | 4 => "sum"
  | 5 => "count"
  | 6 => "|&!  <>=#+-"
  | 7 => "no such rule"
  | 8 => "no such field"
  | 9 => "no such rule, node or what"
  | 10 => "all("
  | 11 => "any("
  | 12 => "sum "
  | 13 => "count "
  | 14 => "|&!  <>=#+-"
  | _ => "no such sign"
def zSb : Nat → List Int32 := fun j => match j with
  | 0 => [116, 104, 101, 114, 101, 32, 97, 114, 101, 32, 50, 48, 32, 114, 117, 108, 101, 115]
  | 1 => [102]
  | 2 => [97, 108, 108]
  | 3 => [97, 110, 121]
  | 4 => [115, 117, 109]
  | 5 => [99, 111, 117, 110, 116]
  | 6 => [124, 38, 33, 32, 32, 60, 62, 61, 35, 43, 45]
  | 7 => [110, 111, 32, 115, 117, 99, 104, 32, 114, 117, 108, 101]
  | 8 => [110, 111, 32, 115, 117, 99, 104, 32, 102, 105, 101, 108, 100]
  | 9 => [110, 111, 32, 115, 117, 99, 104, 32, 114, 117, 108, 101, 44, 32, 110, 111, 100, 101, 32, 111, 114, 32, 119, 104, 97, 116]
  | 10 => [97, 108, 108, 40]
  | 11 => [97, 110, 121, 40]
  | 12 => [115, 117, 109, 32]
  | 13 => [99, 111, 117, 110, 116, 32]
  | 14 => [124, 38, 33, 32, 32, 60, 62, 61, 35, 43, 45]
  | _ => [110, 111, 32, 115, 117, 99, 104, 32, 115, 105, 103, 110]
def zStr (ad : (Nat → Nat) × (Nat → Nat)) (b0 : Nat) (U : State) : Prop := ∀ j : Nat, j < 16 → vk_R (zSo j) (zSi j) (zSt j) (ad.1 j) U ∧ va_O "java/lang/String" (ad.1 j) (zA b0) U U.heap ∧ va_OF "java/lang/String" "coder" "B" (.int 0) (ad.1 j) (zA b0) U U.heap ∧ va_OF "java/lang/String" "value" "[B" (.ref (ad.2 j)) (ad.1 j) (zA b0) U U.heap ∧ va_T .byte (ad.2 j) (zSb j).length (fun k => .int ((zSb j).getD k 0)) (zA b0) U U.heap
/-- a static that holds a reference or null, and is laid -/
def zLq (C n d : String) (b0 : Nat) (U : State) : Prop := va_Zq C n d (zA b0) U U.heap ∧ (Cond.laysStatic C n d).before #[] U = true
theorem zLq.moved {C n d : String} {b0 : Nat} {s U : State} (hW : s.WarmedH U.vm) (hlow : ∀ q : Nat, q < b0 → U.heap[q]? = s.heap[q]?) (h : zLq C n d b0 s) : zLq C n d b0 U := by
  obtain ⟨hz, hl⟩ := h
  have hal := hW.alike
  have hq : ∀ a : Nat, a < s.heap.size → ¬ zA b0 a → U.heap[a]? = s.heap[a]? := fun a _ h => hlow a (Nat.not_le.mp h)
  refine ⟨(va_Zq.moved hal hz).kept hq, ?_⟩
  obtain ⟨c, k, i, f, a, cell, hc, hi, hst, ha, hcell, hs, hcls, hlt, hty⟩ := Cond.laysStatic_spec (Cond.laysStatic_setVm hal hl)
  have key : ∀ v, va_Z C n d v (zA b0) U s.heap → a < b0 := fun v hv => by
    obtain ⟨cf, kf, fi, f', a', cell', g1, g2, g3, g4, g5, g6, g7, g8⟩ := hv
    have e : some (c, k, i, f) = some (cf, kf, fi, f') := hi.symm.trans g1
    cases e
    cases ha.symm.trans g4
    exact Nat.not_le.mp g8
  have hab : a < b0 := by
    rcases va_Zq.moved hal hz with h | ⟨t, h⟩
    · exact key _ h
    · exact key _ h
  exact Cond.laysStatic_of (s := U) hc hi hst ha (by rw [hlow a hab]; exact hcell) hs hcls hlt hty
theorem zLq.ref {C n d : String} {b0 : Nat} {s : State} {args : Array Value} (h : zLq C n d b0 s) : (Cond.isRef (.static C n d)).before args s = true := by
  rcases h.1 with h | ⟨t, h⟩
  · obtain ⟨cf, kf, fi, f', a', cell', g1, g2, g3, g4, g5, g6, g7, g8⟩ := h
    simp [Cond.before, Cond.holds, Cond.value, Term.eval, State.fieldNamed?, g1, g2, g4, g5, g6, g7]
  · obtain ⟨cf, kf, fi, f', a', cell', g1, g2, g3, g4, g5, g6, g7, g8⟩ := h
    simp [Cond.before, Cond.holds, Cond.value, Term.eval, State.fieldNamed?, g1, g2, g4, g5, g6, g7]
theorem zLq.lay {C n d : String} {b0 : Nat} {s : State} {args : Array Value} (h : zLq C n d b0 s) : (Cond.laysStatic C n d).before args s = true := h.2
/-- what holds throughout of tables, constants and statics -/
def zG (ad : (Nat → Nat) × (Nat → Nat)) (b0 : Nat) (U : State) : Prop :=
  (∀ w ∈ zTs, w.before #[] U = true) ∧ (∀ w ∈ zNs, va_Nw w U) ∧ va_AO "CheckRules$Rule" U ∧ zStr ad b0 U ∧ va_Z "java/lang/String" "COMPACT_STRINGS" "Z" (.int 1) (zA b0) U U.heap ∧ zLq "java/lang/Throwable" "UNASSIGNED_STACK" "[Ljava/lang/StackTraceElement;" b0 U ∧ zLq "java/lang/Throwable" "SUPPRESSED_SENTINEL" "Ljava/util/List;" b0 U ∧ va_Zq "jdk/internal/util/Preconditions" "SIOOBE_FORMATTER" "Ljava/util/function/BiFunction;" (zA b0) U U.heap
theorem zTs_good : ∀ w ∈ zTs, (w.onTables && w.keeps) = true ∨ ∃ ty, w = .arrayClass ty := fun w h => good_of_word (List.mem_filter.mp h).2
theorem zG_w {ad : (Nat → Nat) × (Nat → Nat)} {b0 : Nat} : zGw (zG ad b0) zTs := fun s args h w hw => word_at (State.WarmedH.refl s) (zTs_good w hw) (h.1 w hw)
theorem zG_n {ad : (Nat → Nat) × (Nat → Nat)} {b0 : Nat} {s : State} (h : zG ad b0 s) {w : Cond} (hw : w ∈ zNs) : va_Nw w s := h.2.1 w hw
theorem zG_ao {ad : (Nat → Nat) × (Nat → Nat)} {b0 : Nat} {s : State} (h : zG ad b0 s) : va_AO "CheckRules$Rule" s := h.2.2.1
theorem zG_ok {ad : (Nat → Nat) × (Nat → Nat)} {b0 : Nat} : zGok b0 (zG ad b0) := by
  intro s U hW hb hlow h
  obtain ⟨h1, h2, h3, h4, h5, h6, h7, h8⟩ := h
  have hq : ∀ a : Nat, a < s.heap.size → ¬ zA b0 a → U.heap[a]? = s.heap[a]? := fun a _ h => hlow a (Nat.not_le.mp h)
  have hal := hW.alike
  refine ⟨fun w hw => word_at hW (zTs_good w hw) (h1 w hw), fun w hw => ?_, va_AO.moved hal h3, fun j hj => ?_, (va_Z.moved hal h5).kept hq, zLq.moved hW hlow h6, zLq.moved hW hlow h7, (va_Zq.moved hal h8).kept hq⟩
  · have h := h2 w hw
    simp only [zNs, List.mem_cons, List.not_mem_nil, or_false] at hw
    rcases hw with rfl | rfl | rfl | rfl | rfl | rfl | rfl | rfl | rfl | rfl | rfl | rfl | rfl | rfl | rfl | rfl | rfl | rfl | rfl | rfl | rfl | rfl | rfl | rfl | rfl | rfl <;> first | exact va_Nw.warmF hW h | exact va_Nw.warmM hW h | exact va_Nw.warmC hW h | exact va_Nw.warmD hW h
  · obtain ⟨a1, a2, a3, a4, a5⟩ := h4 j hj
    exact ⟨a1.warm hW, (va_O.moved hal a2).kept hq, (va_OF.moved hal a3).kept hq, (va_OF.moved hal a4).kept hq, (va_T.moved hal a5).kept hq⟩
/-- the room of a call that goes d frames deep -/
abbrev zR (d mc ms : Nat) : Room := { frames := d, cells := mc, slots := ms, locals := 48 * d }
