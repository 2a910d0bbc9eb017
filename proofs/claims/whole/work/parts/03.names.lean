theorem zT_in {w : Cond} (i : Nat) (h : lw_tbl[i]? = some w) (hg : goodWord w = true) : w ∈ lw_tbl.filter goodWord := List.mem_filter.mpr ⟨List.mem_of_getElem? h, hg⟩
/-- the good words of the tables -/
def zTs : List Cond := lw_tbl.filter goodWord
def R_Decl : String := "CheckRules$Declaration"
def F_Decl : u_T := fun k => match k with
  | _ => ("CheckRules$Declaration", "values", "[I", true)
def t_Decl : Nat → FieldType := fun k => match k with
  | _ => .array .int
theorem n_Decl : ∀ a, a < 1 → ∀ b, b < 1 → a ≠ b → (F_Decl a).2.1 ≠ (F_Decl b).2.1 := by decide +kernel
theorem ty_Decl : ∀ k, k < 1 → parseFieldDescriptor (F_Decl k).2.2.1 = some (t_Decl k) := by decide +kernel
theorem in_Decl : ∀ w ∈ u_ws R_Decl F_Decl 1, w ∈ zTs := by
  have h : (u_ws R_Decl F_Decl 1) = [Cond.laysFinal "CheckRules$Declaration" "CheckRules$Declaration" "values" "[I"] := by decide +kernel
  rw [h]
  exact List.forall_mem_cons.mpr ⟨zT_in 193 (by decide +kernel) rfl, fun _ h => absurd h List.not_mem_nil⟩
def R_Prt : String := "CheckRules$Printer"
def F_Prt : u_T := fun k => match k with
  | _ => ("CheckRules$Printer", "printed", "LCheckRules$Signs;", true)
def t_Prt : Nat → FieldType := fun k => match k with
  | _ => .object "CheckRules$Signs"
theorem n_Prt : ∀ a, a < 1 → ∀ b, b < 1 → a ≠ b → (F_Prt a).2.1 ≠ (F_Prt b).2.1 := by decide +kernel
theorem ty_Prt : ∀ k, k < 1 → parseFieldDescriptor (F_Prt k).2.2.1 = some (t_Prt k) := by decide +kernel
theorem in_Prt : ∀ w ∈ u_ws R_Prt F_Prt 1, w ∈ zTs := by
  have h : (u_ws R_Prt F_Prt 1) = [Cond.laysFinal "CheckRules$Printer" "CheckRules$Printer" "printed" "LCheckRules$Signs;"] := by decide +kernel
  rw [h]
  exact List.forall_mem_cons.mpr ⟨zT_in 217 (by decide +kernel) rfl, fun _ h => absurd h List.not_mem_nil⟩
def R_Rdr : String := "CheckRules$Reader"
def F_Rdr : u_T := fun k => match k with
  | 0 => ("CheckRules$Reader", "text", "LCheckRules$Signs;", true)
  | 1 => ("CheckRules$Reader", "tree", "LCheckRules$Tree;", true)
  | 2 => ("CheckRules$Reader", "ruleStarts", "[I", true)
  | 3 => ("CheckRules$Reader", "andStarts", "[I", true)
  | 4 => ("CheckRules$Reader", "depths", "[I", true)
  | 5 => ("CheckRules$Reader", "level", "I", false)
  | 6 => ("CheckRules$Reader", "depth", "I", false)
  | 7 => ("CheckRules$Reader", "sumStart", "I", false)
  | 8 => ("CheckRules$Reader", "compared", "Z", false)
  | 9 => ("CheckRules$Reader", "state", "I", false)
  | 10 => ("CheckRules$Reader", "place", "I", false)
  | 11 => ("CheckRules$Reader", "token", "I", false)
  | 12 => ("CheckRules$Reader", "tokenStart", "I", false)
  | _ => ("CheckRules$Reader", "tokenValue", "I", false)
def t_Rdr : Nat → FieldType := fun k => match k with
  | 0 => .object "CheckRules$Signs"
  | 1 => .object "CheckRules$Tree"
  | 2 => .array .int
  | 3 => .array .int
  | 4 => .array .int
  | 5 => .int
  | 6 => .int
  | 7 => .int
  | 8 => .boolean
  | 9 => .int
  | 10 => .int
  | 11 => .int
  | 12 => .int
  | _ => .int
theorem n_Rdr : ∀ a, a < 14 → ∀ b, b < 14 → a ≠ b → (F_Rdr a).2.1 ≠ (F_Rdr b).2.1 := by decide +kernel
theorem ty_Rdr : ∀ k, k < 14 → parseFieldDescriptor (F_Rdr k).2.2.1 = some (t_Rdr k) := by decide +kernel
theorem in_Rdr : ∀ w ∈ u_ws R_Rdr F_Rdr 14, w ∈ zTs := by
  have h : (u_ws R_Rdr F_Rdr 14) = [Cond.laysFinal "CheckRules$Reader" "CheckRules$Reader" "text" "LCheckRules$Signs;", Cond.laysFinal "CheckRules$Reader" "CheckRules$Reader" "tree" "LCheckRules$Tree;", Cond.laysFinal "CheckRules$Reader" "CheckRules$Reader" "ruleStarts" "[I", Cond.laysFinal "CheckRules$Reader" "CheckRules$Reader" "andStarts" "[I", Cond.laysFinal "CheckRules$Reader" "CheckRules$Reader" "depths" "[I", Cond.lays "CheckRules$Reader" "CheckRules$Reader" "level" "I", Cond.lays "CheckRules$Reader" "CheckRules$Reader" "depth" "I", Cond.lays "CheckRules$Reader" "CheckRules$Reader" "sumStart" "I", Cond.lays "CheckRules$Reader" "CheckRules$Reader" "compared" "Z", Cond.lays "CheckRules$Reader" "CheckRules$Reader" "state" "I", Cond.lays "CheckRules$Reader" "CheckRules$Reader" "place" "I", Cond.lays "CheckRules$Reader" "CheckRules$Reader" "token" "I", Cond.lays "CheckRules$Reader" "CheckRules$Reader" "tokenStart" "I", Cond.lays "CheckRules$Reader" "CheckRules$Reader" "tokenValue" "I"] := by decide +kernel
  rw [h]
  exact List.forall_mem_cons.mpr ⟨zT_in 147 (by decide +kernel) rfl, List.forall_mem_cons.mpr ⟨zT_in 149 (by decide +kernel) rfl, List.forall_mem_cons.mpr ⟨zT_in 151 (by decide +kernel) rfl, List.forall_mem_cons.mpr ⟨zT_in 153 (by decide +kernel) rfl, List.forall_mem_cons.mpr ⟨zT_in 155 (by decide +kernel) rfl, List.forall_mem_cons.mpr ⟨zT_in 157 (by decide +kernel) rfl, List.forall_mem_cons.mpr ⟨zT_in 159 (by decide +kernel) rfl, List.forall_mem_cons.mpr ⟨zT_in 161 (by decide +kernel) rfl, List.forall_mem_cons.mpr ⟨zT_in 163 (by decide +kernel) rfl, List.forall_mem_cons.mpr ⟨zT_in 165 (by decide +kernel) rfl, List.forall_mem_cons.mpr ⟨zT_in 167 (by decide +kernel) rfl, List.forall_mem_cons.mpr ⟨zT_in 169 (by decide +kernel) rfl, List.forall_mem_cons.mpr ⟨zT_in 171 (by decide +kernel) rfl, List.forall_mem_cons.mpr ⟨zT_in 173 (by decide +kernel) rfl, fun _ h => absurd h List.not_mem_nil⟩⟩⟩⟩⟩⟩⟩⟩⟩⟩⟩⟩⟩⟩
def R_Rul : String := "CheckRules$Rule"
def F_Rul : u_T := fun k => match k with
  | 0 => ("CheckRules$Rule", "tree", "LCheckRules$Tree;", true)
  | 1 => ("CheckRules$Rule", "group", "I", false)
  | 2 => ("CheckRules$Rule", "hard", "Z", false)
  | 3 => ("CheckRules$Rule", "firstDay", "I", false)
  | 4 => ("CheckRules$Rule", "latest", "I", false)
  | 5 => ("CheckRules$Rule", "met", "Z", false)
  | 6 => ("CheckRules$Rule", "answered", "Z", false)
  | _ => ("CheckRules$Rule", "faulty", "Z", false)
def t_Rul : Nat → FieldType := fun k => match k with
  | 0 => .object "CheckRules$Tree"
  | 1 => .int
  | 2 => .boolean
  | 3 => .int
  | 4 => .int
  | 5 => .boolean
  | 6 => .boolean
  | _ => .boolean
theorem n_Rul : ∀ a, a < 8 → ∀ b, b < 8 → a ≠ b → (F_Rul a).2.1 ≠ (F_Rul b).2.1 := by decide +kernel
theorem ty_Rul : ∀ k, k < 8 → parseFieldDescriptor (F_Rul k).2.2.1 = some (t_Rul k) := by decide +kernel
theorem in_Rul : ∀ w ∈ u_ws R_Rul F_Rul 8, w ∈ zTs := by
  have h : (u_ws R_Rul F_Rul 8) = [Cond.laysFinal "CheckRules$Rule" "CheckRules$Rule" "tree" "LCheckRules$Tree;", Cond.lays "CheckRules$Rule" "CheckRules$Rule" "group" "I", Cond.lays "CheckRules$Rule" "CheckRules$Rule" "hard" "Z", Cond.lays "CheckRules$Rule" "CheckRules$Rule" "firstDay" "I", Cond.lays "CheckRules$Rule" "CheckRules$Rule" "latest" "I", Cond.lays "CheckRules$Rule" "CheckRules$Rule" "met" "Z", Cond.lays "CheckRules$Rule" "CheckRules$Rule" "answered" "Z", Cond.lays "CheckRules$Rule" "CheckRules$Rule" "faulty" "Z"] := by decide +kernel
  rw [h]
  exact List.forall_mem_cons.mpr ⟨zT_in 760 (by decide +kernel) rfl, List.forall_mem_cons.mpr ⟨zT_in 762 (by decide +kernel) rfl, List.forall_mem_cons.mpr ⟨zT_in 764 (by decide +kernel) rfl, List.forall_mem_cons.mpr ⟨zT_in 766 (by decide +kernel) rfl, List.forall_mem_cons.mpr ⟨zT_in 768 (by decide +kernel) rfl, List.forall_mem_cons.mpr ⟨zT_in 770 (by decide +kernel) rfl, List.forall_mem_cons.mpr ⟨zT_in 772 (by decide +kernel) rfl, List.forall_mem_cons.mpr ⟨zT_in 774 (by decide +kernel) rfl, fun _ h => absurd h List.not_mem_nil⟩⟩⟩⟩⟩⟩⟩⟩
def R_Sgn : String := "CheckRules$Signs"
def F_Sgn : u_T := fun k => match k with
  | 0 => ("CheckRules$Signs", "row", "[I", true)
  | _ => ("CheckRules$Signs", "used", "I", false)
def t_Sgn : Nat → FieldType := fun k => match k with
  | 0 => .array .int
  | _ => .int
theorem n_Sgn : ∀ a, a < 2 → ∀ b, b < 2 → a ≠ b → (F_Sgn a).2.1 ≠ (F_Sgn b).2.1 := by decide +kernel
theorem ty_Sgn : ∀ k, k < 2 → parseFieldDescriptor (F_Sgn k).2.2.1 = some (t_Sgn k) := by decide +kernel
theorem in_Sgn : ∀ w ∈ u_ws R_Sgn F_Sgn 2, w ∈ zTs := by
  have h : (u_ws R_Sgn F_Sgn 2) = [Cond.laysFinal "CheckRules$Signs" "CheckRules$Signs" "row" "[I", Cond.lays "CheckRules$Signs" "CheckRules$Signs" "used" "I"] := by decide +kernel
  rw [h]
  exact List.forall_mem_cons.mpr ⟨zT_in 107 (by decide +kernel) rfl, List.forall_mem_cons.mpr ⟨zT_in 109 (by decide +kernel) rfl, fun _ h => absurd h List.not_mem_nil⟩⟩
def R_Tre : String := "CheckRules$Tree"
def F_Tre : u_T := fun k => match k with
  | 0 => ("CheckRules$Tree", "kinds", "[I", true)
  | 1 => ("CheckRules$Tree", "values", "[I", true)
  | 2 => ("CheckRules$Tree", "rights", "[I", true)
  | _ => ("CheckRules$Tree", "used", "I", false)
def t_Tre : Nat → FieldType := fun k => match k with
  | 0 => .array .int
  | 1 => .array .int
  | 2 => .array .int
  | _ => .int
theorem n_Tre : ∀ a, a < 4 → ∀ b, b < 4 → a ≠ b → (F_Tre a).2.1 ≠ (F_Tre b).2.1 := by decide +kernel
theorem ty_Tre : ∀ k, k < 4 → parseFieldDescriptor (F_Tre k).2.2.1 = some (t_Tre k) := by decide +kernel
theorem in_Tre : ∀ w ∈ u_ws R_Tre F_Tre 4, w ∈ zTs := by
  have h : (u_ws R_Tre F_Tre 4) = [Cond.laysFinal "CheckRules$Tree" "CheckRules$Tree" "kinds" "[I", Cond.laysFinal "CheckRules$Tree" "CheckRules$Tree" "values" "[I", Cond.laysFinal "CheckRules$Tree" "CheckRules$Tree" "rights" "[I", Cond.lays "CheckRules$Tree" "CheckRules$Tree" "used" "I"] := by decide +kernel
  rw [h]
  exact List.forall_mem_cons.mpr ⟨zT_in 123 (by decide +kernel) rfl, List.forall_mem_cons.mpr ⟨zT_in 125 (by decide +kernel) rfl, List.forall_mem_cons.mpr ⟨zT_in 127 (by decide +kernel) rfl, List.forall_mem_cons.mpr ⟨zT_in 129 (by decide +kernel) rfl, fun _ h => absurd h List.not_mem_nil⟩⟩⟩⟩
def R_Wrk : String := "CheckRules$Worker"
def F_Wrk : u_T := fun k => match k with
  | 0 => ("CheckRules$Worker", "declaration", "LCheckRules$Declaration;", true)
  | 1 => ("CheckRules$Worker", "results", "[I", true)
  | _ => ("CheckRules$Worker", "lineBits", "I", false)
def t_Wrk : Nat → FieldType := fun k => match k with
  | 0 => .object "CheckRules$Declaration"
  | 1 => .array .int
  | _ => .int
theorem n_Wrk : ∀ a, a < 3 → ∀ b, b < 3 → a ≠ b → (F_Wrk a).2.1 ≠ (F_Wrk b).2.1 := by decide +kernel
theorem ty_Wrk : ∀ k, k < 3 → parseFieldDescriptor (F_Wrk k).2.2.1 = some (t_Wrk k) := by decide +kernel
theorem in_Wrk : ∀ w ∈ u_ws R_Wrk F_Wrk 3, w ∈ zTs := by
  have h : (u_ws R_Wrk F_Wrk 3) = [Cond.laysFinal "CheckRules$Worker" "CheckRules$Worker" "declaration" "LCheckRules$Declaration;", Cond.laysFinal "CheckRules$Worker" "CheckRules$Worker" "results" "[I", Cond.lays "CheckRules$Worker" "CheckRules$Worker" "lineBits" "I"] := by decide +kernel
  rw [h]
  exact List.forall_mem_cons.mpr ⟨zT_in 200 (by decide +kernel) rfl, List.forall_mem_cons.mpr ⟨zT_in 202 (by decide +kernel) rfl, List.forall_mem_cons.mpr ⟨zT_in 204 (by decide +kernel) rfl, fun _ h => absurd h List.not_mem_nil⟩⟩⟩
def R_Cls : String := "CheckRules"
def F_Cls : u_T := fun k => match k with
  | 0 => ("CheckRules", "reader", "LCheckRules$Reader;", true)
  | 1 => ("CheckRules", "worker", "LCheckRules$Worker;", true)
  | 2 => ("CheckRules", "printer", "LCheckRules$Printer;", true)
  | 3 => ("CheckRules", "rules", "[LCheckRules$Rule;", true)
  | 4 => ("CheckRules", "ruleCount", "I", false)
  | 5 => ("CheckRules", "checkCount", "I", false)
  | _ => ("CheckRules", "today", "I", false)
def t_Cls : Nat → FieldType := fun k => match k with
  | 0 => .object "CheckRules$Reader"
  | 1 => .object "CheckRules$Worker"
  | 2 => .object "CheckRules$Printer"
  | 3 => .array (.object "CheckRules$Rule")
  | 4 => .int
  | 5 => .int
  | _ => .int
theorem n_Cls : ∀ a, a < 7 → ∀ b, b < 7 → a ≠ b → (F_Cls a).2.1 ≠ (F_Cls b).2.1 := by decide +kernel
theorem ty_Cls : ∀ k, k < 7 → parseFieldDescriptor (F_Cls k).2.2.1 = some (t_Cls k) := by decide +kernel
theorem in_Cls : ∀ w ∈ u_ws R_Cls F_Cls 7, w ∈ zTs := by
  have h : (u_ws R_Cls F_Cls 7) = [Cond.laysFinal "CheckRules" "CheckRules" "reader" "LCheckRules$Reader;", Cond.laysFinal "CheckRules" "CheckRules" "worker" "LCheckRules$Worker;", Cond.laysFinal "CheckRules" "CheckRules" "printer" "LCheckRules$Printer;", Cond.laysFinal "CheckRules" "CheckRules" "rules" "[LCheckRules$Rule;", Cond.lays "CheckRules" "CheckRules" "ruleCount" "I", Cond.lays "CheckRules" "CheckRules" "checkCount" "I", Cond.lays "CheckRules" "CheckRules" "today" "I"] := by decide +kernel
  rw [h]
  exact List.forall_mem_cons.mpr ⟨zT_in 229 (by decide +kernel) rfl, List.forall_mem_cons.mpr ⟨zT_in 231 (by decide +kernel) rfl, List.forall_mem_cons.mpr ⟨zT_in 233 (by decide +kernel) rfl, List.forall_mem_cons.mpr ⟨zT_in 235 (by decide +kernel) rfl, List.forall_mem_cons.mpr ⟨zT_in 237 (by decide +kernel) rfl, List.forall_mem_cons.mpr ⟨zT_in 239 (by decide +kernel) rfl, List.forall_mem_cons.mpr ⟨zT_in 241 (by decide +kernel) rfl, fun _ h => absurd h List.not_mem_nil⟩⟩⟩⟩⟩⟩⟩
def R_Mod : String := "CheckRulesModel"
def F_Mod : u_T := fun k => match k with
  | 0 => ("CheckRulesModel", "thrown", "I", false)
  | 1 => ("CheckRulesModel", "text", "[I", true)
  | 2 => ("CheckRulesModel", "length", "I", false)
  | 3 => ("CheckRulesModel", "rules", "I", false)
  | 4 => ("CheckRulesModel", "checks", "I", false)
  | 5 => ("CheckRulesModel", "today", "I", false)
  | 6 => ("CheckRulesModel", "kind", "[I", true)
  | 7 => ("CheckRulesModel", "told", "[I", true)
  | 8 => ("CheckRulesModel", "left", "[I", true)
  | 9 => ("CheckRulesModel", "right", "[I", true)
  | 10 => ("CheckRulesModel", "size", "[I", true)
  | 11 => ("CheckRulesModel", "group", "[I", true)
  | 12 => ("CheckRulesModel", "isHard", "[Z", true)
  | 13 => ("CheckRulesModel", "edition", "[I", true)
  | 14 => ("CheckRulesModel", "before", "[I", true)
  | 15 => ("CheckRulesModel", "isMet", "[Z", true)
  | 16 => ("CheckRulesModel", "isAnswered", "[Z", true)
  | 17 => ("CheckRulesModel", "isBad", "[Z", true)
  | 18 => ("CheckRulesModel", "values", "[I", true)
  | 19 => ("CheckRulesModel", "has", "[Z", true)
  | 20 => ("CheckRulesModel", "madeKind", "[I", true)
  | 21 => ("CheckRulesModel", "madeTold", "[I", true)
  | 22 => ("CheckRulesModel", "madeLeft", "[I", true)
  | 23 => ("CheckRulesModel", "madeRight", "[I", true)
  | 24 => ("CheckRulesModel", "made", "I", false)
  | 25 => ("CheckRulesModel", "at", "I", false)
  | 26 => ("CheckRulesModel", "depth", "I", false)
  | 27 => ("CheckRulesModel", "wrong", "I", false)
  | 28 => ("CheckRulesModel", "openKind", "[I", true)
  | 29 => ("CheckRulesModel", "openNode", "[I", true)
  | 30 => ("CheckRulesModel", "open", "I", false)
  | 31 => ("CheckRulesModel", "amount", "[J", true)
  | 32 => ("CheckRulesModel", "isKnown", "[Z", true)
  | 33 => ("CheckRulesModel", "answer", "[I", true)
  | 34 => ("CheckRulesModel", "numbered", "[I", true)
  | 35 => ("CheckRulesModel", "printed", "[I", true)
  | 36 => ("CheckRulesModel", "signs", "I", false)
  | _ => ("CheckRulesModel", "toPrint", "[I", true)
def t_Mod : Nat → FieldType := fun k => match k with
  | 0 => .int
  | 1 => .array .int
  | 2 => .int
  | 3 => .int
  | 4 => .int
  | 5 => .int
  | 6 => .array .int
  | 7 => .array .int
  | 8 => .array .int
  | 9 => .array .int
  | 10 => .array .int
  | 11 => .array .int
  | 12 => .array .boolean
  | 13 => .array .int
  | 14 => .array .int
  | 15 => .array .boolean
  | 16 => .array .boolean
  | 17 => .array .boolean
  | 18 => .array .int
  | 19 => .array .boolean
  | 20 => .array .int
  | 21 => .array .int
  | 22 => .array .int
  | 23 => .array .int
  | 24 => .int
  | 25 => .int
  | 26 => .int
  | 27 => .int
  | 28 => .array .int
  | 29 => .array .int
  | 30 => .int
  | 31 => .array .long
  | 32 => .array .boolean
  | 33 => .array .int
  | 34 => .array .int
  | 35 => .array .int
  | 36 => .int
  | _ => .array .int
theorem n_Mod : ∀ a, a < 38 → ∀ b, b < 38 → a ≠ b → (F_Mod a).2.1 ≠ (F_Mod b).2.1 := by decide +kernel
theorem ty_Mod : ∀ k, k < 38 → parseFieldDescriptor (F_Mod k).2.2.1 = some (t_Mod k) := by decide +kernel
theorem in_Mod : ∀ w ∈ u_ws R_Mod F_Mod 38, w ∈ zTs := by
  have h : (u_ws R_Mod F_Mod 38) = [Cond.lays "CheckRulesModel" "CheckRulesModel" "thrown" "I", Cond.laysFinal "CheckRulesModel" "CheckRulesModel" "text" "[I", Cond.lays "CheckRulesModel" "CheckRulesModel" "length" "I", Cond.lays "CheckRulesModel" "CheckRulesModel" "rules" "I", Cond.lays "CheckRulesModel" "CheckRulesModel" "checks" "I", Cond.lays "CheckRulesModel" "CheckRulesModel" "today" "I", Cond.laysFinal "CheckRulesModel" "CheckRulesModel" "kind" "[I", Cond.laysFinal "CheckRulesModel" "CheckRulesModel" "told" "[I", Cond.laysFinal "CheckRulesModel" "CheckRulesModel" "left" "[I", Cond.laysFinal "CheckRulesModel" "CheckRulesModel" "right" "[I", Cond.laysFinal "CheckRulesModel" "CheckRulesModel" "size" "[I", Cond.laysFinal "CheckRulesModel" "CheckRulesModel" "group" "[I", Cond.laysFinal "CheckRulesModel" "CheckRulesModel" "isHard" "[Z", Cond.laysFinal "CheckRulesModel" "CheckRulesModel" "edition" "[I", Cond.laysFinal "CheckRulesModel" "CheckRulesModel" "before" "[I", Cond.laysFinal "CheckRulesModel" "CheckRulesModel" "isMet" "[Z", Cond.laysFinal "CheckRulesModel" "CheckRulesModel" "isAnswered" "[Z", Cond.laysFinal "CheckRulesModel" "CheckRulesModel" "isBad" "[Z", Cond.laysFinal "CheckRulesModel" "CheckRulesModel" "values" "[I", Cond.laysFinal "CheckRulesModel" "CheckRulesModel" "has" "[Z", Cond.laysFinal "CheckRulesModel" "CheckRulesModel" "madeKind" "[I", Cond.laysFinal "CheckRulesModel" "CheckRulesModel" "madeTold" "[I", Cond.laysFinal "CheckRulesModel" "CheckRulesModel" "madeLeft" "[I", Cond.laysFinal "CheckRulesModel" "CheckRulesModel" "madeRight" "[I", Cond.lays "CheckRulesModel" "CheckRulesModel" "made" "I", Cond.lays "CheckRulesModel" "CheckRulesModel" "at" "I", Cond.lays "CheckRulesModel" "CheckRulesModel" "depth" "I", Cond.lays "CheckRulesModel" "CheckRulesModel" "wrong" "I", Cond.laysFinal "CheckRulesModel" "CheckRulesModel" "openKind" "[I", Cond.laysFinal "CheckRulesModel" "CheckRulesModel" "openNode" "[I", Cond.lays "CheckRulesModel" "CheckRulesModel" "open" "I", Cond.laysFinal "CheckRulesModel" "CheckRulesModel" "amount" "[J", Cond.laysFinal "CheckRulesModel" "CheckRulesModel" "isKnown" "[Z", Cond.laysFinal "CheckRulesModel" "CheckRulesModel" "answer" "[I", Cond.laysFinal "CheckRulesModel" "CheckRulesModel" "numbered" "[I", Cond.laysFinal "CheckRulesModel" "CheckRulesModel" "printed" "[I", Cond.lays "CheckRulesModel" "CheckRulesModel" "signs" "I", Cond.laysFinal "CheckRulesModel" "CheckRulesModel" "toPrint" "[I"] := by decide +kernel
  rw [h]
  exact List.forall_mem_cons.mpr ⟨zT_in 955 (by decide +kernel) rfl, List.forall_mem_cons.mpr ⟨zT_in 957 (by decide +kernel) rfl, List.forall_mem_cons.mpr ⟨zT_in 959 (by decide +kernel) rfl, List.forall_mem_cons.mpr ⟨zT_in 961 (by decide +kernel) rfl, List.forall_mem_cons.mpr ⟨zT_in 963 (by decide +kernel) rfl, List.forall_mem_cons.mpr ⟨zT_in 965 (by decide +kernel) rfl, List.forall_mem_cons.mpr ⟨zT_in 967 (by decide +kernel) rfl, List.forall_mem_cons.mpr ⟨zT_in 969 (by decide +kernel) rfl, List.forall_mem_cons.mpr ⟨zT_in 971 (by decide +kernel) rfl, List.forall_mem_cons.mpr ⟨zT_in 973 (by decide +kernel) rfl, List.forall_mem_cons.mpr ⟨zT_in 975 (by decide +kernel) rfl, List.forall_mem_cons.mpr ⟨zT_in 977 (by decide +kernel) rfl, List.forall_mem_cons.mpr ⟨zT_in 979 (by decide +kernel) rfl, List.forall_mem_cons.mpr ⟨zT_in 981 (by decide +kernel) rfl, List.forall_mem_cons.mpr ⟨zT_in 983 (by decide +kernel) rfl, List.forall_mem_cons.mpr ⟨zT_in 985 (by decide +kernel) rfl, List.forall_mem_cons.mpr ⟨zT_in 987 (by decide +kernel) rfl, List.forall_mem_cons.mpr ⟨zT_in 989 (by decide +kernel) rfl, List.forall_mem_cons.mpr ⟨zT_in 991 (by decide +kernel) rfl, List.forall_mem_cons.mpr ⟨zT_in 993 (by decide +kernel) rfl, List.forall_mem_cons.mpr ⟨zT_in 995 (by decide +kernel) rfl, List.forall_mem_cons.mpr ⟨zT_in 997 (by decide +kernel) rfl, List.forall_mem_cons.mpr ⟨zT_in 999 (by decide +kernel) rfl, List.forall_mem_cons.mpr ⟨zT_in 1001 (by decide +kernel) rfl, List.forall_mem_cons.mpr ⟨zT_in 1003 (by decide +kernel) rfl, List.forall_mem_cons.mpr ⟨zT_in 1005 (by decide +kernel) rfl, List.forall_mem_cons.mpr ⟨zT_in 1007 (by decide +kernel) rfl, List.forall_mem_cons.mpr ⟨zT_in 1009 (by decide +kernel) rfl, List.forall_mem_cons.mpr ⟨zT_in 1011 (by decide +kernel) rfl, List.forall_mem_cons.mpr ⟨zT_in 1013 (by decide +kernel) rfl, List.forall_mem_cons.mpr ⟨zT_in 1015 (by decide +kernel) rfl, List.forall_mem_cons.mpr ⟨zT_in 1017 (by decide +kernel) rfl, List.forall_mem_cons.mpr ⟨zT_in 1019 (by decide +kernel) rfl, List.forall_mem_cons.mpr ⟨zT_in 1021 (by decide +kernel) rfl, List.forall_mem_cons.mpr ⟨zT_in 1023 (by decide +kernel) rfl, List.forall_mem_cons.mpr ⟨zT_in 1025 (by decide +kernel) rfl, List.forall_mem_cons.mpr ⟨zT_in 1027 (by decide +kernel) rfl, List.forall_mem_cons.mpr ⟨zT_in 1029 (by decide +kernel) rfl, fun _ h => absurd h List.not_mem_nil⟩⟩⟩⟩⟩⟩⟩⟩⟩⟩⟩⟩⟩⟩⟩⟩⟩⟩⟩⟩⟩⟩⟩⟩⟩⟩⟩⟩⟩⟩⟩⟩⟩⟩⟩⟩⟩⟩
def R_ISE : String := "java/lang/IllegalStateException"
def F_ISE : u_T := fun k => match k with
  | _ => ("", "", "", false)
def t_ISE : Nat → FieldType := fun k => match k with
  | _ => .int
theorem n_ISE : ∀ a, a < 0 → ∀ b, b < 0 → a ≠ b → (F_ISE a).2.1 ≠ (F_ISE b).2.1 := by decide +kernel
theorem ty_ISE : ∀ k, k < 0 → parseFieldDescriptor (F_ISE k).2.2.1 = some (t_ISE k) := by decide +kernel
theorem in_ISE : ∀ w ∈ u_ws R_ISE F_ISE 0, w ∈ zTs := fun _ h => absurd h List.not_mem_nil
def R_IAE : String := "java/lang/IllegalArgumentException"
def F_IAE : u_T := fun k => match k with
  | _ => ("", "", "", false)
def t_IAE : Nat → FieldType := fun k => match k with
  | _ => .int
theorem n_IAE : ∀ a, a < 0 → ∀ b, b < 0 → a ≠ b → (F_IAE a).2.1 ≠ (F_IAE b).2.1 := by decide +kernel
theorem ty_IAE : ∀ k, k < 0 → parseFieldDescriptor (F_IAE k).2.2.1 = some (t_IAE k) := by decide +kernel
theorem in_IAE : ∀ w ∈ u_ws R_IAE F_IAE 0, w ∈ zTs := fun _ h => absurd h List.not_mem_nil
def R_IOE : String := "java/lang/IndexOutOfBoundsException"
def F_IOE : u_T := fun k => match k with
  | _ => ("", "", "", false)
def t_IOE : Nat → FieldType := fun k => match k with
  | _ => .int
theorem n_IOE : ∀ a, a < 0 → ∀ b, b < 0 → a ≠ b → (F_IOE a).2.1 ≠ (F_IOE b).2.1 := by decide +kernel
theorem ty_IOE : ∀ k, k < 0 → parseFieldDescriptor (F_IOE k).2.2.1 = some (t_IOE k) := by decide +kernel
theorem in_IOE : ∀ w ∈ u_ws R_IOE F_IOE 0, w ∈ zTs := fun _ h => absurd h List.not_mem_nil
/-- the classes whose objects the heap holds -/
def zcl : List vw_C := [(R_Decl, F_Decl, 1), (R_Prt, F_Prt, 1), (R_Rdr, F_Rdr, 14), (R_Rul, F_Rul, 8), (R_Sgn, F_Sgn, 2), (R_Tre, F_Tre, 4), (R_Wrk, F_Wrk, 3), (R_Cls, F_Cls, 7), (R_Mod, F_Mod, 38), (R_ISE, F_ISE, 0), (R_IAE, F_IAE, 0), (R_IOE, F_IOE, 0)]
theorem cl_Decl : zcl[0]? = some (R_Decl, F_Decl, 1) := rfl
theorem cl_Prt : zcl[1]? = some (R_Prt, F_Prt, 1) := rfl
theorem cl_Rdr : zcl[2]? = some (R_Rdr, F_Rdr, 14) := rfl
theorem cl_Rul : zcl[3]? = some (R_Rul, F_Rul, 8) := rfl
theorem cl_Sgn : zcl[4]? = some (R_Sgn, F_Sgn, 2) := rfl
theorem cl_Tre : zcl[5]? = some (R_Tre, F_Tre, 4) := rfl
theorem cl_Wrk : zcl[6]? = some (R_Wrk, F_Wrk, 3) := rfl
theorem cl_Cls : zcl[7]? = some (R_Cls, F_Cls, 7) := rfl
theorem cl_Mod : zcl[8]? = some (R_Mod, F_Mod, 38) := rfl
theorem cl_ISE : zcl[9]? = some (R_ISE, F_ISE, 0) := rfl
theorem cl_IAE : zcl[10]? = some (R_IAE, F_IAE, 0) := rfl
theorem cl_IOE : zcl[11]? = some (R_IOE, F_IOE, 0) := rfl
def y_Cls_init : MethodName := ⟨"CheckRules", "<init>", "()V"⟩
set_option maxRecDepth 100000 in
theorem mc_Cls_init : Cond.code y_Cls_init prog_1_method_1_code 1 (none) ∈ zTs := zT_in 89 rfl rfl
def y_Rdr_init : MethodName := ⟨"CheckRules$Reader", "<init>", "()V"⟩
set_option maxRecDepth 100000 in
theorem mc_Rdr_init : Cond.code y_Rdr_init prog_4_method_1_code 1 (none) ∈ zTs := zT_in 97 rfl rfl
def y_Sgn_init : MethodName := ⟨"CheckRules$Signs", "<init>", "()V"⟩
set_option maxRecDepth 100000 in
theorem mc_Sgn_init : Cond.code y_Sgn_init prog_6_method_1_code 1 (none) ∈ zTs := zT_in 103 rfl rfl
def y_Tre_init : MethodName := ⟨"CheckRules$Tree", "<init>", "()V"⟩
set_option maxRecDepth 100000 in
theorem mc_Tre_init : Cond.code y_Tre_init prog_7_method_1_code 1 (none) ∈ zTs := zT_in 117 rfl rfl
def y_Wrk_init : MethodName := ⟨"CheckRules$Worker", "<init>", "()V"⟩
set_option maxRecDepth 100000 in
theorem mc_Wrk_init : Cond.code y_Wrk_init prog_8_method_1_code 1 (none) ∈ zTs := zT_in 180 rfl rfl
def y_Decl_init : MethodName := ⟨"CheckRules$Declaration", "<init>", "()V"⟩
set_option maxRecDepth 100000 in
theorem mc_Decl_init : Cond.code y_Decl_init prog_2_method_1_code 1 (none) ∈ zTs := zT_in 186 rfl rfl
def y_Arrays_fill : MethodName := ⟨"java/util/Arrays", "fill", "([II)V"⟩
set_option maxRecDepth 100000 in
theorem mc_Arrays_fill : Cond.code y_Arrays_fill prog_24_method_103_code 4 (none) ∈ zTs := zT_in 191 rfl rfl
def y_Prt_init : MethodName := ⟨"CheckRules$Printer", "<init>", "()V"⟩
set_option maxRecDepth 100000 in
theorem mc_Prt_init : Cond.code y_Prt_init prog_3_method_1_code 1 (none) ∈ zTs := zT_in 211 rfl rfl
def y_Cls_sign : MethodName := ⟨"CheckRules", "sign", "(I)Z"⟩
set_option maxRecDepth 100000 in
theorem mc_Cls_sign : Cond.code y_Cls_sign prog_1_method_2_code 2 ((some FieldType.boolean)) ∈ zTs := zT_in 247 rfl rfl
def y_Sgn_add : MethodName := ⟨"CheckRules$Signs", "add", "(I)Z"⟩
set_option maxRecDepth 100000 in
theorem mc_Sgn_add : Cond.code y_Sgn_add prog_6_method_4_code 2 ((some FieldType.boolean)) ∈ zTs := zT_in 251 rfl rfl
def y_Cls_order : MethodName := ⟨"CheckRules", "order", "(IIZ)Z"⟩
set_option maxRecDepth 100000 in
theorem mc_Cls_order : Cond.code y_Cls_order prog_1_method_4_code 5 ((some FieldType.boolean)) ∈ zTs := zT_in 255 rfl rfl
def y_Cls_find : MethodName := ⟨"CheckRules", "find", "(I)LCheckRules$Rule;"⟩
set_option maxRecDepth 100000 in
theorem mc_Cls_find : Cond.code y_Cls_find prog_1_method_21_code 2 ((some (FieldType.object "CheckRules$Rule"))) ∈ zTs := zT_in 259 rfl rfl
def y_Cls_edition : MethodName := ⟨"CheckRules", "edition", "(II)Z"⟩
set_option maxRecDepth 100000 in
theorem mc_Cls_edition : Cond.code y_Cls_edition prog_1_method_5_code 4 ((some FieldType.boolean)) ∈ zTs := zT_in 263 rfl rfl
def y_Cls_isDay : MethodName := ⟨"CheckRules", "isDay", "(I)Z"⟩
set_option maxRecDepth 100000 in
theorem mc_Cls_isDay : Cond.code y_Cls_isDay prog_1_method_25_code 1 ((some FieldType.boolean)) ∈ zTs := zT_in 266 rfl rfl
def y_Cls_day : MethodName := ⟨"CheckRules", "day", "(I)Z"⟩
set_option maxRecDepth 100000 in
theorem mc_Cls_day : Cond.code y_Cls_day prog_1_method_6_code 2 ((some FieldType.boolean)) ∈ zTs := zT_in 271 rfl rfl
def y_Cls_field : MethodName := ⟨"CheckRules", "field", "(III)Z"⟩
set_option maxRecDepth 100000 in
theorem mc_Cls_field : Cond.code y_Cls_field prog_1_method_7_code 4 ((some FieldType.boolean)) ∈ zTs := zT_in 275 rfl rfl
def y_Decl_put : MethodName := ⟨"CheckRules$Declaration", "put", "(III)Z"⟩
set_option maxRecDepth 100000 in
theorem mc_Decl_put : Cond.code y_Decl_put prog_2_method_3_code 5 ((some FieldType.boolean)) ∈ zTs := zT_in 281 rfl rfl
def y_Decl_slotOf : MethodName := ⟨"CheckRules$Declaration", "slotOf", "(II)I"⟩
set_option maxRecDepth 100000 in
theorem mc_Decl_slotOf : Cond.code y_Decl_slotOf prog_2_method_2_code 2 ((some FieldType.int)) ∈ zTs := zT_in 284 rfl rfl
def y_Cls_without : MethodName := ⟨"CheckRules", "without", "(II)Z"⟩
set_option maxRecDepth 100000 in
theorem mc_Cls_without : Cond.code y_Cls_without prog_1_method_8_code 3 ((some FieldType.boolean)) ∈ zTs := zT_in 288 rfl rfl
def y_Decl_valueOn : MethodName := ⟨"CheckRules$Declaration", "valueOn", "(II)I"⟩
set_option maxRecDepth 100000 in
theorem mc_Decl_valueOn : Cond.code y_Decl_valueOn prog_2_method_4_code 4 ((some FieldType.int)) ∈ zTs := zT_in 292 rfl rfl
def y_Cls_check : MethodName := ⟨"CheckRules", "check", "()I"⟩
set_option maxRecDepth 100000 in
theorem mc_Cls_check : Cond.code y_Cls_check prog_1_method_9_code 2 ((some FieldType.int)) ∈ zTs := zT_in 297 rfl rfl
def y_Cls_checkOne : MethodName := ⟨"CheckRules", "checkOne", "(LCheckRules$Rule;)V"⟩
set_option maxRecDepth 100000 in
theorem mc_Cls_checkOne : Cond.code y_Cls_checkOne prog_1_method_22_code 2 (none) ∈ zTs := zT_in 301 rfl rfl
def y_Wrk_workOut : MethodName := ⟨"CheckRules$Worker", "workOut", "(LCheckRules$Tree;)I"⟩
set_option maxRecDepth 100000 in
theorem mc_Wrk_workOut : Cond.code y_Wrk_workOut prog_8_method_2_code 3 ((some FieldType.int)) ∈ zTs := zT_in 305 rfl rfl
def y_Decl_lineBits : MethodName := ⟨"CheckRules$Declaration", "lineBits", "()I"⟩
set_option maxRecDepth 100000 in
theorem mc_Decl_lineBits : Cond.code y_Decl_lineBits prog_2_method_7_code 4 ((some FieldType.int)) ∈ zTs := zT_in 309 rfl rfl
def y_Tre_size : MethodName := ⟨"CheckRules$Tree", "size", "()I"⟩
set_option maxRecDepth 100000 in
theorem mc_Tre_size : Cond.code y_Tre_size prog_7_method_5_code 1 ((some FieldType.int)) ∈ zTs := zT_in 314 rfl rfl
def y_Wrk_workOutNode : MethodName := ⟨"CheckRules$Worker", "workOutNode", "(LCheckRules$Tree;I)V"⟩
set_option maxRecDepth 100000 in
theorem mc_Wrk_workOutNode : Cond.code y_Wrk_workOutNode prog_8_method_3_code 8 (none) ∈ zTs := zT_in 321 rfl rfl
def y_Tre_kindOf : MethodName := ⟨"CheckRules$Tree", "kindOf", "(I)I"⟩
set_option maxRecDepth 100000 in
theorem mc_Tre_kindOf : Cond.code y_Tre_kindOf prog_7_method_10_code 2 ((some FieldType.int)) ∈ zTs := zT_in 325 rfl rfl
def y_Tre_has : MethodName := ⟨"CheckRules$Tree", "has", "(I)Z"⟩
set_option maxRecDepth 100000 in
theorem mc_Tre_has : Cond.code y_Tre_has prog_7_method_9_code 2 ((some FieldType.boolean)) ∈ zTs := zT_in 329 rfl rfl
def y_Tre_valueOf : MethodName := ⟨"CheckRules$Tree", "valueOf", "(I)I"⟩
set_option maxRecDepth 100000 in
theorem mc_Tre_valueOf : Cond.code y_Tre_valueOf prog_7_method_11_code 2 ((some FieldType.int)) ∈ zTs := zT_in 333 rfl rfl
def y_Wrk_setOnAllLines : MethodName := ⟨"CheckRules$Worker", "setOnAllLines", "(II)V"⟩
set_option maxRecDepth 100000 in
theorem mc_Wrk_setOnAllLines : Cond.code y_Wrk_setOnAllLines prog_8_method_11_code 4 (none) ∈ zTs := zT_in 337 rfl rfl
def y_Wrk_setResult : MethodName := ⟨"CheckRules$Worker", "setResult", "(III)V"⟩
set_option maxRecDepth 100000 in
theorem mc_Wrk_setResult : Cond.code y_Wrk_setResult prog_8_method_12_code 5 (none) ∈ zTs := zT_in 341 rfl rfl
def y_Decl_sumOf : MethodName := ⟨"CheckRules$Declaration", "sumOf", "(I)I"⟩
set_option maxRecDepth 100000 in
theorem mc_Decl_sumOf : Cond.code y_Decl_sumOf prog_2_method_5_code 5 ((some FieldType.int)) ∈ zTs := zT_in 345 rfl rfl
def y_Decl_countOf : MethodName := ⟨"CheckRules$Declaration", "countOf", "(I)I"⟩
set_option maxRecDepth 100000 in
theorem mc_Decl_countOf : Cond.code y_Decl_countOf prog_2_method_6_code 4 ((some FieldType.int)) ∈ zTs := zT_in 349 rfl rfl
def y_Tre_leftOf : MethodName := ⟨"CheckRules$Tree", "leftOf", "(I)I"⟩
set_option maxRecDepth 100000 in
theorem mc_Tre_leftOf : Cond.code y_Tre_leftOf prog_7_method_12_code 2 ((some FieldType.int)) ∈ zTs := zT_in 353 rfl rfl
def y_Wrk_overLines : MethodName := ⟨"CheckRules$Worker", "overLines", "(II)I"⟩
set_option maxRecDepth 100000 in
theorem mc_Wrk_overLines : Cond.code y_Wrk_overLines prog_8_method_4_code 6 ((some FieldType.int)) ∈ zTs := zT_in 357 rfl rfl
def y_Wrk_resultOf : MethodName := ⟨"CheckRules$Worker", "resultOf", "(II)I"⟩
set_option maxRecDepth 100000 in
theorem mc_Wrk_resultOf : Cond.code y_Wrk_resultOf prog_8_method_13_code 4 ((some FieldType.int)) ∈ zTs := zT_in 361 rfl rfl
def y_Wrk_both : MethodName := ⟨"CheckRules$Worker", "both", "(II)I"⟩
set_option maxRecDepth 100000 in
theorem mc_Wrk_both : Cond.code y_Wrk_both prog_8_method_8_code 2 ((some FieldType.int)) ∈ zTs := zT_in 365 rfl rfl
def y_Wrk_either : MethodName := ⟨"CheckRules$Worker", "either", "(II)I"⟩
set_option maxRecDepth 100000 in
theorem mc_Wrk_either : Cond.code y_Wrk_either prog_8_method_9_code 2 ((some FieldType.int)) ∈ zTs := zT_in 368 rfl rfl
def y_Wrk_turned : MethodName := ⟨"CheckRules$Worker", "turned", "(I)I"⟩
set_option maxRecDepth 100000 in
theorem mc_Wrk_turned : Cond.code y_Wrk_turned prog_8_method_10_code 1 ((some FieldType.int)) ∈ zTs := zT_in 371 rfl rfl
def y_Tre_rightOf : MethodName := ⟨"CheckRules$Tree", "rightOf", "(I)I"⟩
set_option maxRecDepth 100000 in
theorem mc_Tre_rightOf : Cond.code y_Tre_rightOf prog_7_method_13_code 2 ((some FieldType.int)) ∈ zTs := zT_in 376 rfl rfl
def y_Wrk_joined : MethodName := ⟨"CheckRules$Worker", "joined", "(III)I"⟩
set_option maxRecDepth 100000 in
theorem mc_Wrk_joined : Cond.code y_Wrk_joined prog_8_method_5_code 3 ((some FieldType.int)) ∈ zTs := zT_in 379 rfl rfl
def y_Wrk_calculated : MethodName := ⟨"CheckRules$Worker", "calculated", "(III)I"⟩
set_option maxRecDepth 100000 in
theorem mc_Wrk_calculated : Cond.code y_Wrk_calculated prog_8_method_6_code 4 ((some FieldType.int)) ∈ zTs := zT_in 382 rfl rfl
def y_Wrk_holds : MethodName := ⟨"CheckRules$Worker", "holds", "(III)Z"⟩
set_option maxRecDepth 100000 in
theorem mc_Wrk_holds : Cond.code y_Wrk_holds prog_8_method_7_code 3 ((some FieldType.boolean)) ∈ zTs := zT_in 385 rfl rfl
def y_Rul_takeResult : MethodName := ⟨"CheckRules$Rule", "takeResult", "(I)V"⟩
set_option maxRecDepth 100000 in
theorem mc_Rul_takeResult : Cond.code y_Rul_takeResult prog_5_method_2_code 2 (none) ∈ zTs := zT_in 389 rfl rfl
def y_Cls_findBad : MethodName := ⟨"CheckRules", "findBad", "(IZ)I"⟩
set_option maxRecDepth 100000 in
theorem mc_Cls_findBad : Cond.code y_Cls_findBad prog_1_method_23_code 7 ((some FieldType.int)) ∈ zTs := zT_in 393 rfl rfl
def y_Rul_isBad : MethodName := ⟨"CheckRules$Rule", "isBad", "(Z)Z"⟩
set_option maxRecDepth 100000 in
theorem mc_Rul_isBad : Cond.code y_Rul_isBad prog_5_method_3_code 2 ((some FieldType.boolean)) ∈ zTs := zT_in 397 rfl rfl
def y_Cls_bad : MethodName := ⟨"CheckRules", "bad", "(IZ)I"⟩
set_option maxRecDepth 100000 in
theorem mc_Cls_bad : Cond.code y_Cls_bad prog_1_method_10_code 3 ((some FieldType.int)) ∈ zTs := zT_in 401 rfl rfl
def y_Cls_answer : MethodName := ⟨"CheckRules", "answer", "(I)Z"⟩
set_option maxRecDepth 100000 in
theorem mc_Cls_answer : Cond.code y_Cls_answer prog_1_method_13_code 3 ((some FieldType.boolean)) ∈ zTs := zT_in 405 rfl rfl
def y_Cls_never : MethodName := ⟨"CheckRules", "never", "(I)I"⟩
set_option maxRecDepth 100000 in
theorem mc_Cls_never : Cond.code y_Cls_never prog_1_method_15_code 5 ((some FieldType.int)) ∈ zTs := zT_in 409 rfl rfl
def y_Cls_count : MethodName := ⟨"CheckRules", "count", "(I)I"⟩
set_option maxRecDepth 100000 in
theorem mc_Cls_count : Cond.code y_Cls_count prog_1_method_19_code 2 ((some FieldType.int)) ∈ zTs := zT_in 413 rfl rfl
def y_Sgn_size : MethodName := ⟨"CheckRules$Signs", "size", "()I"⟩
set_option maxRecDepth 100000 in
theorem mc_Sgn_size : Cond.code y_Sgn_size prog_6_method_2_code 1 ((some FieldType.int)) ∈ zTs := zT_in 417 rfl rfl
def y_Cls_countBad : MethodName := ⟨"CheckRules", "countBad", "(Z)I"⟩
set_option maxRecDepth 100000 in
theorem mc_Cls_countBad : Cond.code y_Cls_countBad prog_1_method_24_code 5 ((some FieldType.int)) ∈ zTs := zT_in 421 rfl rfl
def y_Cls_countNodes : MethodName := ⟨"CheckRules", "countNodes", "(I)I"⟩
set_option maxRecDepth 100000 in
theorem mc_Cls_countNodes : Cond.code y_Cls_countNodes prog_1_method_20_code 3 ((some FieldType.int)) ∈ zTs := zT_in 426 rfl rfl
def y_Cls_rule : MethodName := ⟨"CheckRules", "rule", "()I"⟩
set_option maxRecDepth 100000 in
theorem mc_Cls_rule : Cond.code y_Cls_rule prog_1_method_3_code 2 ((some FieldType.int)) ∈ zTs := zT_in 435 rfl rfl
def y_Rdr_readText : MethodName := ⟨"CheckRules$Reader", "readText", "()I"⟩
set_option maxRecDepth 100000 in
theorem mc_Rdr_readText : Cond.code y_Rdr_readText prog_4_method_3_code 2 ((some FieldType.int)) ∈ zTs := zT_in 507 rfl rfl
def y_Tre_clear : MethodName := ⟨"CheckRules$Tree", "clear", "()V"⟩
set_option maxRecDepth 100000 in
theorem mc_Tre_clear : Cond.code y_Tre_clear prog_7_method_4_code 1 (none) ∈ zTs := zT_in 511 rfl rfl
def y_Rdr_beginLevel : MethodName := ⟨"CheckRules$Reader", "beginLevel", "(I)Z"⟩
set_option maxRecDepth 100000 in
theorem mc_Rdr_beginLevel : Cond.code y_Rdr_beginLevel prog_4_method_13_code 2 ((some FieldType.boolean)) ∈ zTs := zT_in 515 rfl rfl
def y_Rdr_readToken : MethodName := ⟨"CheckRules$Reader", "readToken", "()V"⟩
set_option maxRecDepth 100000 in
theorem mc_Rdr_readToken : Cond.code y_Rdr_readToken prog_4_method_15_code 2 (none) ∈ zTs := zT_in 520 rfl rfl
def y_Sgn_get : MethodName := ⟨"CheckRules$Signs", "get", "(I)I"⟩
set_option maxRecDepth 100000 in
theorem mc_Sgn_get : Cond.code y_Sgn_get prog_6_method_5_code 2 ((some FieldType.int)) ∈ zTs := zT_in 524 rfl rfl
def y_Rdr_isDigit : MethodName := ⟨"CheckRules$Reader", "isDigit", "(I)Z"⟩
set_option maxRecDepth 100000 in
theorem mc_Rdr_isDigit : Cond.code y_Rdr_isDigit prog_4_method_19_code 1 ((some FieldType.boolean)) ∈ zTs := zT_in 527 rfl rfl
def y_Rdr_readNumber : MethodName := ⟨"CheckRules$Reader", "readNumber", "(I)Z"⟩
set_option maxRecDepth 100000 in
theorem mc_Rdr_readNumber : Cond.code y_Rdr_readNumber prog_4_method_16_code 4 ((some FieldType.boolean)) ∈ zTs := zT_in 531 rfl rfl
def y_Rdr_isLetter : MethodName := ⟨"CheckRules$Reader", "isLetter", "(I)Z"⟩
set_option maxRecDepth 100000 in
theorem mc_Rdr_isLetter : Cond.code y_Rdr_isLetter prog_4_method_20_code 1 ((some FieldType.boolean)) ∈ zTs := zT_in 534 rfl rfl
def y_Rdr_readWord : MethodName := ⟨"CheckRules$Reader", "readWord", "()I"⟩
set_option maxRecDepth 100000 in
theorem mc_Rdr_readWord : Cond.code y_Rdr_readWord prog_4_method_17_code 2 ((some FieldType.int)) ∈ zTs := zT_in 538 rfl rfl
def y_Rdr_isWord : MethodName := ⟨"CheckRules$Reader", "isWord", "(Ljava/lang/String;)Z"⟩
set_option maxRecDepth 100000 in
theorem mc_Rdr_isWord : Cond.code y_Rdr_isWord prog_4_method_18_code 3 ((some FieldType.boolean)) ∈ zTs := zT_in 543 rfl rfl
def y_Rdr_takeToken : MethodName := ⟨"CheckRules$Reader", "takeToken", "()Z"⟩
set_option maxRecDepth 100000 in
theorem mc_Rdr_takeToken : Cond.code y_Rdr_takeToken prog_4_method_4_code 1 ((some FieldType.boolean)) ∈ zTs := zT_in 599 rfl rfl
def y_Rdr_takePart : MethodName := ⟨"CheckRules$Reader", "takePart", "()Z"⟩
set_option maxRecDepth 100000 in
theorem mc_Rdr_takePart : Cond.code y_Rdr_takePart prog_4_method_5_code 1 ((some FieldType.boolean)) ∈ zTs := zT_in 603 rfl rfl
def y_Rdr_goDeeper : MethodName := ⟨"CheckRules$Reader", "goDeeper", "()Z"⟩
set_option maxRecDepth 100000 in
theorem mc_Rdr_goDeeper : Cond.code y_Rdr_goDeeper prog_4_method_12_code 1 ((some FieldType.boolean)) ∈ zTs := zT_in 607 rfl rfl
def y_Tre_append : MethodName := ⟨"CheckRules$Tree", "append", "(II)Z"⟩
set_option maxRecDepth 100000 in
theorem mc_Tre_append : Cond.code y_Tre_append prog_7_method_6_code 3 ((some FieldType.boolean)) ∈ zTs := zT_in 611 rfl rfl
def y_Rdr_takeTerm : MethodName := ⟨"CheckRules$Reader", "takeTerm", "()Z"⟩
set_option maxRecDepth 100000 in
theorem mc_Rdr_takeTerm : Cond.code y_Rdr_takeTerm prog_4_method_6_code 1 ((some FieldType.boolean)) ∈ zTs := zT_in 615 rfl rfl
def y_Rdr_takeFieldOfSum : MethodName := ⟨"CheckRules$Reader", "takeFieldOfSum", "()Z"⟩
set_option maxRecDepth 100000 in
theorem mc_Rdr_takeFieldOfSum : Cond.code y_Rdr_takeFieldOfSum prog_4_method_7_code 1 ((some FieldType.boolean)) ∈ zTs := zT_in 619 rfl rfl
def y_Tre_setLastValue : MethodName := ⟨"CheckRules$Tree", "setLastValue", "(I)V"⟩
set_option maxRecDepth 100000 in
theorem mc_Tre_setLastValue : Cond.code y_Tre_setLastValue prog_7_method_8_code 2 (none) ∈ zTs := zT_in 623 rfl rfl
def y_Rdr_takeBehindTerm : MethodName := ⟨"CheckRules$Reader", "takeBehindTerm", "()Z"⟩
set_option maxRecDepth 100000 in
theorem mc_Rdr_takeBehindTerm : Cond.code y_Rdr_takeBehindTerm prog_4_method_8_code 1 ((some FieldType.boolean)) ∈ zTs := zT_in 627 rfl rfl
def y_Rdr_kindOfToken : MethodName := ⟨"CheckRules$Reader", "kindOfToken", "()I"⟩
set_option maxRecDepth 100000 in
theorem mc_Rdr_kindOfToken : Cond.code y_Rdr_kindOfToken prog_4_method_10_code 1 ((some FieldType.int)) ∈ zTs := zT_in 631 rfl rfl
def y_Tre_insert : MethodName := ⟨"CheckRules$Tree", "insert", "(II)Z"⟩
set_option maxRecDepth 100000 in
theorem mc_Tre_insert : Cond.code y_Tre_insert prog_7_method_7_code 4 ((some FieldType.boolean)) ∈ zTs := zT_in 693 rfl rfl
def y_Rdr_compare : MethodName := ⟨"CheckRules$Reader", "compare", "()Z"⟩
set_option maxRecDepth 100000 in
theorem mc_Rdr_compare : Cond.code y_Rdr_compare prog_4_method_9_code 1 ((some FieldType.boolean)) ∈ zTs := zT_in 698 rfl rfl
def y_Rdr_takeBehindPart : MethodName := ⟨"CheckRules$Reader", "takeBehindPart", "()Z"⟩
set_option maxRecDepth 100000 in
theorem mc_Rdr_takeBehindPart : Cond.code y_Rdr_takeBehindPart prog_4_method_11_code 2 ((some FieldType.boolean)) ∈ zTs := zT_in 702 rfl rfl
def y_Rdr_endLevel : MethodName := ⟨"CheckRules$Reader", "endLevel", "()Z"⟩
set_option maxRecDepth 100000 in
theorem mc_Rdr_endLevel : Cond.code y_Rdr_endLevel prog_4_method_14_code 1 ((some FieldType.boolean)) ∈ zTs := zT_in 706 rfl rfl
def y_Sgn_clear : MethodName := ⟨"CheckRules$Signs", "clear", "()V"⟩
set_option maxRecDepth 100000 in
theorem mc_Sgn_clear : Cond.code y_Sgn_clear prog_6_method_3_code 1 (none) ∈ zTs := zT_in 710 rfl rfl
def y_Rdr_copyOfTree : MethodName := ⟨"CheckRules$Reader", "copyOfTree", "()LCheckRules$Tree;"⟩
set_option maxRecDepth 100000 in
theorem mc_Rdr_copyOfTree : Cond.code y_Rdr_copyOfTree prog_4_method_2_code 1 ((some (FieldType.object "CheckRules$Tree"))) ∈ zTs := zT_in 715 rfl rfl
def y_Tre_copy : MethodName := ⟨"CheckRules$Tree", "copy", "()LCheckRules$Tree;"⟩
set_option maxRecDepth 100000 in
theorem mc_Tre_copy : Cond.code y_Tre_copy prog_7_method_3_code 1 ((some (FieldType.object "CheckRules$Tree"))) ∈ zTs := zT_in 719 rfl rfl
def y_Tre_init2 : MethodName := ⟨"CheckRules$Tree", "<init>", "(LCheckRules$Tree;)V"⟩
set_option maxRecDepth 100000 in
theorem mc_Tre_init2 : Cond.code y_Tre_init2 prog_7_method_2_code 2 (none) ∈ zTs := zT_in 723 rfl rfl
def y_Arrays_copyOf : MethodName := ⟨"java/util/Arrays", "copyOf", "([II)[I"⟩
set_option maxRecDepth 100000 in
theorem mc_Arrays_copyOf : Cond.code y_Arrays_copyOf prog_24_method_123_code 3 ((some (FieldType.array FieldType.int))) ∈ zTs := zT_in 728 rfl rfl
def y_Rul_init : MethodName := ⟨"CheckRules$Rule", "<init>", "(LCheckRules$Tree;)V"⟩
set_option maxRecDepth 100000 in
theorem mc_Rul_init : Cond.code y_Rul_init prog_5_method_1_code 2 (none) ∈ zTs := zT_in 742 rfl rfl
def y_Cls_was : MethodName := ⟨"CheckRules", "was", "(I)I"⟩
set_option maxRecDepth 100000 in
theorem mc_Cls_was : Cond.code y_Cls_was prog_1_method_11_code 3 ((some FieldType.int)) ∈ zTs := zT_in 784 rfl rfl
def y_Cls_is : MethodName := ⟨"CheckRules", "is", "(I)I"⟩
set_option maxRecDepth 100000 in
theorem mc_Cls_is : Cond.code y_Cls_is prog_1_method_12_code 3 ((some FieldType.int)) ∈ zTs := zT_in 807 rfl rfl
def y_Cls_touch : MethodName := ⟨"CheckRules", "touch", "(I)I"⟩
set_option maxRecDepth 100000 in
theorem mc_Cls_touch : Cond.code y_Cls_touch prog_1_method_14_code 5 ((some FieldType.int)) ∈ zTs := zT_in 814 rfl rfl
def y_Tre_names : MethodName := ⟨"CheckRules$Tree", "names", "(I)Z"⟩
set_option maxRecDepth 100000 in
theorem mc_Tre_names : Cond.code y_Tre_names prog_7_method_14_code 3 ((some FieldType.boolean)) ∈ zTs := zT_in 819 rfl rfl
def y_Cls_node : MethodName := ⟨"CheckRules", "node", "(III)I"⟩
set_option maxRecDepth 100000 in
theorem mc_Cls_node : Cond.code y_Cls_node prog_1_method_16_code 5 ((some FieldType.int)) ∈ zTs := zT_in 829 rfl rfl
def y_Cls_print : MethodName := ⟨"CheckRules", "print", "(I)I"⟩
set_option maxRecDepth 100000 in
theorem mc_Cls_print : Cond.code y_Cls_print prog_1_method_17_code 3 ((some FieldType.int)) ∈ zTs := zT_in 856 rfl rfl
def y_Prt_printTree : MethodName := ⟨"CheckRules$Printer", "printTree", "(LCheckRules$Tree;)V"⟩
set_option maxRecDepth 100000 in
theorem mc_Prt_printTree : Cond.code y_Prt_printTree prog_3_method_2_code 2 (none) ∈ zTs := zT_in 860 rfl rfl
def y_Prt_printNode : MethodName := ⟨"CheckRules$Printer", "printNode", "(LCheckRules$Tree;II)V"⟩
set_option maxRecDepth 100000 in
theorem mc_Prt_printNode : Cond.code y_Prt_printNode prog_3_method_3_code 5 (none) ∈ zTs := zT_in 865 rfl rfl
def y_Prt_printBelow : MethodName := ⟨"CheckRules$Printer", "printBelow", "(LCheckRules$Tree;III)V"⟩
set_option maxRecDepth 100000 in
theorem mc_Prt_printBelow : Cond.code y_Prt_printBelow prog_3_method_4_code 7 (none) ∈ zTs := zT_in 872 rfl rfl
def y_Prt_needsBrackets : MethodName := ⟨"CheckRules$Printer", "needsBrackets", "(IIZ)Z"⟩
set_option maxRecDepth 100000 in
theorem mc_Prt_needsBrackets : Cond.code y_Prt_needsBrackets prog_3_method_5_code 3 ((some FieldType.boolean)) ∈ zTs := zT_in 876 rfl rfl
def y_Prt_addWord : MethodName := ⟨"CheckRules$Printer", "addWord", "(Ljava/lang/String;)V"⟩
set_option maxRecDepth 100000 in
theorem mc_Prt_addWord : Cond.code y_Prt_addWord prog_3_method_8_code 3 (none) ∈ zTs := zT_in 882 rfl rfl
def y_Prt_printTerm : MethodName := ⟨"CheckRules$Printer", "printTerm", "(II)V"⟩
set_option maxRecDepth 100000 in
theorem mc_Prt_printTerm : Cond.code y_Prt_printTerm prog_3_method_6_code 3 (none) ∈ zTs := zT_in 889 rfl rfl
def y_Prt_addNumber : MethodName := ⟨"CheckRules$Printer", "addNumber", "(I)V"⟩
set_option maxRecDepth 100000 in
theorem mc_Prt_addNumber : Cond.code y_Prt_addNumber prog_3_method_7_code 3 (none) ∈ zTs := zT_in 895 rfl rfl
def y_Prt_addSignOf : MethodName := ⟨"CheckRules$Printer", "addSignOf", "(I)V"⟩
set_option maxRecDepth 100000 in
theorem mc_Prt_addSignOf : Cond.code y_Prt_addSignOf prog_3_method_9_code 2 (none) ∈ zTs := zT_in 900 rfl rfl
def y_Cls_at : MethodName := ⟨"CheckRules", "at", "(I)I"⟩
set_option maxRecDepth 100000 in
theorem mc_Cls_at : Cond.code y_Cls_at prog_1_method_18_code 3 ((some FieldType.int)) ∈ zTs := zT_in 908 rfl rfl
def y_Mod_init : MethodName := ⟨"CheckRulesModel", "<init>", "()V"⟩
set_option maxRecDepth 100000 in
theorem mc_Mod_init : Cond.code y_Mod_init prog_10_method_1_code 1 (none) ∈ zTs := zT_in 915 rfl rfl
def y_Mod_thrown : MethodName := ⟨"CheckRulesModel", "thrown", "()I"⟩
set_option maxRecDepth 100000 in
theorem mc_Mod_thrown : Cond.code y_Mod_thrown prog_10_method_2_code 1 ((some FieldType.int)) ∈ zTs := zT_in 1037 rfl rfl
def y_Mod_sign : MethodName := ⟨"CheckRulesModel", "sign", "(I)Z"⟩
set_option maxRecDepth 100000 in
theorem mc_Mod_sign : Cond.code y_Mod_sign prog_10_method_5_code 2 ((some FieldType.boolean)) ∈ zTs := zT_in 1041 rfl rfl
def y_Mod_in : MethodName := ⟨"CheckRulesModel", "in", "(III)Z"⟩
set_option maxRecDepth 100000 in
theorem mc_Mod_in : Cond.code y_Mod_in prog_10_method_3_code 3 ((some FieldType.boolean)) ∈ zTs := zT_in 1044 rfl rfl
def y_Mod_rule : MethodName := ⟨"CheckRulesModel", "rule", "()I"⟩
set_option maxRecDepth 100000 in
theorem mc_Mod_rule : Cond.code y_Mod_rule prog_10_method_24_code 2 ((some FieldType.int)) ∈ zTs := zT_in 1048 rfl rfl
def y_Mod_read : MethodName := ⟨"CheckRulesModel", "read", "()I"⟩
set_option maxRecDepth 100000 in
theorem mc_Mod_read : Cond.code y_Mod_read prog_10_method_22_code 6 ((some FieldType.int)) ∈ zTs := zT_in 1052 rfl rfl
def y_Mod_begins : MethodName := ⟨"CheckRulesModel", "begins", "()Z"⟩
set_option maxRecDepth 100000 in
theorem mc_Mod_begins : Cond.code y_Mod_begins prog_10_method_19_code 4 ((some FieldType.boolean)) ∈ zTs := zT_in 1056 rfl rfl
def y_Mod_look : MethodName := ⟨"CheckRulesModel", "look", "()I"⟩
set_option maxRecDepth 100000 in
theorem mc_Mod_look : Cond.code y_Mod_look prog_10_method_6_code 1 ((some FieldType.int)) ∈ zTs := zT_in 1060 rfl rfl
def y_Mod_word : MethodName := ⟨"CheckRulesModel", "word", "()I"⟩
set_option maxRecDepth 100000 in
theorem mc_Mod_word : Cond.code y_Mod_word prog_10_method_9_code 4 ((some FieldType.int)) ∈ zTs := zT_in 1064 rfl rfl
def y_Mod_isSmall : MethodName := ⟨"CheckRulesModel", "isSmall", "(I)Z"⟩
set_option maxRecDepth 100000 in
theorem mc_Mod_isSmall : Cond.code y_Mod_isSmall prog_10_method_8_code 1 ((some FieldType.boolean)) ∈ zTs := zT_in 1067 rfl rfl
def y_Mod_node : MethodName := ⟨"CheckRulesModel", "node", "(II)I"⟩
set_option maxRecDepth 100000 in
theorem mc_Mod_node : Cond.code y_Mod_node prog_10_method_11_code 3 ((some FieldType.int)) ∈ zTs := zT_in 1078 rfl rfl
def y_Mod_fail : MethodName := ⟨"CheckRulesModel", "fail", "(I)V"⟩
set_option maxRecDepth 100000 in
theorem mc_Mod_fail : Cond.code y_Mod_fail prog_10_method_10_code 2 (none) ∈ zTs := zT_in 1082 rfl rfl
def y_Mod_enter : MethodName := ⟨"CheckRulesModel", "enter", "(I)V"⟩
set_option maxRecDepth 100000 in
theorem mc_Mod_enter : Cond.code y_Mod_enter prog_10_method_13_code 2 (none) ∈ zTs := zT_in 1086 rfl rfl
def y_Mod_push : MethodName := ⟨"CheckRulesModel", "push", "(II)V"⟩
set_option maxRecDepth 100000 in
theorem mc_Mod_push : Cond.code y_Mod_push prog_10_method_12_code 3 (none) ∈ zTs := zT_in 1090 rfl rfl
def y_Mod_comparison : MethodName := ⟨"CheckRulesModel", "comparison", "()I"⟩
set_option maxRecDepth 100000 in
theorem mc_Mod_comparison : Cond.code y_Mod_comparison prog_10_method_18_code 6 ((some FieldType.int)) ∈ zTs := zT_in 1094 rfl rfl
def y_Mod_sum : MethodName := ⟨"CheckRulesModel", "sum", "()I"⟩
set_option maxRecDepth 100000 in
theorem mc_Mod_sum : Cond.code y_Mod_sum prog_10_method_17_code 4 ((some FieldType.int)) ∈ zTs := zT_in 1098 rfl rfl
def y_Mod_term : MethodName := ⟨"CheckRulesModel", "term", "()I"⟩
set_option maxRecDepth 100000 in
theorem mc_Mod_term : Cond.code y_Mod_term prog_10_method_16_code 6 ((some FieldType.int)) ∈ zTs := zT_in 1102 rfl rfl
def y_Mod_isDigit : MethodName := ⟨"CheckRulesModel", "isDigit", "(I)Z"⟩
set_option maxRecDepth 100000 in
theorem mc_Mod_isDigit : Cond.code y_Mod_isDigit prog_10_method_7_code 1 ((some FieldType.boolean)) ∈ zTs := zT_in 1105 rfl rfl
def y_Mod_digits : MethodName := ⟨"CheckRulesModel", "digits", "(II)I"⟩
set_option maxRecDepth 100000 in
theorem mc_Mod_digits : Cond.code y_Mod_digits prog_10_method_14_code 5 ((some FieldType.int)) ∈ zTs := zT_in 1109 rfl rfl
def y_Mod_field : MethodName := ⟨"CheckRulesModel", "field", "()I"⟩
set_option maxRecDepth 100000 in
theorem mc_Mod_field : Cond.code y_Mod_field prog_10_method_15_code 4 ((some FieldType.int)) ∈ zTs := zT_in 1113 rfl rfl
def y_Mod_taken : MethodName := ⟨"CheckRulesModel", "taken", "(I)I"⟩
set_option maxRecDepth 100000 in
theorem mc_Mod_taken : Cond.code y_Mod_taken prog_10_method_20_code 4 ((some FieldType.int)) ∈ zTs := zT_in 1117 rfl rfl
def y_Mod_or : MethodName := ⟨"CheckRulesModel", "or", "(I)I"⟩
set_option maxRecDepth 100000 in
theorem mc_Mod_or : Cond.code y_Mod_or prog_10_method_21_code 2 ((some FieldType.int)) ∈ zTs := zT_in 1121 rfl rfl
def y_Mod_number : MethodName := ⟨"CheckRulesModel", "number", "(II)V"⟩
set_option maxRecDepth 100000 in
theorem mc_Mod_number : Cond.code y_Mod_number prog_10_method_23_code 8 (none) ∈ zTs := zT_in 1125 rfl rfl
def y_Mod_order : MethodName := ⟨"CheckRulesModel", "order", "(IIZ)Z"⟩
set_option maxRecDepth 100000 in
theorem mc_Mod_order : Cond.code y_Mod_order prog_10_method_25_code 4 ((some FieldType.boolean)) ∈ zTs := zT_in 1129 rfl rfl
def y_Mod_isRule : MethodName := ⟨"CheckRulesModel", "isRule", "(I)Z"⟩
set_option maxRecDepth 100000 in
theorem mc_Mod_isRule : Cond.code y_Mod_isRule prog_10_method_4_code 2 ((some FieldType.boolean)) ∈ zTs := zT_in 1133 rfl rfl
def y_Mod_edition : MethodName := ⟨"CheckRulesModel", "edition", "(II)Z"⟩
set_option maxRecDepth 100000 in
theorem mc_Mod_edition : Cond.code y_Mod_edition prog_10_method_26_code 3 ((some FieldType.boolean)) ∈ zTs := zT_in 1137 rfl rfl
def y_Mod_day : MethodName := ⟨"CheckRulesModel", "day", "(I)Z"⟩
set_option maxRecDepth 100000 in
theorem mc_Mod_day : Cond.code y_Mod_day prog_10_method_27_code 2 ((some FieldType.boolean)) ∈ zTs := zT_in 1142 rfl rfl
def y_Mod_field2 : MethodName := ⟨"CheckRulesModel", "field", "(III)Z"⟩
set_option maxRecDepth 100000 in
theorem mc_Mod_field2 : Cond.code y_Mod_field2 prog_10_method_28_code 4 ((some FieldType.boolean)) ∈ zTs := zT_in 1146 rfl rfl
def y_Mod_without : MethodName := ⟨"CheckRulesModel", "without", "(II)Z"⟩
set_option maxRecDepth 100000 in
theorem mc_Mod_without : Cond.code y_Mod_without prog_10_method_29_code 3 ((some FieldType.boolean)) ∈ zTs := zT_in 1152 rfl rfl
def y_Mod_check : MethodName := ⟨"CheckRulesModel", "check", "()I"⟩
set_option maxRecDepth 100000 in
theorem mc_Mod_check : Cond.code y_Mod_check prog_10_method_39_code 4 ((some FieldType.int)) ∈ zTs := zT_in 1156 rfl rfl
def y_Mod_work : MethodName := ⟨"CheckRulesModel", "work", "(I)I"⟩
set_option maxRecDepth 100000 in
theorem mc_Mod_work : Cond.code y_Mod_work prog_10_method_38_code 4 ((some FieldType.int)) ∈ zTs := zT_in 1160 rfl rfl
def y_Mod_workNode : MethodName := ⟨"CheckRulesModel", "workNode", "(III)V"⟩
set_option maxRecDepth 100000 in
theorem mc_Mod_workNode : Cond.code y_Mod_workNode prog_10_method_37_code 8 (none) ∈ zTs := zT_in 1164 rfl rfl
def y_Mod_workTerm : MethodName := ⟨"CheckRulesModel", "workTerm", "(III)V"⟩
set_option maxRecDepth 100000 in
theorem mc_Mod_workTerm : Cond.code y_Mod_workTerm prog_10_method_31_code 6 (none) ∈ zTs := zT_in 1168 rfl rfl
def y_Mod_compared : MethodName := ⟨"CheckRulesModel", "compared", "(III)I"⟩
set_option maxRecDepth 100000 in
theorem mc_Mod_compared : Cond.code y_Mod_compared prog_10_method_35_code 7 ((some FieldType.int)) ∈ zTs := zT_in 1172 rfl rfl
def y_Mod_over : MethodName := ⟨"CheckRulesModel", "over", "(II)I"⟩
set_option maxRecDepth 100000 in
theorem mc_Mod_over : Cond.code y_Mod_over prog_10_method_36_code 5 ((some FieldType.int)) ∈ zTs := zT_in 1176 rfl rfl
def y_Mod_isThere : MethodName := ⟨"CheckRulesModel", "isThere", "(I)Z"⟩
set_option maxRecDepth 100000 in
theorem mc_Mod_isThere : Cond.code y_Mod_isThere prog_10_method_30_code 4 ((some FieldType.boolean)) ∈ zTs := zT_in 1180 rfl rfl
def y_Mod_and : MethodName := ⟨"CheckRulesModel", "and", "(II)I"⟩
set_option maxRecDepth 100000 in
theorem mc_Mod_and : Cond.code y_Mod_and prog_10_method_32_code 2 ((some FieldType.int)) ∈ zTs := zT_in 1183 rfl rfl
def y_Mod_or2 : MethodName := ⟨"CheckRulesModel", "or", "(II)I"⟩
set_option maxRecDepth 100000 in
theorem mc_Mod_or2 : Cond.code y_Mod_or2 prog_10_method_34_code 2 ((some FieldType.int)) ∈ zTs := zT_in 1186 rfl rfl
def y_Mod_not : MethodName := ⟨"CheckRulesModel", "not", "(I)I"⟩
set_option maxRecDepth 100000 in
theorem mc_Mod_not : Cond.code y_Mod_not prog_10_method_33_code 1 ((some FieldType.int)) ∈ zTs := zT_in 1189 rfl rfl
def y_Mod_badAt : MethodName := ⟨"CheckRulesModel", "badAt", "(IZ)I"⟩
set_option maxRecDepth 100000 in
theorem mc_Mod_badAt : Cond.code y_Mod_badAt prog_10_method_40_code 7 ((some FieldType.int)) ∈ zTs := zT_in 1193 rfl rfl
def y_Mod_bad : MethodName := ⟨"CheckRulesModel", "bad", "(IZ)I"⟩
set_option maxRecDepth 100000 in
theorem mc_Mod_bad : Cond.code y_Mod_bad prog_10_method_41_code 3 ((some FieldType.int)) ∈ zTs := zT_in 1197 rfl rfl
def y_Mod_was : MethodName := ⟨"CheckRulesModel", "was", "(I)I"⟩
set_option maxRecDepth 100000 in
theorem mc_Mod_was : Cond.code y_Mod_was prog_10_method_42_code 2 ((some FieldType.int)) ∈ zTs := zT_in 1201 rfl rfl
def y_Mod_is : MethodName := ⟨"CheckRulesModel", "is", "(I)I"⟩
set_option maxRecDepth 100000 in
theorem mc_Mod_is : Cond.code y_Mod_is prog_10_method_43_code 2 ((some FieldType.int)) ∈ zTs := zT_in 1205 rfl rfl
def y_Mod_answer : MethodName := ⟨"CheckRulesModel", "answer", "(I)Z"⟩
set_option maxRecDepth 100000 in
theorem mc_Mod_answer : Cond.code y_Mod_answer prog_10_method_44_code 2 ((some FieldType.boolean)) ∈ zTs := zT_in 1209 rfl rfl
def y_Mod_touch : MethodName := ⟨"CheckRulesModel", "touch", "(I)I"⟩
set_option maxRecDepth 100000 in
theorem mc_Mod_touch : Cond.code y_Mod_touch prog_10_method_45_code 6 ((some FieldType.int)) ∈ zTs := zT_in 1213 rfl rfl
def y_Mod_never : MethodName := ⟨"CheckRulesModel", "never", "(I)I"⟩
set_option maxRecDepth 100000 in
theorem mc_Mod_never : Cond.code y_Mod_never prog_10_method_46_code 5 ((some FieldType.int)) ∈ zTs := zT_in 1217 rfl rfl
def y_Mod_node2 : MethodName := ⟨"CheckRulesModel", "node", "(III)I"⟩
set_option maxRecDepth 100000 in
theorem mc_Mod_node2 : Cond.code y_Mod_node2 prog_10_method_47_code 5 ((some FieldType.int)) ∈ zTs := zT_in 1221 rfl rfl
def y_Mod_print : MethodName := ⟨"CheckRulesModel", "print", "(I)I"⟩
set_option maxRecDepth 100000 in
theorem mc_Mod_print : Cond.code y_Mod_print prog_10_method_52_code 5 ((some FieldType.int)) ∈ zTs := zT_in 1225 rfl rfl
def y_Mod_put : MethodName := ⟨"CheckRulesModel", "put", "(I)V"⟩
set_option maxRecDepth 100000 in
theorem mc_Mod_put : Cond.code y_Mod_put prog_10_method_48_code 2 (none) ∈ zTs := zT_in 1229 rfl rfl
def y_Mod_putTerm : MethodName := ⟨"CheckRulesModel", "putTerm", "(I)V"⟩
set_option maxRecDepth 100000 in
theorem mc_Mod_putTerm : Cond.code y_Mod_putTerm prog_10_method_50_code 2 (none) ∈ zTs := zT_in 1233 rfl rfl
def y_Mod_putNumber : MethodName := ⟨"CheckRulesModel", "putNumber", "(I)V"⟩
set_option maxRecDepth 100000 in
theorem mc_Mod_putNumber : Cond.code y_Mod_putNumber prog_10_method_49_code 4 (none) ∈ zTs := zT_in 1237 rfl rfl
def y_Mod_unfold : MethodName := ⟨"CheckRulesModel", "unfold", "(III)I"⟩
set_option maxRecDepth 100000 in
theorem mc_Mod_unfold : Cond.code y_Mod_unfold prog_10_method_51_code 10 ((some FieldType.int)) ∈ zTs := zT_in 1241 rfl rfl
def y_Mod_at : MethodName := ⟨"CheckRulesModel", "at", "(I)I"⟩
set_option maxRecDepth 100000 in
theorem mc_Mod_at : Cond.code y_Mod_at prog_10_method_53_code 2 ((some FieldType.int)) ∈ zTs := zT_in 1245 rfl rfl
def y_Mod_count : MethodName := ⟨"CheckRulesModel", "count", "(I)I"⟩
set_option maxRecDepth 100000 in
theorem mc_Mod_count : Cond.code y_Mod_count prog_10_method_54_code 6 ((some FieldType.int)) ∈ zTs := zT_in 1249 rfl rfl
