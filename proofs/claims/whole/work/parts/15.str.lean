section ZKR
variable {p : Program} {l : Launch} {e : Env} {R : Room} {s : State} {m : MethodId} {args : Array Value} {below : List Frame} {meth : Method} {c : Code} {cells slots : Nat} {Q : State → Prop} {D : va_G} {cl : List vw_C} {tys : List (ClassId × FieldType)} {b0 : Nat} {G : State → Prop} {cc : ByteArray} {nL : Nat} {own : String} {Ts : List Cond} {ret : Option FieldType} {N : Nat} {f : Nat → va_E} {pc : Nat} {lv : List (Nat × Value)} {st : List Value}
theorem z_getK (X : zX p s m args meth c D cl tys b0 G cc nL own Ts ret) {o n d ref : String} {index q : Nat} {v : Value} (hdg : decode cc pc = .ok (.getfield index, 3)) (hE : va_OF o n d v q (zA b0) s s.heap) (hlink : Cond.fieldLink own index ref n d ∈ Ts) (href : o = ref) (kk : zW p l e R s m args below meth c D cl b0 nL cells slots Q N f (pc + 3) lv (v :: st)) : zW p l e R s m args below meth c D cl b0 nL cells slots Q N f pc lv (.ref q :: st) := fun H locs ls hH hS hL => vk_getf X.1 X.2.1 hE hS X.2.2.2.1 (X.2.2.2.2.1 _ hlink) (fun x hx => by rw [← href]; exact hx) hdg (kk H locs ls hH hS hL)
theorem z_gets (X : zX p s m args meth c D cl tys b0 G cc nL own Ts ret) {o n d ref : String} {index : Nat} {v : Value} (hdg : decode cc pc = .ok (.getstatic index, 3)) (hE : va_Z o n d v (zA b0) s s.heap) (hlink : Cond.fieldLink own index ref n d ∈ Ts) (href : o = ref) (kk : zW p l e R s m args below meth c D cl b0 nL cells slots Q N f (pc + 3) lv (v :: st)) : zW p l e R s m args below meth c D cl b0 nL cells slots Q N f pc lv st := fun H locs ls hH hS hL => va_gets X.1 X.2.1 hE hS X.2.2.2.1 (X.2.2.2.2.1 _ hlink) (fun x hx => by rw [← href]; exact hx) hdg (kk H locs ls hH hS hL)
theorem z_getsq (X : zX p s m args meth c D cl tys b0 G cc nL own Ts ret) {o n d ref : String} {index : Nat} (hdg : decode cc pc = .ok (.getstatic index, 3)) (hE : va_Zq o n d (zA b0) s s.heap) (hlink : Cond.fieldLink own index ref n d ∈ Ts) (href : o = ref) (kk : ∀ r : Option Nat, True → zW p l e R s m args below meth c D cl b0 nL cells slots Q N f (pc + 3) lv (va_rf r :: st)) : zW p l e R s m args below meth c D cl b0 nL cells slots Q N f pc lv st := by
  rcases hE with h | ⟨t, h⟩
  · exact z_gets X hdg h hlink href (kk none trivial)
  · exact z_gets X hdg h hlink href (kk (some t) trivial)
theorem z_tlen (X : zX p s m args meth c D cl tys b0 G cc nL own Ts ret) {ty : FieldType} {t n : Nat} {g : Nat → Value} {v : Int32} (hdg : decode cc pc = .ok (.arraylength, 1)) (hT : va_T ty t n g (zA b0) s s.heap) (hv : Int32.ofNat n = v) (kk : zW p l e R s m args below meth c D cl b0 nL cells slots Q N f (pc + 1) lv (.int v :: st)) : zW p l e R s m args below meth c D cl b0 nL cells slots Q N f pc lv (.ref t :: st) := fun H locs ls hH hS hL => va_tlen X.1 X.2.1 hT hS hv hdg (kk H locs ls hH hS hL)
theorem z_tb (X : zX p s m args meth c D cl tys b0 G cc nL own Ts ret) {t n : Nat} {g : Nat → Value} {i : Int32} {v : Value} (hdg : decode cc pc = .ok (.baload, 1)) (hT : va_T .byte t n g (zA b0) s s.heap) (hi : vp_in i n) (hv : g i.toNatClampNeg = v) (kk : zW p l e R s m args below meth c D cl b0 nL cells slots Q N f (pc + 1) lv (v :: st)) : zW p l e R s m args below meth c D cl b0 nL cells slots Q N f pc lv (.int i :: .ref t :: st) := fun H locs ls hH hS hL => va_tb X.1 X.2.1 hT hS hi hv hdg (kk H locs ls hH hS hL)
theorem z_ldcS (X : zX p s m args meth c D cl tys b0 G cc nL own Ts ret) {tx : String} {index q : Nat} (hdg : decode cc pc = .ok (.ldc index, 2)) (hZ : vk_R own index tx q s) (kk : zW p l e R s m args below meth c D cl b0 nL cells slots Q N f (pc + 2) lv (.ref q :: st)) : zW p l e R s m args below meth c D cl b0 nL cells slots Q N f pc lv st := fun H locs ls hH hS hL => va_ldcS X.1 X.2.1 X.2.2.2.1 hZ hdg (kk H locs ls hH hS hL)
theorem z_nret {ty : FieldType} (X : zX p s m args meth c D cl tys b0 G cc nL own Ts (some ty)) {P : Option Value → Nat → (Nat → va_E) → Prop} {v : Int32} (hdg : decode cc pc = .ok (.ireturn, 1)) (hn : narrow ty (.int v) = .int v) (hP : P (some (.int v)) N f) : zW p l e R s m args below meth c D cl b0 nL cells slots (MQ below (zQ D cl b0 P) args s cells slots (zA b0)) N f pc lv [.int v] := fun H locs ls hH hS hL => W.zret X.1 X.2.1 X.2.2.2.2.2.2.2.1 hn (fun t ht hW => ⟨_, N, f, rfl, by rw [ht]; exact hH, fun q hq hq2 => by rw [ht]; exact hS.2.1 q hq hq2, by rw [← hH.1]; exact hS.1, hP⟩) hS.2.2 hdg X.2.2.2.2.2.2.2.2.1
theorem z_callVK (X : zX p s m args meth c D cl tys b0 G cc nL own Ts ret) {y : MethodName} {bytes : ByteArray} {maxL n index mc ms : Nat} {ret' : Option FieldType} {ws : List Cond} {rm : Room} {As : List Value} {P : Option Value → Nat → (Nat → va_E) → Prop} {st0 : List Value} (hg : zGok b0 G) {C : String} {a : Nat} (hM : zM l D cl tys b0 G y ws rm mc ms (.ref a :: As) N f P) (hdg : decode cc pc = .ok (.invokevirtual index, 3)) (cw : CallW R s args own C index y bytes maxL ret' ws rm mc ms n) (hO : va_O C a (zA b0) s s.heap) (hst : st0 = As.reverse ++ .ref a :: st) (hn : As.length = n) (hroom : (st.map fun v => v.category).sum ≤ 8) (hf9 : cells + mc ≤ R.cells ∧ slots + ms ≤ R.slots) (kk : ∀ (r : Option Value) (N' : Nat) (f' : Nat → va_E), P r N' f' → N ≤ N' → zW p l e R s m args below meth c D cl b0 nL (cells + mc) (slots + ms) Q N' f' (pc + 3) lv (r.toList ++ st)) : zW p l e R s m args below meth c D cl b0 nL cells slots Q N f pc lv st0 := fun H locs ls hH hS hL => by
  subst hst
  exact z_run X hH hS hL (va_runV (As := As) (rest := st) ⟨X.1, X.2.1, X.2.2.1, X.2.2.2.1, X.2.2.2.2.1⟩ hM cw ⟨zblind hg, va_Orecv hO hS, fun U hU hW => z_pre X (As := .ref a :: As) (fun _ h => h) hg hH hS U hU hW⟩ rfl hn hL.1 rfl (lv_room hroom) hdg hf9) kk
end ZKR
/-- a contract of a JDK method that the machine has no entry for -/
theorem zM.ofF {l : Launch} {D : va_G} {cl : List vw_C} {tys : List (ClassId × FieldType)} {b0 : Nat} {G : State → Prop} {Ts : List Cond} {y : MethodName} {rm : Room} {mc ms nL : Nat} {cc : ByteArray} {ret : Option FieldType} {As : List Value} {N : Nat} {f : Nat → va_E} {P : Option Value → Nat → (Nat → va_E) → Prop}
    (hgw : zGw G Ts) (hy : plainFor y = true) (hl : (lg_sl As).length ≤ nL)
    (body : ∀ (p : Program) (e : Env) (s : State) (m : MethodId) (args : Array Value) (below : List Frame) (meth : Method) (c : Code), zX p s m args meth c D cl tys b0 G cc nL y.cls Ts ret → meth.name = y.name → b0 ≤ N →
      zW p l e rm s m args below meth c D cl b0 nL 0 0 (MQ below (zQ D cl b0 P) args s mc ms (zA b0)) N f 0 (lv_args 0 As) []) : zM l D cl tys b0 G y [Cond.code y cc nL ret] rm mc ms As N f P := by
  refine va_MetF (cc := cc) (maxL := nL) (ret := ret) hy rfl ?_
  intro p e s m args below meth c s₁ B hml hv
  obtain ⟨rfl, hG, hK, hH, hb⟩ := hv
  have hown : s.vm.findClass y.cls = some m.cls := findClass_of_methodNamed B.named
  have X : zX p s m As.toArray meth c D cl tys b0 G cc nL y.cls Ts ret := ⟨B.exec, B.bytes, hml, hown, hgw s _ hG, hG, hK, B.returns, B.notSynchronized, by rw [hH.1]; exact hb⟩
  have hL := lv_entry As (n := nL) hl
  rw [lg_entry_eq]
  exact body p e s m As.toArray below meth c X (name_of_methodNamed B.named B.method).1 hb s.heap [] _ hH va_S.rf hL
section
variable {ad : (Nat → Nat) × (Nat → Nat)} {b0 j : Nat} {s : State}
theorem zG_sr (h : zG ad b0 s) (hj : j < 16) : vk_R (zSo j) (zSi j) (zSt j) (ad.1 j) s := (h.2.2.2.1 j hj).1
theorem zG_so (h : zG ad b0 s) (hj : j < 16) : va_O "java/lang/String" (ad.1 j) (zA b0) s s.heap := (h.2.2.2.1 j hj).2.1
theorem zG_scoder (h : zG ad b0 s) (hj : j < 16) : va_OF "java/lang/String" "coder" "B" (.int 0) (ad.1 j) (zA b0) s s.heap := (h.2.2.2.1 j hj).2.2.1
theorem zG_svalue (h : zG ad b0 s) (hj : j < 16) : va_OF "java/lang/String" "value" "[B" (.ref (ad.2 j)) (ad.1 j) (zA b0) s s.heap := (h.2.2.2.1 j hj).2.2.2.1
theorem zG_sb (h : zG ad b0 s) (hj : j < 16) : va_T .byte (ad.2 j) (zSb j).length (fun k => .int ((zSb j).getD k 0)) (zA b0) s s.heap := (h.2.2.2.1 j hj).2.2.2.2
end
/-- every literal: short, its bytes are bytes and their own chars -/
theorem zSb_ok : ∀ j, j < 16 → (zSb j).length < 100 ∧ ∀ k, k < (zSb j).length → ((zSb j).getD k 0).toInt8.toInt32 = (zSb j).getD k 0 ∧ (((zSb j).getD k 0) &&& 255) = (zSb j).getD k 0 ∧ (((zSb j).getD k 0).toUInt32 % 65536).toInt32 = (zSb j).getD k 0 ∧ vp_nar .char ((zSb j).getD k 0) = (zSb j).getD k 0 := by decide +kernel
def y_String_length : MethodName := ⟨"java/lang/String", "length", "()I"⟩
set_option maxRecDepth 100000 in
theorem mc_String_length : Cond.code y_String_length prog_19_method_54_code 1 ((some FieldType.int)) ∈ zTs := zT_in 547 rfl rfl
def y_String_coder : MethodName := ⟨"java/lang/String", "coder", "()B"⟩
set_option maxRecDepth 100000 in
theorem mc_String_coder : Cond.code y_String_coder prog_19_method_152_code 1 ((some FieldType.byte)) ∈ zTs := zT_in 551 rfl rfl
def y_String_charAt : MethodName := ⟨"java/lang/String", "charAt", "(I)C"⟩
set_option maxRecDepth 100000 in
theorem mc_String_charAt : Cond.code y_String_charAt prog_19_method_56_code 2 ((some FieldType.char)) ∈ zTs := zT_in 557 rfl rfl
def y_String_isLatin1 : MethodName := ⟨"java/lang/String", "isLatin1", "()Z"⟩
set_option maxRecDepth 100000 in
theorem mc_String_isLatin1 : Cond.code y_String_isLatin1 prog_19_method_154_code 1 ((some FieldType.boolean)) ∈ zTs := zT_in 561 rfl rfl
def y_StringLatin1_charAt : MethodName := ⟨"java/lang/StringLatin1", "charAt", "([BI)C"⟩
set_option maxRecDepth 100000 in
theorem mc_StringLatin1_charAt : Cond.code y_StringLatin1_charAt prog_20_method_2_code 2 ((some FieldType.char)) ∈ zTs := zT_in 564 rfl rfl
def y_String_checkIndex : MethodName := ⟨"java/lang/String", "checkIndex", "(II)V"⟩
set_option maxRecDepth 100000 in
theorem mc_String_checkIndex : Cond.code y_String_checkIndex prog_19_method_155_code 2 (none) ∈ zTs := zT_in 567 rfl rfl
def y_Preconditions_checkIndex : MethodName := ⟨"jdk/internal/util/Preconditions", "checkIndex", "(IILjava/util/function/BiFunction;)I"⟩
set_option maxRecDepth 100000 in
theorem mc_Preconditions_checkIndex : Cond.code y_Preconditions_checkIndex prog_25_method_11_code 3 ((some FieldType.int)) ∈ zTs := zT_in 572 rfl rfl
def y_String_indexOf : MethodName := ⟨"java/lang/String", "indexOf", "(I)I"⟩
set_option maxRecDepth 100000 in
theorem mc_String_indexOf : Cond.code y_String_indexOf prog_19_method_79_code 2 ((some FieldType.int)) ∈ zTs := zT_in 636 rfl rfl
def y_String_indexOf2 : MethodName := ⟨"java/lang/String", "indexOf", "(II)I"⟩
set_option maxRecDepth 100000 in
theorem mc_String_indexOf2 : Cond.code y_String_indexOf2 prog_19_method_80_code 3 ((some FieldType.int)) ∈ zTs := zT_in 640 rfl rfl
def y_StringLatin1_indexOf : MethodName := ⟨"java/lang/StringLatin1", "indexOf", "([BIII)I"⟩
set_option maxRecDepth 100000 in
theorem mc_StringLatin1_indexOf : Cond.code y_StringLatin1_indexOf prog_20_method_22_code 4 ((some FieldType.int)) ∈ zTs := zT_in 644 rfl rfl
def y_StringLatin1_canEncode : MethodName := ⟨"java/lang/StringLatin1", "canEncode", "(I)Z"⟩
set_option maxRecDepth 100000 in
theorem mc_StringLatin1_canEncode : Cond.code y_StringLatin1_canEncode prog_20_method_4_code 1 ((some FieldType.boolean)) ∈ zTs := zT_in 647 rfl rfl
def y_StringLatin1_indexOfChar : MethodName := ⟨"java/lang/StringLatin1", "indexOfChar", "([BIII)I"⟩
set_option maxRecDepth 100000 in
theorem mc_StringLatin1_indexOfChar : Cond.code y_StringLatin1_indexOfChar prog_20_method_23_code 6 ((some FieldType.int)) ∈ zTs := zT_in 654 rfl rfl
