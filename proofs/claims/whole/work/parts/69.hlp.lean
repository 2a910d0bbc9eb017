/-! methods with a table of handlers: their contracts, and calls of them -/
theorem zM.ofW {l : Launch} {D : va_G} {cl : List vw_C} {tys : List (ClassId × FieldType)} {b0 : Nat} {G : State → Prop} {Ts : List Cond} {y : MethodName} {rm : Room} {mc ms nL : Nat} {cc : ByteArray} {ret : Option FieldType} {x : ExceptionTableEntry} {As : List Value} {N : Nat} {f : Nat → va_E} {P : Option Value → Nat → (Nat → va_E) → Prop}
    (hgw : zGw G Ts) (hy : plainName y.cls = true) (hl : (lg_sl As).length ≤ nL)
    (body : ∀ (p : Program) (e : Env) (s : State) (m : MethodId) (args : Array Value) (below : List Frame) (meth : Method) (c : Code), zX p s m args meth c D cl tys b0 G cc nL y.cls Ts ret → c.exceptionTable.toList = [x] → b0 ≤ N →
      zW p l e rm s m args below meth c D cl b0 nL 0 0 (MQ below (zQ D cl b0 P) args s mc ms (zA b0)) N f 0 (lv_args 0 As) []) : zM l D cl tys b0 G y [Cond.codeWith y cc nL ret [(x.startPc, x.endPc, x.handlerPc, x.catchType)]] rm mc ms As N f P := by
  refine va_MetW (cc := cc) (maxL := nL) (ret := ret) (hh := [(x.startPc, x.endPc, x.handlerPc, x.catchType)]) hy rfl ?_
  intro p e s m args below meth c s₁ B hml hv
  obtain ⟨rfl, hG, hK, hH, hb⟩ := hv
  have hown : s.vm.findClass y.cls = some m.cls := findClass_of_methodNamed B.named
  have X : zX p s m As.toArray meth c D cl tys b0 G cc nL y.cls Ts ret := ⟨B.exec, B.bytes, hml, hown, hgw s _ hG, hG, hK, B.returns, B.notSynchronized, by rw [hH.1]; exact hb⟩
  have htab : c.exceptionTable.toList = [x] := by
    obtain ⟨m9, meth9, c9, a1, a2, a3, a4, a5, a6, a7⟩ := Cond.codeWith_spec (atoms_spec (ws := [Cond.codeWith y cc nL ret [(x.startPc, x.endPc, x.handlerPc, x.catchType)]]) B.pre _ List.mem_cons_self)
    cases a1.symm.trans B.named
    cases a2.symm.trans B.method
    have hc9 : meth.code = some c := (Stand.of_body B).code
    cases a3.symm.trans hc9
    match hq : c.exceptionTable.toList, a6 with
    | [h], a6 =>
      have e1 := List.cons.inj a6
      obtain ⟨s1, s2, s3, s4⟩ := h
      obtain ⟨t1, t2, t3, t4⟩ := x
      have e2 := e1.1
      simp only [Prod.mk.injEq] at e2
      obtain ⟨rfl, rfl, rfl, rfl⟩ := e2
      rfl
    | h1 :: h2 :: t, a6 => simp at a6
  have hL := lv_entry As (n := nL) hl
  rw [lg_entry_eq]
  exact body p e s m As.toArray below meth c X htab hb s.heap [] _ hH va_S.rf hL
section ZCW
variable {p : Program} {l : Launch} {e : Env} {R : Room} {s : State} {m : MethodId} {args : Array Value} {below : List Frame} {meth : Method} {c : Code} {cells slots : Nat} {Q : State → Prop} {D : va_G} {cl : List vw_C} {tys : List (ClassId × FieldType)} {b0 : Nat} {G : State → Prop} {cc : ByteArray} {nL : Nat} {own : String} {Ts : List Cond} {ret : Option FieldType} {N : Nat} {f : Nat → va_E} {pc : Nat} {lv : List (Nat × Value)} {st : List Value}
/-- a static method with handlers is called -/
theorem z_callSW (X : zX p s m args meth c D cl tys b0 G cc nL own Ts ret) {y : MethodName} {bytes : ByteArray} {maxL n index mc ms : Nat} {ret' : Option FieldType} {hh : List (Nat × Nat × Nat × Nat)} {rm : Room} {As : List Value} {P : Option Value → Nat → (Nat → va_E) → Prop} {st0 : List Value} (hg : zGok b0 G) (hM : zM l D cl tys b0 G y [Cond.codeWith y bytes maxL ret' hh] rm mc ms As N f P) (hdg : decode cc pc = .ok (.invokestatic index, 3))
    (hrc : rm.cells = mc) (hrs : rm.slots = ms) (hfr : rm.frames + 1 ≤ R.frames) (hlo : 8 + (maxL + 11) + rm.locals ≤ R.locals) (hcode : Cond.codeWith y bytes maxL ret' hh ∈ Ts) (hini : Cond.initialized y.cls ∈ Ts) (hy : y.cls ≠ "java/lang/invoke/MethodHandle" ∧ y.cls ≠ "java/lang/invoke/VarHandle") (hlen : (parseMethodDescriptor y.desc).map (fun d => d.parameters.length) = some n) (hl : Cond.methodLink own index y ∈ Ts) (hstt : Cond.static y ∈ Ts)
    (hst : st0 = As.reverse ++ st) (hn : As.length = n) (hroom : (st.map fun v => v.category).sum ≤ 8) (hf9 : cells + mc ≤ R.cells ∧ slots + ms ≤ R.slots) (kk : ∀ (r : Option Value) (N' : Nat) (f' : Nat → va_E), P r N' f' → N ≤ N' → zW p l e R s m args below meth c D cl b0 nL (cells + mc) (slots + ms) Q N' f' (pc + 3) lv (r.toList ++ st)) : zW p l e R s m args below meth c D cl b0 nL cells slots Q N f pc lv st0 := fun H locs ls hH hS hL => by
  subst hst
  refine z_run X hH hS hL (?_ : va_Run p l e R s m args below meth c H locs cells slots mc ms (F0 m pc ls (As.reverse ++ st)) st (zQw (zA b0) D cl b0 P As.toArray) (zA b0)) kk
  have hK : Back l R p e below s args y 3 8 (PreOf R mc ms (zPc D cl tys b0 G As N f)) (PostOf (zQw (zA b0) D cl b0 P) mc ms (zA b0)) :=
    va_backW (bytes := bytes) (maxL := maxL) (ret := ret') (hh := hh) hM (zblind hg) hrc hrs hfr hlo (fun w hw a' U hW => by
      rw [List.mem_singleton.mp hw]
      exact word_at hW (Or.inl (by first | rfl | simp [Cond.onTables, Cond.keeps, Cond.steady])) (X.2.2.2.2.1 _ hcode)) (List.mem_singleton.mpr rfl) (fun a' U hW => word_at hW (Or.inl (by first | rfl | simp [Cond.onTables, Cond.keeps, Cond.steady])) (X.2.2.2.2.1 _ hini))
  intro T hT Y
  obtain ⟨mk, methM, cM, hnamed, hmethM, -, -, -, -, -, -, hsigM⟩ := Cond.codeWith_spec (X.2.2.2.2.1 _ hcode)
  have hstatic : methM.isStatic = true := Cond.static_spec hnamed hmethM (X.2.2.2.2.1 _ hstt)
  obtain ⟨kP, hkP, -⟩ := className_of_methodNamed hnamed
  have hinitP : kP.init = .initialized := Cond.initialized_spec (findClass_of_methodNamed hnamed) hkP (X.2.2.2.2.1 _ hini)
  have hlen2 : As.length = methM.sig.parameters.length := by
    rw [hsigM] at hlen
    rw [hn]
    exact (Option.some.inj hlen).symm
  obtain ⟨vm₁, X₁, hstep₁⟩ := Y.invokestatic X.1 X.2.2.2.1 (X.2.2.2.2.1 _ hl) hnamed hmethM hstatic hkP hinitP hy (g := F0 m pc ls (As.reverse ++ st)) rfl (argsL := As) (rest := st) hlen2 rfl (by rw [X.2.1]; exact hdg)
  obtain ⟨v, ⟨U', l2, c2, s2⟩, X', ⟨g', mk', t, L, e1, e2, hq, h1, hL2, h2, h3⟩, hsteps⟩ := hK m meth c ⟨T.setVm vm₁, locs, cells, slots⟩ { F0 m pc ls (As.reverse ++ st) with stack := st } (.invokestatic index) mk As.toArray X₁ rfl (hL.1.trans X.2.2.1.symm) (by rw [X.2.1]; exact hdg) (lv_room hroom) (X₁.named hnamed) ⟨hf9.1, hf9.2, z_pre X (As := As) (wr := zA b0) (fun _ h => h) hg hH hS (T.setVm vm₁) hT X₁.warmed⟩
  dsimp only [Pt.U, Pt.locs, Pt.cells, Pt.slots] at X' e1 e2 h1 h2 h3 hsteps
  subst h1; subst h2; subst h3
  exact ⟨v, (T.setVm vm₁).calling g' mk' As.toArray, t, U', L, hT, X', hL2, e1, e2, hq, fun target h => hstep₁ _ fun acts => by rw [doInvoke_state]; exact hsteps.trans h⟩
end ZCW
abbrev zKW (l : Launch) (D : va_G) (ck : Nat → ClassId) (ad : (Nat → Nat) × (Nat → Nat)) (b0 : Nat) (y : MethodName) (c : ByteArray) (nL : Nat) (ret : Option FieldType) (hh : List (Nat × Nat × Nat × Nat)) (d mc ms : Nat) (As : List Value) (N : Nat) (f : Nat → va_E) (P : Option Value → Nat → (Nat → va_E) → Prop) : Prop := zM l D zcl (zty ck) b0 (zG ad b0) y [Cond.codeWith y c nL ret hh] (zR d mc ms) mc ms As N f P
theorem zjk_ok : zJ zcl zjk := rfl
abbrev aJ (ck : Nat → ClassId) (jo : Nat → Int64) : va_E := .inl (ck 2, 1, .inr (.inl jo))
abbrev y_Law_rule : MethodName := ⟨"CheckRulesLaw", "rule", "(LCheckRules;[J)I"⟩
abbrev x_Law_rule : ExceptionTableEntry := ⟨0, 8, 11, 13⟩
set_option maxRecDepth 100000 in
theorem mcw_Law_rule : Cond.codeWith y_Law_rule method_3_code 3 (some .int) [(0, 8, 11, 13)] ∈ zTs := zT_in 430 rfl rfl
theorem d_Law_rule_0 : decode method_3_code 0 = .ok (.aload_n 1, 1) := by decide +kernel
theorem d_Law_rule_1 : decode method_3_code 1 = .ok (.iconst 0, 1) := by decide +kernel
theorem d_Law_rule_2 : decode method_3_code 2 = .ok (.aload_n 0, 1) := by decide +kernel
theorem d_Law_rule_3 : decode method_3_code 3 = .ok (.invokevirtual 7, 3) := by decide +kernel
theorem d_Law_rule_6 : decode method_3_code 6 = .ok (.i2l, 1) := by decide +kernel
theorem d_Law_rule_7 : decode method_3_code 7 = .ok (.lastore, 1) := by decide +kernel
theorem d_Law_rule_8 : decode method_3_code 8 = .ok (.goto 6, 3) := by decide +kernel
theorem d_Law_rule_11 : decode method_3_code 11 = .ok (.astore_n 2, 1) := by decide +kernel
theorem d_Law_rule_12 : decode method_3_code 12 = .ok (.iconst 1, 1) := by decide +kernel
theorem d_Law_rule_13 : decode method_3_code 13 = .ok (.ireturn, 1) := by decide +kernel
theorem d_Law_rule_14 : decode method_3_code 14 = .ok (.iconst 0, 1) := by decide +kernel
theorem d_Law_rule_15 : decode method_3_code 15 = .ok (.ireturn, 1) := by decide +kernel
section
variable {l : Launch} {D : va_G} {ck : Nat → ClassId} {ad : (Nat → Nat) × (Nat → Nat)} {b0 N : Nat} {f : Nat → va_E}
set_option maxHeartbeats 1000000 in
theorem c_Law_rule_y {a ob : Nat} {fs : List Value} (ha : b0 ≤ a ∧ a < N) (hfa : f a = .inr (7, fs)) {v : Int32} {jo : Nat → Int64} {Pp : Nat → (Nat → va_E) → Prop} (hM : zK l D ck ad b0 y_Cls_rule prog_1_method_3_code 2 (some .int) 10 5 132 [.ref a] N f (fun r N' f' => r = some (.int v) ∧ Pp N' f')) (ho : ∀ N' f', Pp N' f' → (b0 ≤ ob ∧ ob < N') ∧ f' ob = aJ ck jo) : zKW l D ck ad b0 y_Law_rule method_3_code 3 (some .int) [(0, 8, 11, 13)] 11 5 132 [.ref a, .ref ob] N f (fun r N' f'' => r = some (.int 0) ∧ ∃ f', Pp N' f' ∧ f'' = va_up f' ob (aJ ck (vp_updL jo 0 v.toInt64))) := by
  refine zM.ofW (x := x_Law_rule) zG_w (by decide) (Nat.le_of_ble_eq_true rfl) ?_
  intro zp ze zst zm zar zbe zme zc X htab hb0
  refine z_aload_n X d_Law_rule_0 rfl ?_
  refine z_iconst X d_Law_rule_1 (v := 0) (by decide) ?_
  refine z_aload_n X d_Law_rule_2 rfl ?_
  refine z_callV (As := []) X zG_ok hM d_Law_rule_3 ⟨(z_cb (n := 0) X.2.2.2.2.1 ml_Law_7 mc_Cls_rule ini_Cls (by decide +kernel) rfl rfl ⟨Nat.le_of_ble_eq_true rfl, Nat.le_of_ble_eq_true rfl⟩), X.2.2.2.2.1 _ im_Cls_rule, X.2.2.2.2.1 _ sel_Cls_rule⟩ ha hfa cl_Cls rfl rfl (Nat.le_of_ble_eq_true rfl) ⟨Nat.le_of_ble_eq_true rfl, Nat.le_of_ble_eq_true rfl⟩ (fun r N1 f1 hp hN1 => ?_)
  obtain ⟨rfl, hp⟩ := hp
  obtain ⟨h1, h2⟩ := ho N1 f1 hp
  refine z_i2l X d_Law_rule_6 (v := v.toInt64) rfl ?_
  refine z_last X d_Law_rule_7 h1 h2 (t0 := 2) rfl (vp_in_nI (n := 0) (N := 1) (by decide) (by decide)) ?_
  refine z_goto X 14 d_Law_rule_8 (by decide) ?_
  refine z_iconst X d_Law_rule_14 (v := 0) (by decide) ?_
  refine zW.widen (k := 5) (n := 132) (Nat.le_of_ble_eq_true rfl) (Nat.le_of_ble_eq_true rfl) ?_
  exact z_iret X d_Law_rule_15 ⟨rfl, f1, hp, rfl⟩
set_option maxHeartbeats 1000000 in
theorem c_Law_rule_t {a ob : Nat} {fs : List Value} (ha : b0 ≤ a ∧ a < N) (hfa : f a = .inr (7, fs)) (hM : zMt l D zcl (zty ck) b0 (zG ad b0) y_Cls_rule [Cond.code y_Cls_rule prog_1_method_3_code 2 (some .int)] (zR 10 1 6) "java/lang/IllegalStateException" [.ref a] N f) : zKW l D ck ad b0 y_Law_rule method_3_code 3 (some .int) [(0, 8, 11, 13)] 11 5 132 [.ref a, .ref ob] N f (fun r N' f'' => r = some (.int 1) ∧ N' = N + 1 ∧ f'' = va_up f N zjk) := by
  refine zM.ofW (x := x_Law_rule) zG_w (by decide) (Nat.le_of_ble_eq_true rfl) ?_
  intro zp ze zst zm zar zbe zme zc X htab hb0
  refine z_aload_n X d_Law_rule_0 rfl ?_
  refine z_iconst X d_Law_rule_1 (v := 0) (by decide) ?_
  refine z_aload_n X d_Law_rule_2 rfl ?_
  refine z_callVT (As := []) X zG_ok hM d_Law_rule_3 ⟨(z_cb (n := 0) X.2.2.2.2.1 ml_Law_7 mc_Cls_rule ini_Cls (by decide +kernel) rfl rfl ⟨Nat.le_of_ble_eq_true rfl, Nat.le_of_ble_eq_true rfl⟩), X.2.2.2.2.1 _ im_Cls_rule, X.2.2.2.2.1 _ sel_Cls_rule⟩ ha hfa cl_Cls rfl rfl (Nat.le_of_ble_eq_true rfl) ⟨Nat.le_of_ble_eq_true rfl, Nat.le_of_ble_eq_true rfl⟩ htab (by decide) (by decide) (X.2.2.2.2.1 _ kl_Law_13) zjk_ok ?_
  refine z_astore_n X d_Law_rule_11 (by decide) rfl ?_
  refine z_iconst X d_Law_rule_12 (v := 1) (by decide) ?_
  refine zW.widen (k := 5) (n := 132) (Nat.le_of_ble_eq_true rfl) (Nat.le_of_ble_eq_true rfl) ?_
  exact z_iret X d_Law_rule_13 ⟨rfl, rfl, rfl⟩
end
abbrev y_Law_was : MethodName := ⟨"CheckRulesLaw", "was", "(LCheckRules;I[J)I"⟩
abbrev x_Law_was : ExceptionTableEntry := ⟨0, 9, 12, 19⟩
set_option maxRecDepth 100000 in
theorem mcw_Law_was : Cond.codeWith y_Law_was method_4_code 4 (some .int) [(0, 9, 12, 19)] ∈ zTs := zT_in 779 rfl rfl
theorem d_Law_was_0 : decode method_4_code 0 = .ok (.aload_n 2, 1) := by decide +kernel
theorem d_Law_was_1 : decode method_4_code 1 = .ok (.iconst 0, 1) := by decide +kernel
theorem d_Law_was_2 : decode method_4_code 2 = .ok (.aload_n 0, 1) := by decide +kernel
theorem d_Law_was_3 : decode method_4_code 3 = .ok (.iload_n 1, 1) := by decide +kernel
theorem d_Law_was_4 : decode method_4_code 4 = .ok (.invokevirtual 15, 3) := by decide +kernel
theorem d_Law_was_7 : decode method_4_code 7 = .ok (.i2l, 1) := by decide +kernel
theorem d_Law_was_8 : decode method_4_code 8 = .ok (.lastore, 1) := by decide +kernel
theorem d_Law_was_9 : decode method_4_code 9 = .ok (.goto 6, 3) := by decide +kernel
theorem d_Law_was_12 : decode method_4_code 12 = .ok (.astore_n 3, 1) := by decide +kernel
theorem d_Law_was_13 : decode method_4_code 13 = .ok (.iconst 1, 1) := by decide +kernel
theorem d_Law_was_14 : decode method_4_code 14 = .ok (.ireturn, 1) := by decide +kernel
theorem d_Law_was_15 : decode method_4_code 15 = .ok (.iconst 0, 1) := by decide +kernel
theorem d_Law_was_16 : decode method_4_code 16 = .ok (.ireturn, 1) := by decide +kernel
section
variable {l : Launch} {D : va_G} {ck : Nat → ClassId} {ad : (Nat → Nat) × (Nat → Nat)} {b0 N : Nat} {f : Nat → va_E}
set_option maxHeartbeats 1000000 in
theorem c_Law_was_y {a ob : Nat} {fs : List Value} (ha : b0 ≤ a ∧ a < N) (hfa : f a = .inr (7, fs)) {i0 : Int32} {v : Int32} {jo : Nat → Int64} {Pp : Nat → (Nat → va_E) → Prop} (hM : zK l D ck ad b0 y_Cls_was prog_1_method_11_code 3 (some .int) 10 0 0 [.ref a, .int i0] N f (fun r N' f' => r = some (.int v) ∧ Pp N' f')) (ho : ∀ N' f', Pp N' f' → (b0 ≤ ob ∧ ob < N') ∧ f' ob = aJ ck jo) : zKW l D ck ad b0 y_Law_was method_4_code 4 (some .int) [(0, 9, 12, 19)] 11 1 6 [.ref a, .int i0, .ref ob] N f (fun r N' f'' => r = some (.int 0) ∧ ∃ f', Pp N' f' ∧ f'' = va_up f' ob (aJ ck (vp_updL jo 0 v.toInt64))) := by
  refine zM.ofW (x := x_Law_was) zG_w (by decide) (Nat.le_of_ble_eq_true rfl) ?_
  intro zp ze zst zm zar zbe zme zc X htab hb0
  refine z_aload_n X d_Law_was_0 rfl ?_
  refine z_iconst X d_Law_was_1 (v := 0) (by decide) ?_
  refine z_aload_n X d_Law_was_2 rfl ?_
  refine z_iload_n X d_Law_was_3 rfl ?_
  refine z_callV (As := [.int i0]) X zG_ok hM d_Law_was_4 ⟨(z_cb (n := 1) X.2.2.2.2.1 ml_Law_15 mc_Cls_was ini_Cls (by decide +kernel) rfl rfl ⟨Nat.le_of_ble_eq_true rfl, Nat.le_of_ble_eq_true rfl⟩), X.2.2.2.2.1 _ im_Cls_was, X.2.2.2.2.1 _ sel_Cls_was⟩ ha hfa cl_Cls rfl rfl (Nat.le_of_ble_eq_true rfl) ⟨Nat.le_of_ble_eq_true rfl, Nat.le_of_ble_eq_true rfl⟩ (fun r N1 f1 hp hN1 => ?_)
  obtain ⟨rfl, hp⟩ := hp
  obtain ⟨h1, h2⟩ := ho N1 f1 hp
  refine z_i2l X d_Law_was_7 (v := v.toInt64) rfl ?_
  refine z_last X d_Law_was_8 h1 h2 (t0 := 2) rfl (vp_in_nI (n := 0) (N := 1) (by decide) (by decide)) ?_
  refine z_goto X 15 d_Law_was_9 (by decide) ?_
  refine z_iconst X d_Law_was_15 (v := 0) (by decide) ?_
  refine zW.widen (k := 1) (n := 6) (Nat.le_of_ble_eq_true rfl) (Nat.le_of_ble_eq_true rfl) ?_
  exact z_iret X d_Law_was_16 ⟨rfl, f1, hp, rfl⟩
set_option maxHeartbeats 1000000 in
theorem c_Law_was_t {a ob : Nat} {fs : List Value} (ha : b0 ≤ a ∧ a < N) (hfa : f a = .inr (7, fs)) {i0 : Int32} (hM : zMt l D zcl (zty ck) b0 (zG ad b0) y_Cls_was [Cond.code y_Cls_was prog_1_method_11_code 3 (some .int)] (zR 10 1 6) "java/lang/IllegalArgumentException" [.ref a, .int i0] N f) : zKW l D ck ad b0 y_Law_was method_4_code 4 (some .int) [(0, 9, 12, 19)] 11 1 6 [.ref a, .int i0, .ref ob] N f (fun r N' f'' => r = some (.int 1) ∧ N' = N + 1 ∧ f'' = va_up f N zjk) := by
  refine zM.ofW (x := x_Law_was) zG_w (by decide) (Nat.le_of_ble_eq_true rfl) ?_
  intro zp ze zst zm zar zbe zme zc X htab hb0
  refine z_aload_n X d_Law_was_0 rfl ?_
  refine z_iconst X d_Law_was_1 (v := 0) (by decide) ?_
  refine z_aload_n X d_Law_was_2 rfl ?_
  refine z_iload_n X d_Law_was_3 rfl ?_
  refine z_callVT (As := [.int i0]) X zG_ok hM d_Law_was_4 ⟨(z_cb (n := 1) X.2.2.2.2.1 ml_Law_15 mc_Cls_was ini_Cls (by decide +kernel) rfl rfl ⟨Nat.le_of_ble_eq_true rfl, Nat.le_of_ble_eq_true rfl⟩), X.2.2.2.2.1 _ im_Cls_was, X.2.2.2.2.1 _ sel_Cls_was⟩ ha hfa cl_Cls rfl rfl (Nat.le_of_ble_eq_true rfl) ⟨Nat.le_of_ble_eq_true rfl, Nat.le_of_ble_eq_true rfl⟩ htab (by decide) (by decide) (X.2.2.2.2.1 _ kl_Law_19) zjk_ok ?_
  refine z_astore_n X d_Law_was_12 (by decide) rfl ?_
  refine z_iconst X d_Law_was_13 (v := 1) (by decide) ?_
  refine zW.widen (k := 1) (n := 6) (Nat.le_of_ble_eq_true rfl) (Nat.le_of_ble_eq_true rfl) ?_
  exact z_iret X d_Law_was_14 ⟨rfl, rfl, rfl⟩
end
abbrev y_Law_is : MethodName := ⟨"CheckRulesLaw", "is", "(LCheckRules;I[J)I"⟩
abbrev x_Law_is : ExceptionTableEntry := ⟨0, 9, 12, 19⟩
set_option maxRecDepth 100000 in
theorem mcw_Law_is : Cond.codeWith y_Law_is method_5_code 4 (some .int) [(0, 9, 12, 19)] ∈ zTs := zT_in 803 rfl rfl
theorem d_Law_is_0 : decode method_5_code 0 = .ok (.aload_n 2, 1) := by decide +kernel
theorem d_Law_is_1 : decode method_5_code 1 = .ok (.iconst 0, 1) := by decide +kernel
theorem d_Law_is_2 : decode method_5_code 2 = .ok (.aload_n 0, 1) := by decide +kernel
theorem d_Law_is_3 : decode method_5_code 3 = .ok (.iload_n 1, 1) := by decide +kernel
theorem d_Law_is_4 : decode method_5_code 4 = .ok (.invokevirtual 21, 3) := by decide +kernel
theorem d_Law_is_7 : decode method_5_code 7 = .ok (.i2l, 1) := by decide +kernel
theorem d_Law_is_8 : decode method_5_code 8 = .ok (.lastore, 1) := by decide +kernel
theorem d_Law_is_9 : decode method_5_code 9 = .ok (.goto 6, 3) := by decide +kernel
theorem d_Law_is_12 : decode method_5_code 12 = .ok (.astore_n 3, 1) := by decide +kernel
theorem d_Law_is_13 : decode method_5_code 13 = .ok (.iconst 1, 1) := by decide +kernel
theorem d_Law_is_14 : decode method_5_code 14 = .ok (.ireturn, 1) := by decide +kernel
theorem d_Law_is_15 : decode method_5_code 15 = .ok (.iconst 0, 1) := by decide +kernel
theorem d_Law_is_16 : decode method_5_code 16 = .ok (.ireturn, 1) := by decide +kernel
section
variable {l : Launch} {D : va_G} {ck : Nat → ClassId} {ad : (Nat → Nat) × (Nat → Nat)} {b0 N : Nat} {f : Nat → va_E}
set_option maxHeartbeats 1000000 in
theorem c_Law_is_y {a ob : Nat} {fs : List Value} (ha : b0 ≤ a ∧ a < N) (hfa : f a = .inr (7, fs)) {i0 : Int32} {v : Int32} {jo : Nat → Int64} {Pp : Nat → (Nat → va_E) → Prop} (hM : zK l D ck ad b0 y_Cls_is prog_1_method_12_code 3 (some .int) 10 0 0 [.ref a, .int i0] N f (fun r N' f' => r = some (.int v) ∧ Pp N' f')) (ho : ∀ N' f', Pp N' f' → (b0 ≤ ob ∧ ob < N') ∧ f' ob = aJ ck jo) : zKW l D ck ad b0 y_Law_is method_5_code 4 (some .int) [(0, 9, 12, 19)] 11 1 6 [.ref a, .int i0, .ref ob] N f (fun r N' f'' => r = some (.int 0) ∧ ∃ f', Pp N' f' ∧ f'' = va_up f' ob (aJ ck (vp_updL jo 0 v.toInt64))) := by
  refine zM.ofW (x := x_Law_is) zG_w (by decide) (Nat.le_of_ble_eq_true rfl) ?_
  intro zp ze zst zm zar zbe zme zc X htab hb0
  refine z_aload_n X d_Law_is_0 rfl ?_
  refine z_iconst X d_Law_is_1 (v := 0) (by decide) ?_
  refine z_aload_n X d_Law_is_2 rfl ?_
  refine z_iload_n X d_Law_is_3 rfl ?_
  refine z_callV (As := [.int i0]) X zG_ok hM d_Law_is_4 ⟨(z_cb (n := 1) X.2.2.2.2.1 ml_Law_21 mc_Cls_is ini_Cls (by decide +kernel) rfl rfl ⟨Nat.le_of_ble_eq_true rfl, Nat.le_of_ble_eq_true rfl⟩), X.2.2.2.2.1 _ im_Cls_is, X.2.2.2.2.1 _ sel_Cls_is⟩ ha hfa cl_Cls rfl rfl (Nat.le_of_ble_eq_true rfl) ⟨Nat.le_of_ble_eq_true rfl, Nat.le_of_ble_eq_true rfl⟩ (fun r N1 f1 hp hN1 => ?_)
  obtain ⟨rfl, hp⟩ := hp
  obtain ⟨h1, h2⟩ := ho N1 f1 hp
  refine z_i2l X d_Law_is_7 (v := v.toInt64) rfl ?_
  refine z_last X d_Law_is_8 h1 h2 (t0 := 2) rfl (vp_in_nI (n := 0) (N := 1) (by decide) (by decide)) ?_
  refine z_goto X 15 d_Law_is_9 (by decide) ?_
  refine z_iconst X d_Law_is_15 (v := 0) (by decide) ?_
  refine zW.widen (k := 1) (n := 6) (Nat.le_of_ble_eq_true rfl) (Nat.le_of_ble_eq_true rfl) ?_
  exact z_iret X d_Law_is_16 ⟨rfl, f1, hp, rfl⟩
set_option maxHeartbeats 1000000 in
theorem c_Law_is_t {a ob : Nat} {fs : List Value} (ha : b0 ≤ a ∧ a < N) (hfa : f a = .inr (7, fs)) {i0 : Int32} (hM : zMt l D zcl (zty ck) b0 (zG ad b0) y_Cls_is [Cond.code y_Cls_is prog_1_method_12_code 3 (some .int)] (zR 10 1 6) "java/lang/IllegalArgumentException" [.ref a, .int i0] N f) : zKW l D ck ad b0 y_Law_is method_5_code 4 (some .int) [(0, 9, 12, 19)] 11 1 6 [.ref a, .int i0, .ref ob] N f (fun r N' f'' => r = some (.int 1) ∧ N' = N + 1 ∧ f'' = va_up f N zjk) := by
  refine zM.ofW (x := x_Law_is) zG_w (by decide) (Nat.le_of_ble_eq_true rfl) ?_
  intro zp ze zst zm zar zbe zme zc X htab hb0
  refine z_aload_n X d_Law_is_0 rfl ?_
  refine z_iconst X d_Law_is_1 (v := 0) (by decide) ?_
  refine z_aload_n X d_Law_is_2 rfl ?_
  refine z_iload_n X d_Law_is_3 rfl ?_
  refine z_callVT (As := [.int i0]) X zG_ok hM d_Law_is_4 ⟨(z_cb (n := 1) X.2.2.2.2.1 ml_Law_21 mc_Cls_is ini_Cls (by decide +kernel) rfl rfl ⟨Nat.le_of_ble_eq_true rfl, Nat.le_of_ble_eq_true rfl⟩), X.2.2.2.2.1 _ im_Cls_is, X.2.2.2.2.1 _ sel_Cls_is⟩ ha hfa cl_Cls rfl rfl (Nat.le_of_ble_eq_true rfl) ⟨Nat.le_of_ble_eq_true rfl, Nat.le_of_ble_eq_true rfl⟩ htab (by decide) (by decide) (X.2.2.2.2.1 _ kl_Law_19) zjk_ok ?_
  refine z_astore_n X d_Law_is_12 (by decide) rfl ?_
  refine z_iconst X d_Law_is_13 (v := 1) (by decide) ?_
  refine zW.widen (k := 1) (n := 6) (Nat.le_of_ble_eq_true rfl) (Nat.le_of_ble_eq_true rfl) ?_
  exact z_iret X d_Law_is_14 ⟨rfl, rfl, rfl⟩
end
abbrev y_Law_touch : MethodName := ⟨"CheckRulesLaw", "touch", "(LCheckRules;I[J)I"⟩
abbrev x_Law_touch : ExceptionTableEntry := ⟨0, 9, 12, 19⟩
set_option maxRecDepth 100000 in
theorem mcw_Law_touch : Cond.codeWith y_Law_touch method_6_code 4 (some .int) [(0, 9, 12, 19)] ∈ zTs := zT_in 810 rfl rfl
theorem d_Law_touch_0 : decode method_6_code 0 = .ok (.aload_n 2, 1) := by decide +kernel
theorem d_Law_touch_1 : decode method_6_code 1 = .ok (.iconst 0, 1) := by decide +kernel
theorem d_Law_touch_2 : decode method_6_code 2 = .ok (.aload_n 0, 1) := by decide +kernel
theorem d_Law_touch_3 : decode method_6_code 3 = .ok (.iload_n 1, 1) := by decide +kernel
theorem d_Law_touch_4 : decode method_6_code 4 = .ok (.invokevirtual 24, 3) := by decide +kernel
theorem d_Law_touch_7 : decode method_6_code 7 = .ok (.i2l, 1) := by decide +kernel
theorem d_Law_touch_8 : decode method_6_code 8 = .ok (.lastore, 1) := by decide +kernel
theorem d_Law_touch_9 : decode method_6_code 9 = .ok (.goto 6, 3) := by decide +kernel
theorem d_Law_touch_12 : decode method_6_code 12 = .ok (.astore_n 3, 1) := by decide +kernel
theorem d_Law_touch_13 : decode method_6_code 13 = .ok (.iconst 1, 1) := by decide +kernel
theorem d_Law_touch_14 : decode method_6_code 14 = .ok (.ireturn, 1) := by decide +kernel
theorem d_Law_touch_15 : decode method_6_code 15 = .ok (.iconst 0, 1) := by decide +kernel
theorem d_Law_touch_16 : decode method_6_code 16 = .ok (.ireturn, 1) := by decide +kernel
section
variable {l : Launch} {D : va_G} {ck : Nat → ClassId} {ad : (Nat → Nat) × (Nat → Nat)} {b0 N : Nat} {f : Nat → va_E}
set_option maxHeartbeats 1000000 in
theorem c_Law_touch_y {a ob : Nat} {fs : List Value} (ha : b0 ≤ a ∧ a < N) (hfa : f a = .inr (7, fs)) {i0 : Int32} {v : Int32} {jo : Nat → Int64} {Pp : Nat → (Nat → va_E) → Prop} (hM : zK l D ck ad b0 y_Cls_touch prog_1_method_14_code 5 (some .int) 10 0 0 [.ref a, .int i0] N f (fun r N' f' => r = some (.int v) ∧ Pp N' f')) (ho : ∀ N' f', Pp N' f' → (b0 ≤ ob ∧ ob < N') ∧ f' ob = aJ ck jo) : zKW l D ck ad b0 y_Law_touch method_6_code 4 (some .int) [(0, 9, 12, 19)] 11 1 6 [.ref a, .int i0, .ref ob] N f (fun r N' f'' => r = some (.int 0) ∧ ∃ f', Pp N' f' ∧ f'' = va_up f' ob (aJ ck (vp_updL jo 0 v.toInt64))) := by
  refine zM.ofW (x := x_Law_touch) zG_w (by decide) (Nat.le_of_ble_eq_true rfl) ?_
  intro zp ze zst zm zar zbe zme zc X htab hb0
  refine z_aload_n X d_Law_touch_0 rfl ?_
  refine z_iconst X d_Law_touch_1 (v := 0) (by decide) ?_
  refine z_aload_n X d_Law_touch_2 rfl ?_
  refine z_iload_n X d_Law_touch_3 rfl ?_
  refine z_callV (As := [.int i0]) X zG_ok hM d_Law_touch_4 ⟨(z_cb (n := 1) X.2.2.2.2.1 ml_Law_24 mc_Cls_touch ini_Cls (by decide +kernel) rfl rfl ⟨Nat.le_of_ble_eq_true rfl, Nat.le_of_ble_eq_true rfl⟩), X.2.2.2.2.1 _ im_Cls_touch, X.2.2.2.2.1 _ sel_Cls_touch⟩ ha hfa cl_Cls rfl rfl (Nat.le_of_ble_eq_true rfl) ⟨Nat.le_of_ble_eq_true rfl, Nat.le_of_ble_eq_true rfl⟩ (fun r N1 f1 hp hN1 => ?_)
  obtain ⟨rfl, hp⟩ := hp
  obtain ⟨h1, h2⟩ := ho N1 f1 hp
  refine z_i2l X d_Law_touch_7 (v := v.toInt64) rfl ?_
  refine z_last X d_Law_touch_8 h1 h2 (t0 := 2) rfl (vp_in_nI (n := 0) (N := 1) (by decide) (by decide)) ?_
  refine z_goto X 15 d_Law_touch_9 (by decide) ?_
  refine z_iconst X d_Law_touch_15 (v := 0) (by decide) ?_
  refine zW.widen (k := 1) (n := 6) (Nat.le_of_ble_eq_true rfl) (Nat.le_of_ble_eq_true rfl) ?_
  exact z_iret X d_Law_touch_16 ⟨rfl, f1, hp, rfl⟩
set_option maxHeartbeats 1000000 in
theorem c_Law_touch_t {a ob : Nat} {fs : List Value} (ha : b0 ≤ a ∧ a < N) (hfa : f a = .inr (7, fs)) {i0 : Int32} (hM : zMt l D zcl (zty ck) b0 (zG ad b0) y_Cls_touch [Cond.code y_Cls_touch prog_1_method_14_code 5 (some .int)] (zR 10 1 6) "java/lang/IllegalArgumentException" [.ref a, .int i0] N f) : zKW l D ck ad b0 y_Law_touch method_6_code 4 (some .int) [(0, 9, 12, 19)] 11 1 6 [.ref a, .int i0, .ref ob] N f (fun r N' f'' => r = some (.int 1) ∧ N' = N + 1 ∧ f'' = va_up f N zjk) := by
  refine zM.ofW (x := x_Law_touch) zG_w (by decide) (Nat.le_of_ble_eq_true rfl) ?_
  intro zp ze zst zm zar zbe zme zc X htab hb0
  refine z_aload_n X d_Law_touch_0 rfl ?_
  refine z_iconst X d_Law_touch_1 (v := 0) (by decide) ?_
  refine z_aload_n X d_Law_touch_2 rfl ?_
  refine z_iload_n X d_Law_touch_3 rfl ?_
  refine z_callVT (As := [.int i0]) X zG_ok hM d_Law_touch_4 ⟨(z_cb (n := 1) X.2.2.2.2.1 ml_Law_24 mc_Cls_touch ini_Cls (by decide +kernel) rfl rfl ⟨Nat.le_of_ble_eq_true rfl, Nat.le_of_ble_eq_true rfl⟩), X.2.2.2.2.1 _ im_Cls_touch, X.2.2.2.2.1 _ sel_Cls_touch⟩ ha hfa cl_Cls rfl rfl (Nat.le_of_ble_eq_true rfl) ⟨Nat.le_of_ble_eq_true rfl, Nat.le_of_ble_eq_true rfl⟩ htab (by decide) (by decide) (X.2.2.2.2.1 _ kl_Law_19) zjk_ok ?_
  refine z_astore_n X d_Law_touch_12 (by decide) rfl ?_
  refine z_iconst X d_Law_touch_13 (v := 1) (by decide) ?_
  refine zW.widen (k := 1) (n := 6) (Nat.le_of_ble_eq_true rfl) (Nat.le_of_ble_eq_true rfl) ?_
  exact z_iret X d_Law_touch_14 ⟨rfl, rfl, rfl⟩
end
abbrev y_Law_node : MethodName := ⟨"CheckRulesLaw", "node", "(LCheckRules;III[J)I"⟩
abbrev x_Law_node : ExceptionTableEntry := ⟨0, 12, 15, 31⟩
set_option maxRecDepth 100000 in
theorem mcw_Law_node : Cond.codeWith y_Law_node method_7_code 6 (some .int) [(0, 12, 15, 31)] ∈ zTs := zT_in 824 rfl rfl
theorem d_Law_node_0 : decode method_7_code 0 = .ok (.aload 4, 2) := by decide +kernel
theorem d_Law_node_2 : decode method_7_code 2 = .ok (.iconst 0, 1) := by decide +kernel
theorem d_Law_node_3 : decode method_7_code 3 = .ok (.aload_n 0, 1) := by decide +kernel
theorem d_Law_node_4 : decode method_7_code 4 = .ok (.iload_n 1, 1) := by decide +kernel
theorem d_Law_node_5 : decode method_7_code 5 = .ok (.iload_n 2, 1) := by decide +kernel
theorem d_Law_node_6 : decode method_7_code 6 = .ok (.iload_n 3, 1) := by decide +kernel
theorem d_Law_node_7 : decode method_7_code 7 = .ok (.invokevirtual 27, 3) := by decide +kernel
theorem d_Law_node_10 : decode method_7_code 10 = .ok (.i2l, 1) := by decide +kernel
theorem d_Law_node_11 : decode method_7_code 11 = .ok (.lastore, 1) := by decide +kernel
theorem d_Law_node_12 : decode method_7_code 12 = .ok (.goto 7, 3) := by decide +kernel
theorem d_Law_node_15 : decode method_7_code 15 = .ok (.astore 5, 2) := by decide +kernel
theorem d_Law_node_17 : decode method_7_code 17 = .ok (.iconst 1, 1) := by decide +kernel
theorem d_Law_node_18 : decode method_7_code 18 = .ok (.ireturn, 1) := by decide +kernel
theorem d_Law_node_19 : decode method_7_code 19 = .ok (.iconst 0, 1) := by decide +kernel
theorem d_Law_node_20 : decode method_7_code 20 = .ok (.ireturn, 1) := by decide +kernel
section
variable {l : Launch} {D : va_G} {ck : Nat → ClassId} {ad : (Nat → Nat) × (Nat → Nat)} {b0 N : Nat} {f : Nat → va_E}
set_option maxHeartbeats 1000000 in
theorem c_Law_node_y {a ob : Nat} {fs : List Value} (ha : b0 ≤ a ∧ a < N) (hfa : f a = .inr (7, fs)) {i0 i1 i2 : Int32} {v : Int32} {jo : Nat → Int64} {Pp : Nat → (Nat → va_E) → Prop} (hM : zK l D ck ad b0 y_Cls_node prog_1_method_16_code 5 (some .int) 10 0 0 [.ref a, .int i0, .int i1, .int i2] N f (fun r N' f' => r = some (.int v) ∧ Pp N' f')) (ho : ∀ N' f', Pp N' f' → (b0 ≤ ob ∧ ob < N') ∧ f' ob = aJ ck jo) : zKW l D ck ad b0 y_Law_node method_7_code 6 (some .int) [(0, 12, 15, 31)] 11 1 6 [.ref a, .int i0, .int i1, .int i2, .ref ob] N f (fun r N' f'' => r = some (.int 0) ∧ ∃ f', Pp N' f' ∧ f'' = va_up f' ob (aJ ck (vp_updL jo 0 v.toInt64))) := by
  refine zM.ofW (x := x_Law_node) zG_w (by decide) (Nat.le_of_ble_eq_true rfl) ?_
  intro zp ze zst zm zar zbe zme zc X htab hb0
  refine z_aload X d_Law_node_0 rfl ?_
  refine z_iconst X d_Law_node_2 (v := 0) (by decide) ?_
  refine z_aload_n X d_Law_node_3 rfl ?_
  refine z_iload_n X d_Law_node_4 rfl ?_
  refine z_iload_n X d_Law_node_5 rfl ?_
  refine z_iload_n X d_Law_node_6 rfl ?_
  refine z_callV (As := [.int i0, .int i1, .int i2]) X zG_ok hM d_Law_node_7 ⟨(z_cb (n := 3) X.2.2.2.2.1 ml_Law_27 mc_Cls_node ini_Cls (by decide +kernel) rfl rfl ⟨Nat.le_of_ble_eq_true rfl, Nat.le_of_ble_eq_true rfl⟩), X.2.2.2.2.1 _ im_Cls_node, X.2.2.2.2.1 _ sel_Cls_node⟩ ha hfa cl_Cls rfl rfl (Nat.le_of_ble_eq_true rfl) ⟨Nat.le_of_ble_eq_true rfl, Nat.le_of_ble_eq_true rfl⟩ (fun r N1 f1 hp hN1 => ?_)
  obtain ⟨rfl, hp⟩ := hp
  obtain ⟨h1, h2⟩ := ho N1 f1 hp
  refine z_i2l X d_Law_node_10 (v := v.toInt64) rfl ?_
  refine z_last X d_Law_node_11 h1 h2 (t0 := 2) rfl (vp_in_nI (n := 0) (N := 1) (by decide) (by decide)) ?_
  refine z_goto X 19 d_Law_node_12 (by decide) ?_
  refine z_iconst X d_Law_node_19 (v := 0) (by decide) ?_
  refine zW.widen (k := 1) (n := 6) (Nat.le_of_ble_eq_true rfl) (Nat.le_of_ble_eq_true rfl) ?_
  exact z_iret X d_Law_node_20 ⟨rfl, f1, hp, rfl⟩
set_option maxHeartbeats 1000000 in
theorem c_Law_node_t {a ob : Nat} {fs : List Value} (ha : b0 ≤ a ∧ a < N) (hfa : f a = .inr (7, fs)) {i0 i1 i2 : Int32} (hM : zMt l D zcl (zty ck) b0 (zG ad b0) y_Cls_node [Cond.code y_Cls_node prog_1_method_16_code 5 (some .int)] (zR 10 1 6) "java/lang/IndexOutOfBoundsException" [.ref a, .int i0, .int i1, .int i2] N f) : zKW l D ck ad b0 y_Law_node method_7_code 6 (some .int) [(0, 12, 15, 31)] 11 1 6 [.ref a, .int i0, .int i1, .int i2, .ref ob] N f (fun r N' f'' => r = some (.int 1) ∧ N' = N + 1 ∧ f'' = va_up f N zjk) := by
  refine zM.ofW (x := x_Law_node) zG_w (by decide) (Nat.le_of_ble_eq_true rfl) ?_
  intro zp ze zst zm zar zbe zme zc X htab hb0
  refine z_aload X d_Law_node_0 rfl ?_
  refine z_iconst X d_Law_node_2 (v := 0) (by decide) ?_
  refine z_aload_n X d_Law_node_3 rfl ?_
  refine z_iload_n X d_Law_node_4 rfl ?_
  refine z_iload_n X d_Law_node_5 rfl ?_
  refine z_iload_n X d_Law_node_6 rfl ?_
  refine z_callVT (As := [.int i0, .int i1, .int i2]) X zG_ok hM d_Law_node_7 ⟨(z_cb (n := 3) X.2.2.2.2.1 ml_Law_27 mc_Cls_node ini_Cls (by decide +kernel) rfl rfl ⟨Nat.le_of_ble_eq_true rfl, Nat.le_of_ble_eq_true rfl⟩), X.2.2.2.2.1 _ im_Cls_node, X.2.2.2.2.1 _ sel_Cls_node⟩ ha hfa cl_Cls rfl rfl (Nat.le_of_ble_eq_true rfl) ⟨Nat.le_of_ble_eq_true rfl, Nat.le_of_ble_eq_true rfl⟩ htab (by decide) (by decide) (X.2.2.2.2.1 _ kl_Law_31) zjk_ok ?_
  refine z_astore X d_Law_node_15 (by decide) rfl ?_
  refine z_iconst X d_Law_node_17 (v := 1) (by decide) ?_
  refine zW.widen (k := 1) (n := 6) (Nat.le_of_ble_eq_true rfl) (Nat.le_of_ble_eq_true rfl) ?_
  exact z_iret X d_Law_node_18 ⟨rfl, rfl, rfl⟩
end
abbrev y_Law_print : MethodName := ⟨"CheckRulesLaw", "print", "(LCheckRules;I[J)I"⟩
abbrev x_Law_print : ExceptionTableEntry := ⟨0, 9, 12, 19⟩
set_option maxRecDepth 100000 in
theorem mcw_Law_print : Cond.codeWith y_Law_print method_8_code 4 (some .int) [(0, 9, 12, 19)] ∈ zTs := zT_in 852 rfl rfl
theorem d_Law_print_0 : decode method_8_code 0 = .ok (.aload_n 2, 1) := by decide +kernel
theorem d_Law_print_1 : decode method_8_code 1 = .ok (.iconst 0, 1) := by decide +kernel
theorem d_Law_print_2 : decode method_8_code 2 = .ok (.aload_n 0, 1) := by decide +kernel
theorem d_Law_print_3 : decode method_8_code 3 = .ok (.iload_n 1, 1) := by decide +kernel
theorem d_Law_print_4 : decode method_8_code 4 = .ok (.invokevirtual 33, 3) := by decide +kernel
theorem d_Law_print_7 : decode method_8_code 7 = .ok (.i2l, 1) := by decide +kernel
theorem d_Law_print_8 : decode method_8_code 8 = .ok (.lastore, 1) := by decide +kernel
theorem d_Law_print_9 : decode method_8_code 9 = .ok (.goto 6, 3) := by decide +kernel
theorem d_Law_print_12 : decode method_8_code 12 = .ok (.astore_n 3, 1) := by decide +kernel
theorem d_Law_print_13 : decode method_8_code 13 = .ok (.iconst 1, 1) := by decide +kernel
theorem d_Law_print_14 : decode method_8_code 14 = .ok (.ireturn, 1) := by decide +kernel
theorem d_Law_print_15 : decode method_8_code 15 = .ok (.iconst 0, 1) := by decide +kernel
theorem d_Law_print_16 : decode method_8_code 16 = .ok (.ireturn, 1) := by decide +kernel
section
variable {l : Launch} {D : va_G} {ck : Nat → ClassId} {ad : (Nat → Nat) × (Nat → Nat)} {b0 N : Nat} {f : Nat → va_E}
set_option maxHeartbeats 1000000 in
theorem c_Law_print_y {a ob : Nat} {fs : List Value} (ha : b0 ≤ a ∧ a < N) (hfa : f a = .inr (7, fs)) {i0 : Int32} {v : Int32} {jo : Nat → Int64} {Pp : Nat → (Nat → va_E) → Prop} (hM : zK l D ck ad b0 y_Cls_print prog_1_method_17_code 3 (some .int) 88 0 0 [.ref a, .int i0] N f (fun r N' f' => r = some (.int v) ∧ Pp N' f')) (ho : ∀ N' f', Pp N' f' → (b0 ≤ ob ∧ ob < N') ∧ f' ob = aJ ck jo) : zKW l D ck ad b0 y_Law_print method_8_code 4 (some .int) [(0, 9, 12, 19)] 89 1 6 [.ref a, .int i0, .ref ob] N f (fun r N' f'' => r = some (.int 0) ∧ ∃ f', Pp N' f' ∧ f'' = va_up f' ob (aJ ck (vp_updL jo 0 v.toInt64))) := by
  refine zM.ofW (x := x_Law_print) zG_w (by decide) (Nat.le_of_ble_eq_true rfl) ?_
  intro zp ze zst zm zar zbe zme zc X htab hb0
  refine z_aload_n X d_Law_print_0 rfl ?_
  refine z_iconst X d_Law_print_1 (v := 0) (by decide) ?_
  refine z_aload_n X d_Law_print_2 rfl ?_
  refine z_iload_n X d_Law_print_3 rfl ?_
  refine z_callV (As := [.int i0]) X zG_ok hM d_Law_print_4 ⟨(z_cb (n := 1) X.2.2.2.2.1 ml_Law_33 mc_Cls_print ini_Cls (by decide +kernel) rfl rfl ⟨Nat.le_of_ble_eq_true rfl, Nat.le_of_ble_eq_true rfl⟩), X.2.2.2.2.1 _ im_Cls_print, X.2.2.2.2.1 _ sel_Cls_print⟩ ha hfa cl_Cls rfl rfl (Nat.le_of_ble_eq_true rfl) ⟨Nat.le_of_ble_eq_true rfl, Nat.le_of_ble_eq_true rfl⟩ (fun r N1 f1 hp hN1 => ?_)
  obtain ⟨rfl, hp⟩ := hp
  obtain ⟨h1, h2⟩ := ho N1 f1 hp
  refine z_i2l X d_Law_print_7 (v := v.toInt64) rfl ?_
  refine z_last X d_Law_print_8 h1 h2 (t0 := 2) rfl (vp_in_nI (n := 0) (N := 1) (by decide) (by decide)) ?_
  refine z_goto X 15 d_Law_print_9 (by decide) ?_
  refine z_iconst X d_Law_print_15 (v := 0) (by decide) ?_
  refine zW.widen (k := 1) (n := 6) (Nat.le_of_ble_eq_true rfl) (Nat.le_of_ble_eq_true rfl) ?_
  exact z_iret X d_Law_print_16 ⟨rfl, f1, hp, rfl⟩
set_option maxHeartbeats 1000000 in
theorem c_Law_print_t {a ob : Nat} {fs : List Value} (ha : b0 ≤ a ∧ a < N) (hfa : f a = .inr (7, fs)) {i0 : Int32} (hM : zMt l D zcl (zty ck) b0 (zG ad b0) y_Cls_print [Cond.code y_Cls_print prog_1_method_17_code 3 (some .int)] (zR 88 1 6) "java/lang/IllegalArgumentException" [.ref a, .int i0] N f) : zKW l D ck ad b0 y_Law_print method_8_code 4 (some .int) [(0, 9, 12, 19)] 89 1 6 [.ref a, .int i0, .ref ob] N f (fun r N' f'' => r = some (.int 1) ∧ N' = N + 1 ∧ f'' = va_up f N zjk) := by
  refine zM.ofW (x := x_Law_print) zG_w (by decide) (Nat.le_of_ble_eq_true rfl) ?_
  intro zp ze zst zm zar zbe zme zc X htab hb0
  refine z_aload_n X d_Law_print_0 rfl ?_
  refine z_iconst X d_Law_print_1 (v := 0) (by decide) ?_
  refine z_aload_n X d_Law_print_2 rfl ?_
  refine z_iload_n X d_Law_print_3 rfl ?_
  refine z_callVT (As := [.int i0]) X zG_ok hM d_Law_print_4 ⟨(z_cb (n := 1) X.2.2.2.2.1 ml_Law_33 mc_Cls_print ini_Cls (by decide +kernel) rfl rfl ⟨Nat.le_of_ble_eq_true rfl, Nat.le_of_ble_eq_true rfl⟩), X.2.2.2.2.1 _ im_Cls_print, X.2.2.2.2.1 _ sel_Cls_print⟩ ha hfa cl_Cls rfl rfl (Nat.le_of_ble_eq_true rfl) ⟨Nat.le_of_ble_eq_true rfl, Nat.le_of_ble_eq_true rfl⟩ htab (by decide) (by decide) (X.2.2.2.2.1 _ kl_Law_19) zjk_ok ?_
  refine z_astore_n X d_Law_print_12 (by decide) rfl ?_
  refine z_iconst X d_Law_print_13 (v := 1) (by decide) ?_
  refine zW.widen (k := 1) (n := 6) (Nat.le_of_ble_eq_true rfl) (Nat.le_of_ble_eq_true rfl) ?_
  exact z_iret X d_Law_print_14 ⟨rfl, rfl, rfl⟩
end
abbrev y_Law_at : MethodName := ⟨"CheckRulesLaw", "at", "(LCheckRules;I[J)I"⟩
abbrev x_Law_at : ExceptionTableEntry := ⟨0, 9, 12, 31⟩
set_option maxRecDepth 100000 in
theorem mcw_Law_at : Cond.codeWith y_Law_at method_9_code 4 (some .int) [(0, 9, 12, 31)] ∈ zTs := zT_in 904 rfl rfl
theorem d_Law_at_0 : decode method_9_code 0 = .ok (.aload_n 2, 1) := by decide +kernel
theorem d_Law_at_1 : decode method_9_code 1 = .ok (.iconst 0, 1) := by decide +kernel
theorem d_Law_at_2 : decode method_9_code 2 = .ok (.aload_n 0, 1) := by decide +kernel
theorem d_Law_at_3 : decode method_9_code 3 = .ok (.iload_n 1, 1) := by decide +kernel
theorem d_Law_at_4 : decode method_9_code 4 = .ok (.invokevirtual 36, 3) := by decide +kernel
theorem d_Law_at_7 : decode method_9_code 7 = .ok (.i2l, 1) := by decide +kernel
theorem d_Law_at_8 : decode method_9_code 8 = .ok (.lastore, 1) := by decide +kernel
theorem d_Law_at_9 : decode method_9_code 9 = .ok (.goto 6, 3) := by decide +kernel
theorem d_Law_at_12 : decode method_9_code 12 = .ok (.astore_n 3, 1) := by decide +kernel
theorem d_Law_at_13 : decode method_9_code 13 = .ok (.iconst 1, 1) := by decide +kernel
theorem d_Law_at_14 : decode method_9_code 14 = .ok (.ireturn, 1) := by decide +kernel
theorem d_Law_at_15 : decode method_9_code 15 = .ok (.iconst 0, 1) := by decide +kernel
theorem d_Law_at_16 : decode method_9_code 16 = .ok (.ireturn, 1) := by decide +kernel
section
variable {l : Launch} {D : va_G} {ck : Nat → ClassId} {ad : (Nat → Nat) × (Nat → Nat)} {b0 N : Nat} {f : Nat → va_E}
set_option maxHeartbeats 1000000 in
theorem c_Law_at_y {a ob : Nat} {fs : List Value} (ha : b0 ≤ a ∧ a < N) (hfa : f a = .inr (7, fs)) {i0 : Int32} {v : Int32} {jo : Nat → Int64} {Pp : Nat → (Nat → va_E) → Prop} (hM : zK l D ck ad b0 y_Cls_at prog_1_method_18_code 3 (some .int) 10 0 0 [.ref a, .int i0] N f (fun r N' f' => r = some (.int v) ∧ Pp N' f')) (ho : ∀ N' f', Pp N' f' → (b0 ≤ ob ∧ ob < N') ∧ f' ob = aJ ck jo) : zKW l D ck ad b0 y_Law_at method_9_code 4 (some .int) [(0, 9, 12, 31)] 11 1 6 [.ref a, .int i0, .ref ob] N f (fun r N' f'' => r = some (.int 0) ∧ ∃ f', Pp N' f' ∧ f'' = va_up f' ob (aJ ck (vp_updL jo 0 v.toInt64))) := by
  refine zM.ofW (x := x_Law_at) zG_w (by decide) (Nat.le_of_ble_eq_true rfl) ?_
  intro zp ze zst zm zar zbe zme zc X htab hb0
  refine z_aload_n X d_Law_at_0 rfl ?_
  refine z_iconst X d_Law_at_1 (v := 0) (by decide) ?_
  refine z_aload_n X d_Law_at_2 rfl ?_
  refine z_iload_n X d_Law_at_3 rfl ?_
  refine z_callV (As := [.int i0]) X zG_ok hM d_Law_at_4 ⟨(z_cb (n := 1) X.2.2.2.2.1 ml_Law_36 mc_Cls_at ini_Cls (by decide +kernel) rfl rfl ⟨Nat.le_of_ble_eq_true rfl, Nat.le_of_ble_eq_true rfl⟩), X.2.2.2.2.1 _ im_Cls_at, X.2.2.2.2.1 _ sel_Cls_at⟩ ha hfa cl_Cls rfl rfl (Nat.le_of_ble_eq_true rfl) ⟨Nat.le_of_ble_eq_true rfl, Nat.le_of_ble_eq_true rfl⟩ (fun r N1 f1 hp hN1 => ?_)
  obtain ⟨rfl, hp⟩ := hp
  obtain ⟨h1, h2⟩ := ho N1 f1 hp
  refine z_i2l X d_Law_at_7 (v := v.toInt64) rfl ?_
  refine z_last X d_Law_at_8 h1 h2 (t0 := 2) rfl (vp_in_nI (n := 0) (N := 1) (by decide) (by decide)) ?_
  refine z_goto X 15 d_Law_at_9 (by decide) ?_
  refine z_iconst X d_Law_at_15 (v := 0) (by decide) ?_
  refine zW.widen (k := 1) (n := 6) (Nat.le_of_ble_eq_true rfl) (Nat.le_of_ble_eq_true rfl) ?_
  exact z_iret X d_Law_at_16 ⟨rfl, f1, hp, rfl⟩
set_option maxHeartbeats 1000000 in
theorem c_Law_at_t {a ob : Nat} {fs : List Value} (ha : b0 ≤ a ∧ a < N) (hfa : f a = .inr (7, fs)) {i0 : Int32} (hM : zMt l D zcl (zty ck) b0 (zG ad b0) y_Cls_at [Cond.code y_Cls_at prog_1_method_18_code 3 (some .int)] (zR 10 1 6) "java/lang/IndexOutOfBoundsException" [.ref a, .int i0] N f) : zKW l D ck ad b0 y_Law_at method_9_code 4 (some .int) [(0, 9, 12, 31)] 11 1 6 [.ref a, .int i0, .ref ob] N f (fun r N' f'' => r = some (.int 1) ∧ N' = N + 1 ∧ f'' = va_up f N zjk) := by
  refine zM.ofW (x := x_Law_at) zG_w (by decide) (Nat.le_of_ble_eq_true rfl) ?_
  intro zp ze zst zm zar zbe zme zc X htab hb0
  refine z_aload_n X d_Law_at_0 rfl ?_
  refine z_iconst X d_Law_at_1 (v := 0) (by decide) ?_
  refine z_aload_n X d_Law_at_2 rfl ?_
  refine z_iload_n X d_Law_at_3 rfl ?_
  refine z_callVT (As := [.int i0]) X zG_ok hM d_Law_at_4 ⟨(z_cb (n := 1) X.2.2.2.2.1 ml_Law_36 mc_Cls_at ini_Cls (by decide +kernel) rfl rfl ⟨Nat.le_of_ble_eq_true rfl, Nat.le_of_ble_eq_true rfl⟩), X.2.2.2.2.1 _ im_Cls_at, X.2.2.2.2.1 _ sel_Cls_at⟩ ha hfa cl_Cls rfl rfl (Nat.le_of_ble_eq_true rfl) ⟨Nat.le_of_ble_eq_true rfl, Nat.le_of_ble_eq_true rfl⟩ htab (by decide) (by decide) (X.2.2.2.2.1 _ kl_Law_31) zjk_ok ?_
  refine z_astore_n X d_Law_at_12 (by decide) rfl ?_
  refine z_iconst X d_Law_at_13 (v := 1) (by decide) ?_
  refine zW.widen (k := 1) (n := 6) (Nat.le_of_ble_eq_true rfl) (Nat.le_of_ble_eq_true rfl) ?_
  exact z_iret X d_Law_at_14 ⟨rfl, rfl, rfl⟩
end
