set_option maxRecDepth 100000 in
theorem mc_lib_min : Cond.code Lib.Math.min.name Lib.Math.min.code 2 (some .int) ∈ zTs := zT_in 317 rfl rfl
set_option maxRecDepth 100000 in
theorem mc_lib_max : Cond.code Lib.Math.max.name Lib.Math.max.code 2 (some .int) ∈ zTs := zT_in 650 rfl rfl
section ZMM
variable {p : Program} {l : Launch} {e : Env} {R : Room} {s : State} {m : MethodId} {args : Array Value} {below : List Frame} {meth : Method} {c : Code} {cells slots : Nat} {Q : State → Prop} {D : va_G} {cl : List vw_C} {tys : List (ClassId × FieldType)} {b0 : Nat} {G : State → Prop} {cc : ByteArray} {nL : Nat} {own : String} {Ts : List Cond} {ret : Option FieldType} {N : Nat} {f : Nat → va_E} {pc : Nat} {lv : List (Nat × Value)} {st : List Value}
theorem z_mmin (X : zX p s m args meth c D cl tys b0 G cc nL own Ts ret) {index : Nat} {x y : Int32} (hdg : decode cc pc = .ok (.invokestatic index, 3)) (h1 : Cond.methodLink own index Lib.Math.min.name ∈ Ts) (h2 : Cond.static Lib.Math.min.name ∈ Ts) (h3 : Cond.initialized "java/lang/Math" ∈ Ts) (h4 : Cond.code Lib.Math.min.name Lib.Math.min.code 2 (some .int) ∈ Ts) (hfr : 1 ≤ R.frames) (hlo : (st.map fun v => v.category).sum + 13 ≤ R.locals) (hc : cells ≤ R.cells) (hs : slots ≤ R.slots)
    (kk : zW p l e R s m args below meth c D cl b0 nL cells slots Q N f (pc + 3) lv (.int (if y < x then y else x) :: st)) : zW p l e R s m args below meth c D cl b0 nL cells slots Q N f pc lv (.int y :: .int x :: st) := fun H locs ls hH hS hL => va_mmin X.1 X.2.1 (by rw [X.2.2.1]; exact hL.1.symm) X.2.2.2.1 (X.2.2.2.2.1 _ h1) (X.2.2.2.2.1 _ h2) (X.2.2.2.2.1 _ h3) (X.2.2.2.2.1 _ h4) hfr hlo hc hs hdg (kk H locs ls hH hS hL)
end ZMM
theorem zP.sel {b0 N : Nat} {f : Nat → va_E} {ws : va_W} (h : zP b0 N f ws) (is : List Nat) (hn : va_nd is = true) (hl : ∀ i ∈ is, i < ws.length) : zP b0 N f (is.filterMap (fun i => ws[i]?)) := by
  refine h.sub is hn ?_
  clear hn
  induction is with
  | nil => rfl
  | cons i is ih =>
    have h1 : ws[i]? = some (ws[i]'(hl i List.mem_cons_self)) := List.getElem?_eq_getElem _
    rw [List.map_cons, List.filterMap_cons, h1]
    simp only [List.map_cons]
    rw [ih (fun j hj => hl j (List.mem_cons_of_mem _ hj))]
/-- behind a call, by places; the callee's cells by their addresses -/
theorem zP.jn {b0 N N' : Nat} {f f' : Nat → va_E} {ws w1 : va_W} {as : List Nat} (h : zP b0 N f ws) (isC isR : List Nat) (hC : isC.map (fun i => (ws[i]?).map (fun q => q.1)) = as.map some) (hn : va_nd isR = true) (hl : ∀ i ∈ isR, i < ws.length) (hdis : ∀ i ∈ isR, i ∉ isC)
    (hF : zF N f f' as) (hN : N ≤ N') (h1 : zP b0 N' f' w1) (hsub : ∀ a ∈ w1.map (fun q => q.1), a ∈ as ∨ N ≤ a) : zP b0 N' f' (isR.filterMap (fun i => ws[i]?) ++ w1) := by
  have hr := h.sel isR hn hl
  have apart : ∀ a ∈ (isR.filterMap (fun i => ws[i]?)).map (fun q => q.1), a ∉ as := by
    intro a ha hc
    obtain ⟨p, hp, rfl⟩ := List.mem_map.mp ha
    obtain ⟨i, hi, hpi⟩ := List.mem_filterMap.mp hp
    obtain ⟨k, hk⟩ := List.getElem?_of_mem hc
    have e1 : (isC.map (fun i => (ws[i]?).map (fun q => q.1)))[k]? = some (some p.1) := by rw [hC, List.getElem?_map, hk]; rfl
    rw [List.getElem?_map] at e1
    cases hj : isC[k]? with
    | none => rw [hj] at e1; cases e1
    | some j =>
      rw [hj] at e1
      have e2 : (ws[j]?).map (fun q => q.1) = some p.1 := Option.some.inj e1
      cases hq : ws[j]? with
      | none => rw [hq] at e2; cases e2
      | some q =>
        rw [hq] at e2
        have := h.inj hq hpi (Option.some.inj e2)
        subst this
        exact hdis j hi (List.mem_of_getElem? hj)
  have hr' := hr.frame hF hN (fun a q1 q2 => apart a q2 q1)
  refine ⟨?_, fun k q hk => ?_⟩
  · rw [List.map_append, List.nodup_append]
    refine ⟨hr.1, h1.1, fun a ha b hb e => ?_⟩
    subst e
    rcases hsub a hb with z | z
    · exact apart a ha z
    · obtain ⟨p, hp, rfl⟩ := List.mem_map.mp ha
      obtain ⟨i, hi⟩ := List.getElem?_of_mem hp
      have := (hr.2 i p hi).2.1
      omega
  · by_cases hl2 : k < (isR.filterMap (fun i => ws[i]?)).length
    · rw [List.getElem?_append_left hl2] at hk
      exact hr'.2 k q hk
    · rw [List.getElem?_append_right (by omega)] at hk
      exact h1.2 _ q hk
abbrev wWrk (ck : Nat → ClassId) (wk dc rs va : Nat) (lb : Int32) (G v : Nat → Int32) : va_W := [(wk, oWrk dc rs lb), (rs, aI ck 400 G), (dc, oDecl va), (va, aI ck 200 v)]
section
variable {l : Launch} {D : va_G} {ck : Nat → ClassId} {ad : (Nat → Nat) × (Nat → Nat)} {b0 N : Nat} {f : Nat → va_E}
theorem d_Wrk_overLines_0 : decode prog_8_method_4_code 0 = .ok (.iload_n 1, 1) := by decide +kernel
theorem d_Wrk_overLines_1 : decode prog_8_method_4_code 1 = .ok (.iconst 3, 1) := by decide +kernel
theorem d_Wrk_overLines_2 : decode prog_8_method_4_code 2 = .ok (.if_icmp .ne 7, 3) := by decide +kernel
theorem d_Wrk_overLines_5 : decode prog_8_method_4_code 5 = .ok (.iconst 1, 1) := by decide +kernel
theorem d_Wrk_overLines_6 : decode prog_8_method_4_code 6 = .ok (.goto 4, 3) := by decide +kernel
theorem d_Wrk_overLines_9 : decode prog_8_method_4_code 9 = .ok (.iconst 0, 1) := by decide +kernel
theorem d_Wrk_overLines_10 : decode prog_8_method_4_code 10 = .ok (.istore_n 3, 1) := by decide +kernel
theorem d_Wrk_overLines_11 : decode prog_8_method_4_code 11 = .ok (.iconst 1, 1) := by decide +kernel
theorem d_Wrk_overLines_12 : decode prog_8_method_4_code 12 = .ok (.istore 4, 2) := by decide +kernel
theorem d_Wrk_overLines_14 : decode prog_8_method_4_code 14 = .ok (.iload 4, 2) := by decide +kernel
theorem d_Wrk_overLines_16 : decode prog_8_method_4_code 16 = .ok (.bipush 10, 2) := by decide +kernel
theorem d_Wrk_overLines_18 : decode prog_8_method_4_code 18 = .ok (.if_icmp .ge 52, 3) := by decide +kernel
theorem d_Wrk_overLines_21 : decode prog_8_method_4_code 21 = .ok (.aload_n 0, 1) := by decide +kernel
theorem d_Wrk_overLines_22 : decode prog_8_method_4_code 22 = .ok (.getfield 26, 3) := by decide +kernel
theorem d_Wrk_overLines_25 : decode prog_8_method_4_code 25 = .ok (.iload 4, 2) := by decide +kernel
theorem d_Wrk_overLines_27 : decode prog_8_method_4_code 27 = .ok (.ishr, 1) := by decide +kernel
theorem d_Wrk_overLines_28 : decode prog_8_method_4_code 28 = .ok (.iconst 1, 1) := by decide +kernel
theorem d_Wrk_overLines_29 : decode prog_8_method_4_code 29 = .ok (.iand, 1) := by decide +kernel
theorem d_Wrk_overLines_30 : decode prog_8_method_4_code 30 = .ok (.iconst 1, 1) := by decide +kernel
theorem d_Wrk_overLines_31 : decode prog_8_method_4_code 31 = .ok (.if_icmp .ne 33, 3) := by decide +kernel
theorem d_Wrk_overLines_34 : decode prog_8_method_4_code 34 = .ok (.aload_n 0, 1) := by decide +kernel
theorem d_Wrk_overLines_35 : decode prog_8_method_4_code 35 = .ok (.iload_n 2, 1) := by decide +kernel
theorem d_Wrk_overLines_36 : decode prog_8_method_4_code 36 = .ok (.iload 4, 2) := by decide +kernel
theorem d_Wrk_overLines_38 : decode prog_8_method_4_code 38 = .ok (.invokevirtual 44, 3) := by decide +kernel
theorem d_Wrk_overLines_41 : decode prog_8_method_4_code 41 = .ok (.istore 5, 2) := by decide +kernel
theorem d_Wrk_overLines_43 : decode prog_8_method_4_code 43 = .ok (.iload_n 1, 1) := by decide +kernel
theorem d_Wrk_overLines_44 : decode prog_8_method_4_code 44 = .ok (.iconst 3, 1) := by decide +kernel
theorem d_Wrk_overLines_45 : decode prog_8_method_4_code 45 = .ok (.if_icmp .ne 12, 3) := by decide +kernel
theorem d_Wrk_overLines_48 : decode prog_8_method_4_code 48 = .ok (.iload_n 3, 1) := by decide +kernel
theorem d_Wrk_overLines_49 : decode prog_8_method_4_code 49 = .ok (.iload 5, 2) := by decide +kernel
theorem d_Wrk_overLines_51 : decode prog_8_method_4_code 51 = .ok (.invokestatic 84, 3) := by decide +kernel
theorem d_Wrk_overLines_54 : decode prog_8_method_4_code 54 = .ok (.goto 9, 3) := by decide +kernel
theorem d_Wrk_overLines_57 : decode prog_8_method_4_code 57 = .ok (.iload_n 3, 1) := by decide +kernel
theorem d_Wrk_overLines_58 : decode prog_8_method_4_code 58 = .ok (.iload 5, 2) := by decide +kernel
theorem d_Wrk_overLines_60 : decode prog_8_method_4_code 60 = .ok (.invokestatic 87, 3) := by decide +kernel
theorem d_Wrk_overLines_63 : decode prog_8_method_4_code 63 = .ok (.istore_n 3, 1) := by decide +kernel
theorem d_Wrk_overLines_64 : decode prog_8_method_4_code 64 = .ok (.iinc 4 1, 3) := by decide +kernel
theorem d_Wrk_overLines_67 : decode prog_8_method_4_code 67 = .ok (.goto (-53), 3) := by decide +kernel
theorem d_Wrk_overLines_70 : decode prog_8_method_4_code 70 = .ok (.iload_n 3, 1) := by decide +kernel
theorem d_Wrk_overLines_71 : decode prog_8_method_4_code 71 = .ok (.ireturn, 1) := by decide +kernel
set_option maxHeartbeats 4000000 in
set_option maxRecDepth 100000 in
theorem c_Wrk_overLines {wk dc rs : Nat} {lb : Int32} {G : Nat → Int32} (hP : zP b0 N f [(wk, oWrk dc rs lb), (rs, aI ck 400 G)]) {kd : Int32} {cq : Option Nat} (hc : ∀ z, cq = some z → z < 40) : zK l D ck ad b0 y_Wrk_overLines prog_8_method_4_code 6 ((some FieldType.int)) 2 0 0 [.ref wk, .int kd, .int (wix cq)] N f (fun r N' f' => r = some (.int (wover kd lb G cq 9)) ∧ N = N' ∧ f = f') := by
  refine zM.of zG_w (by decide) (Nat.le_of_ble_eq_true rfl) ?_
  intro zp ze zst zm zar zbe zme zc X hnm hb0
  have L14 : ∀ (nn : Nat) (k : Nat), (k ≤ 9 ∧ k + nn = 10) → zW zp l ze (zR 2 0 0) zst zm zar zbe zme zc D zcl b0 6 0 0 (MQ zbe (zQ D zcl b0 (fun r N' f' => r = some (.int (wover kd lb G cq 9)) ∧ N = N' ∧ f = f')) zar zst 0 0 (zA b0)) N f 14 [(0, .ref wk), (1, .int kd), (2, .int (wix cq)), (3, .int (wover kd lb G cq k)), (4, .int (nI (k + 1)))] [] := by
    intro nn
    induction nn with
    | zero =>
      intro k hk
      omega
    | succ nn ih =>
      intro k hk
      refine z_iload X d_Wrk_overLines_14 rfl ?_
      refine z_bipush X d_Wrk_overLines_16 (v := 10) (by decide) ?_
      refine z_icmp_ge X 70 d_Wrk_overLines_18 (by decide) (fun h18 => ?_) (fun h18 => ?_)
      · skip
        have hk9 : k = 9 := by have := (nI_leI (a := 10) (b := k + 1) (by decide) (by omega)).mp h18; omega
        subst hk9
        refine z_iload_n X d_Wrk_overLines_70 rfl ?_
        exact z_iret X d_Wrk_overLines_71 ⟨rfl, rfl, rfl⟩
      · skip
        have hk9 : k < 9 := by
          rcases Nat.lt_or_ge k 9 with z | z
          · exact z
          · exact absurd (nI_le (a := 10) (b := k + 1) (by omega) (by omega)) h18
        refine z_aload_n X d_Wrk_overLines_21 rfl ?_
        refine z_get X d_Wrk_overLines_22 (hP.lo 0 rfl) (hP.at 0 rfl) cl_Wrk in_Wrk 2 (by decide) fl_Wrk_26 rfl rfl ?_
        refine z_iload X d_Wrk_overLines_25 rfl ?_
        refine z_ishr X d_Wrk_overLines_27 ?_
        refine z_iconst X d_Wrk_overLines_28 (v := 1) (by decide) ?_
        refine z_iand X d_Wrk_overLines_29 ?_
        refine z_iconst X d_Wrk_overLines_30 (v := 1) (by decide) ?_
        refine z_icmp_ne X 64 d_Wrk_overLines_31 (by decide) (fun h31 => ?_) (fun h31 => ?_)
        · skip
          refine z_iinc X d_Wrk_overLines_64 rfl (nI_1 _) (by decide) rfl ?_
          refine z_goto X 14 d_Wrk_overLines_67 (by decide) ?_
          refine zW.pick [0, 1, 2, 3, 4] (lv' := [(0, .ref wk), (1, .int kd), (2, .int (wix cq)), (3, .int (wover kd lb G cq (k + 1))), (4, .int (nI (k + 2)))]) (by first | (rw [wover, if_pos h31, if_pos h45]; rfl) | (rw [wover, if_pos h31, if_neg h45]; rfl) | (rw [wover, if_neg h31]; rfl)) ?_
          exact ih (k + 1) (by omega)
        · skip
          refine z_aload_n X d_Wrk_overLines_34 rfl ?_
          refine z_iload_n X d_Wrk_overLines_35 rfl ?_
          refine z_iload X d_Wrk_overLines_36 rfl ?_
          refine z_callV X zG_ok (c_Wrk_resultOf hP (c := cq) (b := k + 1) hc (by omega)) d_Wrk_overLines_38 ⟨(z_cb (n := 2) X.2.2.2.2.1 ml_Wrk_44 mc_Wrk_resultOf ini_Wrk (by decide +kernel) rfl rfl ⟨Nat.le_of_ble_eq_true rfl, Nat.le_of_ble_eq_true rfl⟩), X.2.2.2.2.1 _ im_Wrk_resultOf, X.2.2.2.2.1 _ sel_Wrk_resultOf⟩ (hP.lo 0 rfl) (hP.at 0 rfl) cl_Wrk rfl rfl (Nat.le_of_ble_eq_true rfl) ⟨Nat.le_of_ble_eq_true rfl, Nat.le_of_ble_eq_true rfl⟩ (fun r N1 f1 hp hN1 => ?_)
          obtain ⟨rfl, rfl, rfl⟩ := hp
          refine z_istore X d_Wrk_overLines_41 (by decide) rfl ?_
          refine z_iload_n X d_Wrk_overLines_43 rfl ?_
          refine z_iconst X d_Wrk_overLines_44 (v := 3) (by decide) ?_
          refine z_icmp_ne X 57 d_Wrk_overLines_45 (by decide) (fun h45 => ?_) (fun h45 => ?_)
          · skip
            refine z_iload_n X d_Wrk_overLines_57 rfl ?_
            refine z_iload X d_Wrk_overLines_58 rfl ?_
            refine z_callS X zG_ok (c_Wrk_either (f := f)) d_Wrk_overLines_60 ⟨(z_cb (n := 2) X.2.2.2.2.1 ml_Wrk_87 mc_Wrk_either ini_Wrk (by decide +kernel) rfl rfl ⟨Nat.le_of_ble_eq_true rfl, Nat.le_of_ble_eq_true rfl⟩), X.2.2.2.2.1 _ st_Wrk_either⟩ rfl rfl (Nat.le_of_ble_eq_true rfl) ⟨Nat.le_of_ble_eq_true rfl, Nat.le_of_ble_eq_true rfl⟩ (fun r N1 f1 hp hN1 => ?_)
            obtain ⟨rfl, rfl, rfl⟩ := hp
            refine z_istore_n X d_Wrk_overLines_63 (by decide) rfl ?_
            refine z_iinc X d_Wrk_overLines_64 rfl (nI_1 _) (by decide) rfl ?_
            refine z_goto X 14 d_Wrk_overLines_67 (by decide) ?_
            refine zW.pick [0, 1, 2, 3, 4] (lv' := [(0, .ref wk), (1, .int kd), (2, .int (wix cq)), (3, .int (wover kd lb G cq (k + 1))), (4, .int (nI (k + 2)))]) (by first | (rw [wover, if_pos h31, if_pos h45]; rfl) | (rw [wover, if_pos h31, if_neg h45]; rfl) | (rw [wover, if_neg h31]; rfl)) ?_
            exact ih (k + 1) (by omega)
          · skip
            refine z_iload_n X d_Wrk_overLines_48 rfl ?_
            refine z_iload X d_Wrk_overLines_49 rfl ?_
            refine z_callS X zG_ok (c_Wrk_both (f := f)) d_Wrk_overLines_51 ⟨(z_cb (n := 2) X.2.2.2.2.1 ml_Wrk_84 mc_Wrk_both ini_Wrk (by decide +kernel) rfl rfl ⟨Nat.le_of_ble_eq_true rfl, Nat.le_of_ble_eq_true rfl⟩), X.2.2.2.2.1 _ st_Wrk_both⟩ rfl rfl (Nat.le_of_ble_eq_true rfl) ⟨Nat.le_of_ble_eq_true rfl, Nat.le_of_ble_eq_true rfl⟩ (fun r N1 f1 hp hN1 => ?_)
            obtain ⟨rfl, rfl, rfl⟩ := hp
            refine z_goto X 63 d_Wrk_overLines_54 (by decide) ?_
            refine z_istore_n X d_Wrk_overLines_63 (by decide) rfl ?_
            refine z_iinc X d_Wrk_overLines_64 rfl (nI_1 _) (by decide) rfl ?_
            refine z_goto X 14 d_Wrk_overLines_67 (by decide) ?_
            refine zW.pick [0, 1, 2, 3, 4] (lv' := [(0, .ref wk), (1, .int kd), (2, .int (wix cq)), (3, .int (wover kd lb G cq (k + 1))), (4, .int (nI (k + 2)))]) (by first | (rw [wover, if_pos h31, if_pos h45]; rfl) | (rw [wover, if_pos h31, if_neg h45]; rfl) | (rw [wover, if_neg h31]; rfl)) ?_
            exact ih (k + 1) (by omega)
  refine z_iload_n X d_Wrk_overLines_0 rfl ?_
  refine z_iconst X d_Wrk_overLines_1 (v := 3) (by decide) ?_
  refine z_icmp_ne X 9 d_Wrk_overLines_2 (by decide) (fun h2 => ?_) (fun h2 => ?_)
  · skip
    refine z_iconst X d_Wrk_overLines_9 (v := 0) (by decide) ?_
    refine z_istore_n X d_Wrk_overLines_10 (by decide) rfl ?_
    refine z_iconst X d_Wrk_overLines_11 (v := 1) (by decide) ?_
    refine z_istore X d_Wrk_overLines_12 (by decide) rfl ?_
    refine zW.pick [0, 1, 2, 3, 4] (lv' := [(0, .ref wk), (1, .int kd), (2, .int (wix cq)), (3, .int (wover kd lb G cq 0)), (4, .int (nI (0 + 1)))]) (by first | (rw [wover, if_pos h2]; rfl) | (rw [wover, if_neg h2]; rfl)) ?_
    exact L14 10 0 (by omega)
  · skip
    refine z_iconst X d_Wrk_overLines_5 (v := 1) (by decide) ?_
    refine z_goto X 10 d_Wrk_overLines_6 (by decide) ?_
    refine z_istore_n X d_Wrk_overLines_10 (by decide) rfl ?_
    refine z_iconst X d_Wrk_overLines_11 (v := 1) (by decide) ?_
    refine z_istore X d_Wrk_overLines_12 (by decide) rfl ?_
    refine zW.pick [0, 1, 2, 3, 4] (lv' := [(0, .ref wk), (1, .int kd), (2, .int (wix cq)), (3, .int (wover kd lb G cq 0)), (4, .int (nI (0 + 1)))]) (by first | (rw [wover, if_pos h2]; rfl) | (rw [wover, if_neg h2]; rfl)) ?_
    exact L14 10 0 (by omega)
end
