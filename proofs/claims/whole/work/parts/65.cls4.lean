theorem zP.re1 {b0 N : Nat} {f f' : Nat → va_E} {ws : va_W} (h : zP b0 N f ws) (k : Nat) {a : Nat} {x y : va_E} (hk : ws[k]? = some (a, x)) (hF : zF N f f' [a]) (hv : f' a = y) : zP b0 N f' (ws.set k (a, y)) := by
  have h1 := h.put k hk y
  refine ⟨h1.1, fun j q hj => ?_⟩
  obtain ⟨a1, a2, a3⟩ := h1.2 j q hj
  refine ⟨a1, a2, ?_⟩
  by_cases e : q.1 = a
  · rw [e] at a3 ⊢
    rw [va_up_self] at a3
    rw [hv, a3]
  · rw [va_up_ne _ _ e] at a3
    rw [hF q.1 a2 (by simpa using e), a3]
theorem zP.re2 {b0 N : Nat} {f f' : Nat → va_E} {ws : va_W} (h : zP b0 N f ws) (k j : Nat) {a b : Nat} {x y z w : va_E} (hk : ws[k]? = some (a, x)) (hj : ws[j]? = some (b, z)) (hkj : k ≠ j) (hF : zF N f f' [a, b]) (hv : f' a = y) (hw : f' b = w) : zP b0 N f' ((ws.set k (a, y)).set j (b, w)) := by
  have hab : a ≠ b := fun e => hkj (h.inj hk hj e)
  have h1 := (h.put k hk y).put j (by rw [List.getElem?_set_ne hkj]; exact hj) w
  refine ⟨h1.1, fun i q hi => ?_⟩
  obtain ⟨a1, a2, a3⟩ := h1.2 i q hi
  refine ⟨a1, a2, ?_⟩
  by_cases e : q.1 = b
  · rw [e] at a3 ⊢
    rw [va_up_self] at a3
    rw [hw, a3]
  · rw [va_up_ne _ _ e] at a3
    by_cases e2 : q.1 = a
    · rw [e2] at a3 ⊢
      rw [va_up_self] at a3
      rw [hv, a3]
    · rw [va_up_ne _ _ e2] at a3
      rw [hF q.1 a2 (by simp [e, e2]), a3]
theorem va_up_idr (ρ : Nat → RuS) (k : Nat) : va_up ρ k (ρ k) = ρ := by
  funext j
  by_cases h : j = k
  · subst h; rw [va_up_self]
  · rw [va_up_ne _ _ h]
section
variable {l : Launch} {D : va_G} {ck : Nat → ClassId} {ad : (Nat → Nat) × (Nat → Nat)} {b0 N : Nat} {f : Nat → va_E}
variable {T : Nat} {A B : Nat → Nat} {g : Nat → Int32} {len : Nat} {st : RSt} {lb : Int32} {G v : Nat → Int32} {ps : PSt} {cc td : Int32} {rc : Nat} {ρ : Nat → RuS}
set_option maxHeartbeats 4000000 in
set_option maxRecDepth 100000 in
theorem c_Wrk_workOut_b {wk dc rs va tr ka vb ra u : Nat} {lb LB : Int32} {G v K V R GW : Nat → Int32} (hP : zP b0 N f (wWrk ck wk dc rs va lb G v ++ wTre ck tr ka vb ra u K V R u)) (hn : u ≤ 40) (hok : tok K R u (cCL K) (cCR R)) (hLB : dbits v 9 = LB) (hGW : wOut v G (K, V, R, u) = GW) : zK l D ck ad b0 y_Wrk_workOut prog_8_method_2_code 3 ((some FieldType.int)) 4 0 0 [.ref wk, .ref tr] N f (fun r N' f' => r = some (.int (GW 0)) ∧ N = N' ∧ f' wk = oWrk dc rs LB ∧ f' rs = aI ck 400 GW ∧ zF N f f' [wk, rs]) := by
  subst hLB
  subst hGW
  refine zM.mono (c_Wrk_workOut hP (Nat.le_refl _) hn hok) ?_
  intro r N' f' hp
  obtain ⟨h1, h2, h3, h4⟩ := hp
  exact ⟨h1, h2, h3.at 0 rfl, h3.at 1 rfl, h4⟩
set_option maxHeartbeats 4000000 in
set_option maxRecDepth 100000 in
theorem c_Cls_checkOne (hC : zC ck b0 N f T A B g len st lb G v ps cc td rc ρ) {k : Nat} (hk : k < rc) (hok : tOk (ρ k).1) {LB : Int32} {GW : Nat → Int32} (hLB : dbits v 9 = LB) (hGW : wOut v G (ρ k).1 = GW) : zK l D ck ad b0 y_Cls_checkOne prog_1_method_22_code 2 (none) 5 0 0 [.ref (A 0), .ref (B k)] N f (fun r N' f' => r = none ∧ N = N' ∧ zC ck b0 N f' T A B g len st ((ck1 v td lb G (ρ k)).1) ((ck1 v td lb G (ρ k)).2.1) v ps cc td rc (va_up ρ k (ck1 v td lb G (ρ k)).2.2) ∧ zF T f f' (AL A)) := by
  refine zM.of zG_w (by decide) (Nat.le_of_ble_eq_true rfl) ?_
  intro zp ze zst zm zar zbe zme zc X hnm hb0
  have hP := hC.rl hk
  have hF : zF N f f (AL A ++ AR (B k)) := zF.rf
  refine z_aload_n X d_Cls_checkOne_0 rfl ?_
  refine z_ifnonnull X 5 d_Cls_checkOne_1 (by decide) ?_
  refine z_aload_n X d_Cls_checkOne_5 rfl ?_
  refine z_getN X d_Cls_checkOne_6 (hP.lo 19 rfl) (hP.at 19 rfl) cl_Rul in_Rul 3 (by decide) (zG_n X.2.2.2.2.2.1 ns_11) rfl rfl ?_
  refine z_aload_n X d_Cls_checkOne_9 rfl ?_
  refine z_get X d_Cls_checkOne_10 (hP.lo 0 rfl) (hP.at 0 rfl) cl_Cls in_Cls 6 (by decide) fl_Cls_45 rfl rfl ?_
  refine z_icmp_le X 22 d_Cls_checkOne_13 (by decide) (fun h13 => ?_) (fun h13 => ?_)
  · skip
    have e9 : ck1 v td lb G (ρ k) = (LB, GW, ((ρ k).1, rG (ρ k), rH (ρ k), rD (ρ k), GW 0, ruM (rM (ρ k)) (GW 0), ruA (rL (ρ k)) (rA (ρ k)) (GW 0), ruF (rL (ρ k)) (rA (ρ k)) (GW 0))) := by rw [ck1, if_pos h13, hLB, hGW]
    refine z_aload_n X d_Cls_checkOne_22 rfl ?_
    refine z_aload_n X d_Cls_checkOne_23 rfl ?_
    refine z_get X d_Cls_checkOne_24 (hP.lo 0 rfl) (hP.at 0 rfl) cl_Cls in_Cls 1 (by decide) fl_Cls_21 rfl rfl ?_
    refine z_aload_n X d_Cls_checkOne_27 rfl ?_
    refine z_getN X d_Cls_checkOne_28 (hP.lo 19 rfl) (hP.at 19 rfl) cl_Rul in_Rul 0 (by decide) (zG_n X.2.2.2.2.2.1 ns_8) rfl rfl ?_
    refine z_callV X zG_ok (c_Wrk_workOut_b (hP.sub (wc := wWrk ck (A 11) (A 13) (A 12) (A 14) lb G v ++ wTre ck (B k + 1) (B k + 2) (B k + 3) (B k + 4) (ρ k).1.2.2.2 (ρ k).1.1 (ρ k).1.2.1 (ρ k).1.2.2.1 (ρ k).1.2.2.2) [11, 12, 13, 14, 20, 21, 22, 23] (by decide) rfl) hok.2.1 hok.2.2 hLB hGW) d_Cls_checkOne_31 ⟨(z_cb (n := 1) X.2.2.2.2.1 ml_Cls_133 mc_Wrk_workOut ini_Wrk (by decide +kernel) rfl rfl ⟨Nat.le_of_ble_eq_true rfl, Nat.le_of_ble_eq_true rfl⟩), X.2.2.2.2.1 _ im_Wrk_workOut, X.2.2.2.2.1 _ sel_Wrk_workOut⟩ (hP.lo 11 rfl) (hP.at 11 rfl) cl_Wrk rfl rfl (Nat.le_of_ble_eq_true rfl) ⟨Nat.le_of_ble_eq_true rfl, Nat.le_of_ble_eq_true rfl⟩ (fun r N1 f1 hp hN1 => ?_)
    obtain ⟨rfl, rfl, hv1, hv2, hF1⟩ := hp
    have hP := hP.re2 11 12 rfl rfl (by decide) hF1 hv1 hv2
    have hF := hF.join hF1 (Nat.le_refl _) (fun b hb => Or.inl (by simp at hb; rcases hb with rfl | rfl <;> simp))
    refine z_callV X zG_ok (c_Rul_takeResult (hP.sub [19] (by decide) rfl)) d_Cls_checkOne_34 ⟨(z_cb (n := 1) X.2.2.2.2.1 ml_Cls_196 mc_Rul_takeResult ini_Rul (by decide +kernel) rfl rfl ⟨Nat.le_of_ble_eq_true rfl, Nat.le_of_ble_eq_true rfl⟩), X.2.2.2.2.1 _ im_Rul_takeResult, X.2.2.2.2.1 _ sel_Rul_takeResult⟩ (hP.lo 19 rfl) (hP.at 19 rfl) cl_Rul rfl rfl (Nat.le_of_ble_eq_true rfl) ⟨Nat.le_of_ble_eq_true rfl, Nat.le_of_ble_eq_true rfl⟩ (fun r N1 f1 hp hN1 => ?_)
    obtain ⟨rfl, rfl, hP1, hF1⟩ := hp
    have hP := hP.re1 19 rfl hF1 (hP1.at 0 rfl)
    have hF := hF.join hF1 (Nat.le_refl _) (fun b hb => Or.inl (by simp at hb; rcases hb with rfl <;> simp))
    exact z_vret X d_Cls_checkOne_37 ⟨rfl, rfl, by rw [e9]; exact hC.back hk (g' := g) (len' := len) (st' := st) (v' := v) (ps' := ps) (cc' := cc) (td' := td) (lb' := LB) (G' := GW) (r' := ((ρ k).1, rG (ρ k), rH (ρ k), rD (ρ k), GW 0, ruM (rM (ρ k)) (GW 0), ruA (rL (ρ k)) (rA (ρ k)) (GW 0), ruF (rL (ρ k)) (rA (ρ k)) (GW 0))) hP hF, hF.lowC (hC.lo hk).1 (by have := hC.lo hk; omega)⟩
  · skip
    have e9 : ck1 v td lb G (ρ k) = (lb, G, ((ρ k).1, rG (ρ k), rH (ρ k), rD (ρ k), rL (ρ k), rM (ρ k), rA (ρ k), false)) := by rw [ck1, if_neg h13]
    refine z_aload_n X d_Cls_checkOne_16 rfl ?_
    refine z_iconst X d_Cls_checkOne_17 (v := 0) (by decide) ?_
    refine z_putNP X t_Rul ty_Rul n_Rul d_Cls_checkOne_18 hP 19 rfl cl_Rul in_Rul 7 (by decide) (zG_n X.2.2.2.2.2.1 ns_15) rfl rfl rfl rfl rfl (Nat.le_of_ble_eq_true rfl) (fun hP => ?_)
    have hF := hF.by (by simp) hP
    exact z_vret X d_Cls_checkOne_21 ⟨rfl, rfl, by rw [e9]; exact hC.back hk (g' := g) (len' := len) (st' := st) (v' := v) (ps' := ps) (cc' := cc) (td' := td) (lb' := lb) (G' := G) (r' := ((ρ k).1, rG (ρ k), rH (ρ k), rD (ρ k), rL (ρ k), rM (ρ k), rA (ρ k), false)) hP hF, hF.lowC (hC.lo hk).1 (by have := hC.lo hk; omega)⟩
set_option maxHeartbeats 4000000 in
set_option maxRecDepth 100000 in
theorem c_Cls_check (hC : zC ck b0 N f T A B g len st lb G v ps cc td rc ρ) (hrc : rc ≤ 20) (hT : T ≤ N) (hok : ∀ k, k < rc → tOk (ρ k).1) : zK l D ck ad b0 y_Cls_check prog_1_method_9_code 2 ((some FieldType.int)) 6 0 0 [.ref (A 0)] N f (fun r N' f' => r = some (.int (fOut (bBad (ckS v td lb G ρ rc).2.2 true) rc 10 0 0)) ∧ N = N' ∧ zC ck b0 N f' T A B g len st ((ckS v td lb G ρ rc).1) ((ckS v td lb G ρ rc).2.1) v ps (cc + 1) td rc ((ckS v td lb G ρ rc).2.2) ∧ zF T f f' (AL A)) := by
  refine zM.of zG_w (by decide) (Nat.le_of_ble_eq_true rfl) ?_
  intro zp ze zst zm zar zbe zme zc X hnm hb0
  have hP := hC.1
  have hF : zF N f f (AL A) := zF.rf
  have L12 : ∀ (nn : Nat) (k : Nat) (f1 : Nat → va_E), (k ≤ rc ∧ k + nn = rc + 1) → zC ck b0 N f1 T A B g len st ((ckS v td lb G ρ k).1) ((ckS v td lb G ρ k).2.1) v ps (cc + 1) td rc ((ckS v td lb G ρ k).2.2) → zF T f f1 (AL A) → zW zp l ze (zR 6 0 0) zst zm zar zbe zme zc D zcl b0 2 0 0 (MQ zbe (zQ D zcl b0 (fun r N' f' => r = some (.int (fOut (bBad (ckS v td lb G ρ rc).2.2 true) rc 10 0 0)) ∧ N = N' ∧ zC ck b0 N f' T A B g len st ((ckS v td lb G ρ rc).1) ((ckS v td lb G ρ rc).2.1) v ps (cc + 1) td rc ((ckS v td lb G ρ rc).2.2) ∧ zF T f f' (AL A))) zar zst 0 0 (zA b0)) N f1 12 [(0, .ref (A 0)), (1, .int (nI k))] [] := by
    intro nn
    induction nn with
    | zero =>
      intro k f1 hk0 hC1 hFT
      omega
    | succ nn ih =>
      intro k f1 hk0 hC1 hFT
      have hP := hC1.1
      refine z_iload_n X d_Cls_check_12 rfl ?_
      refine z_aload_n X d_Cls_check_13 rfl ?_
      refine z_get X d_Cls_check_14 (hP.lo 0 rfl) (hP.at 0 rfl) cl_Cls in_Cls 4 (by decide) fl_Cls_38 rfl rfl ?_
      refine z_icmp_ge X 35 d_Cls_check_17 (by decide) (fun h17 => ?_) (fun h17 => ?_)
      · skip
        have hk2 : k = rc := by have := (nI_leI (a := rc) (b := k) (by omega) (by omega)).mp h17; omega
        subst hk2
        refine z_aload_n X d_Cls_check_35 rfl ?_
        refine z_iconst X d_Cls_check_36 (v := 0) (by decide) ?_
        refine z_iconst X d_Cls_check_37 (v := 1) (by decide) ?_
        refine z_callV X zG_ok (c_Cls_findBad (hd := true) hC1 hrc) d_Cls_check_38 ⟨(z_cb (n := 2) X.2.2.2.2.1 ml_Cls_117 mc_Cls_findBad ini_Cls (by decide +kernel) rfl rfl ⟨Nat.le_of_ble_eq_true rfl, Nat.le_of_ble_eq_true rfl⟩), X.2.2.2.2.1 _ im_Cls_findBad, X.2.2.2.2.1 _ sel_Cls_findBad⟩ (hP.lo 0 rfl) (hP.at 0 rfl) cl_Cls rfl rfl (Nat.le_of_ble_eq_true rfl) ⟨Nat.le_of_ble_eq_true rfl, Nat.le_of_ble_eq_true rfl⟩ (fun r N1 f1 hp hN1 => ?_)
        obtain ⟨rfl, rfl, rfl⟩ := hp
        exact z_iret X d_Cls_check_41 ⟨rfl, rfl, hC1, hFT⟩
      · skip
        have hk : k < rc := by
          rcases Nat.lt_or_ge k rc with z | z
          · exact z
          · exact absurd (nI_le (a := rc) (b := k) z (by omega)) h17
        refine z_aload_n X d_Cls_check_20 rfl ?_
        refine z_aload_n X d_Cls_check_21 rfl ?_
        refine z_iload_n X d_Cls_check_22 rfl ?_
        refine z_callV X zG_ok (c_Cls_find_y hC1 hk hrc) d_Cls_check_23 ⟨(z_cb (n := 1) X.2.2.2.2.1 ml_Cls_79 mc_Cls_find ini_Cls (by decide +kernel) rfl rfl ⟨Nat.le_of_ble_eq_true rfl, Nat.le_of_ble_eq_true rfl⟩), X.2.2.2.2.1 _ im_Cls_find, X.2.2.2.2.1 _ sel_Cls_find⟩ (hP.lo 0 rfl) (hP.at 0 rfl) cl_Cls rfl rfl (Nat.le_of_ble_eq_true rfl) ⟨Nat.le_of_ble_eq_true rfl, Nat.le_of_ble_eq_true rfl⟩ (fun r N1 f1 hp hN1 => ?_)
        obtain ⟨rfl, rfl, rfl⟩ := hp
        refine z_callV X zG_ok (c_Cls_checkOne hC1 hk (by rw [ckS_t]; exact hok k hk) rfl rfl) d_Cls_check_26 ⟨(z_cb (n := 1) X.2.2.2.2.1 ml_Cls_113 mc_Cls_checkOne ini_Cls (by decide +kernel) rfl rfl ⟨Nat.le_of_ble_eq_true rfl, Nat.le_of_ble_eq_true rfl⟩), X.2.2.2.2.1 _ im_Cls_checkOne, X.2.2.2.2.1 _ sel_Cls_checkOne⟩ (hP.lo 0 rfl) (hP.at 0 rfl) cl_Cls rfl rfl (Nat.le_of_ble_eq_true rfl) ⟨Nat.le_of_ble_eq_true rfl, Nat.le_of_ble_eq_true rfl⟩ (fun r N1 f1 hp hN1 => ?_)
        obtain ⟨rfl, rfl, hC1, hF1⟩ := hp
        have hFT := hFT.join hF1 (Nat.le_refl _) (fun _ h => Or.inl h)
        refine z_iinc X d_Cls_check_29 rfl (nI_1 _) (by decide) rfl ?_
        refine z_goto X 12 d_Cls_check_32 (by decide) ?_
        exact ih (k + 1) _ (by omega) hC1 hFT
  refine z_aload_n X d_Cls_check_0 rfl ?_
  refine z_dup X d_Cls_check_1 rfl ?_
  refine z_get X d_Cls_check_2 (hP.lo 0 rfl) (hP.at 0 rfl) cl_Cls in_Cls 5 (by decide) fl_Cls_42 rfl rfl ?_
  refine z_iconst X d_Cls_check_5 (v := 1) (by decide) ?_
  refine z_iadd X d_Cls_check_6 ?_
  refine z_putP X t_Cls ty_Cls n_Cls d_Cls_check_7 hP 0 rfl cl_Cls in_Cls 5 (by decide) fl_Cls_42 rfl rfl rfl rfl rfl (Nat.le_of_ble_eq_true rfl) (fun hP => ?_)
  have hF := hF.by (by simp) hP
  refine z_iconst X d_Cls_check_10 (v := 0) (by decide) ?_
  refine z_istore_n X d_Cls_check_11 (by decide) rfl ?_
  exact L12 (rc + 1) 0 _ (by omega) (hC.back0 (Nat.le_refl _) (cc' := cc + 1) hP hF) (hF.mono hT (fun _ h => Or.inl h))
set_option maxHeartbeats 4000000 in
set_option maxRecDepth 100000 in
theorem c_Cls_was_y (hC : zC ck b0 N f T A B g len st lb G v ps cc td rc ρ) {k : Nat} (hk : k < rc) (hrc : rc ≤ 20) : zK l D ck ad b0 y_Cls_was prog_1_method_11_code 3 ((some FieldType.int)) 10 0 0 [.ref (A 0), .int (nI k)] N f (fun r N' f' => r = some (.int (rL (ρ k))) ∧ N = N' ∧ f = f') := by
  refine zM.of zG_w (by decide) (Nat.le_of_ble_eq_true rfl) ?_
  intro zp ze zst zm zar zbe zme zc X hnm hb0
  have hP := hC.rl hk
  refine z_aload_n X d_Cls_was_0 rfl ?_
  refine z_iload_n X d_Cls_was_1 rfl ?_
  refine z_callV X zG_ok (c_Cls_find_y hC hk hrc) d_Cls_was_2 ⟨(z_cb (n := 1) X.2.2.2.2.1 ml_Cls_79 mc_Cls_find ini_Cls (by decide +kernel) rfl rfl ⟨Nat.le_of_ble_eq_true rfl, Nat.le_of_ble_eq_true rfl⟩), X.2.2.2.2.1 _ im_Cls_find, X.2.2.2.2.1 _ sel_Cls_find⟩ (hP.lo 0 rfl) (hP.at 0 rfl) cl_Cls rfl rfl (Nat.le_of_ble_eq_true rfl) ⟨Nat.le_of_ble_eq_true rfl, Nat.le_of_ble_eq_true rfl⟩ (fun r N1 f1 hp hN1 => ?_)
  obtain ⟨rfl, rfl, rfl⟩ := hp
  refine z_astore_n X d_Cls_was_5 (by decide) rfl ?_
  refine z_aload_n X d_Cls_was_6 rfl ?_
  refine z_ifnonnull X 20 d_Cls_was_7 (by decide) ?_
  refine z_aload_n X d_Cls_was_20 rfl ?_
  refine z_getN X d_Cls_was_21 (hP.lo 19 rfl) (hP.at 19 rfl) cl_Rul in_Rul 4 (by decide) (zG_n X.2.2.2.2.2.1 ns_12) rfl rfl ?_
  exact z_iret X d_Cls_was_24 ⟨rfl, rfl, rfl⟩
set_option maxHeartbeats 4000000 in
set_option maxRecDepth 100000 in
theorem c_Cls_is_y (hC : zC ck b0 N f T A B g len st lb G v ps cc td rc ρ) {k : Nat} (hk : k < rc) (hrc : rc ≤ 20) (hok : tOk (ρ k).1) {LB : Int32} {GW : Nat → Int32} (hLB : dbits v 9 = LB) (hGW : wOut v G (ρ k).1 = GW) : zK l D ck ad b0 y_Cls_is prog_1_method_12_code 3 ((some FieldType.int)) 10 0 0 [.ref (A 0), .int (nI k)] N f (fun r N' f' => r = some (.int (GW 0)) ∧ N = N' ∧ zC ck b0 N f' T A B g len st LB GW v ps cc td rc ρ ∧ zF T f f' (AL A)) := by
  refine zM.of zG_w (by decide) (Nat.le_of_ble_eq_true rfl) ?_
  intro zp ze zst zm zar zbe zme zc X hnm hb0
  have hP := hC.rl hk
  have hF : zF N f f (AL A ++ AR (B k)) := zF.rf
  refine z_aload_n X d_Cls_is_0 rfl ?_
  refine z_iload_n X d_Cls_is_1 rfl ?_
  refine z_callV X zG_ok (c_Cls_find_y hC hk hrc) d_Cls_is_2 ⟨(z_cb (n := 1) X.2.2.2.2.1 ml_Cls_79 mc_Cls_find ini_Cls (by decide +kernel) rfl rfl ⟨Nat.le_of_ble_eq_true rfl, Nat.le_of_ble_eq_true rfl⟩), X.2.2.2.2.1 _ im_Cls_find, X.2.2.2.2.1 _ sel_Cls_find⟩ (hP.lo 0 rfl) (hP.at 0 rfl) cl_Cls rfl rfl (Nat.le_of_ble_eq_true rfl) ⟨Nat.le_of_ble_eq_true rfl, Nat.le_of_ble_eq_true rfl⟩ (fun r N1 f1 hp hN1 => ?_)
  obtain ⟨rfl, rfl, rfl⟩ := hp
  refine z_astore_n X d_Cls_is_5 (by decide) rfl ?_
  refine z_aload_n X d_Cls_is_6 rfl ?_
  refine z_ifnonnull X 20 d_Cls_is_7 (by decide) ?_
  refine z_aload_n X d_Cls_is_20 rfl ?_
  refine z_get X d_Cls_is_21 (hP.lo 0 rfl) (hP.at 0 rfl) cl_Cls in_Cls 1 (by decide) fl_Cls_21 rfl rfl ?_
  refine z_aload_n X d_Cls_is_24 rfl ?_
  refine z_getN X d_Cls_is_25 (hP.lo 19 rfl) (hP.at 19 rfl) cl_Rul in_Rul 0 (by decide) (zG_n X.2.2.2.2.2.1 ns_8) rfl rfl ?_
  refine z_callV X zG_ok (c_Wrk_workOut_b (hP.sub (wc := wWrk ck (A 11) (A 13) (A 12) (A 14) lb G v ++ wTre ck (B k + 1) (B k + 2) (B k + 3) (B k + 4) (ρ k).1.2.2.2 (ρ k).1.1 (ρ k).1.2.1 (ρ k).1.2.2.1 (ρ k).1.2.2.2) [11, 12, 13, 14, 20, 21, 22, 23] (by decide) rfl) hok.2.1 hok.2.2 hLB hGW) d_Cls_is_28 ⟨(z_cb (n := 1) X.2.2.2.2.1 ml_Cls_133 mc_Wrk_workOut ini_Wrk (by decide +kernel) rfl rfl ⟨Nat.le_of_ble_eq_true rfl, Nat.le_of_ble_eq_true rfl⟩), X.2.2.2.2.1 _ im_Wrk_workOut, X.2.2.2.2.1 _ sel_Wrk_workOut⟩ (hP.lo 11 rfl) (hP.at 11 rfl) cl_Wrk rfl rfl (Nat.le_of_ble_eq_true rfl) ⟨Nat.le_of_ble_eq_true rfl, Nat.le_of_ble_eq_true rfl⟩ (fun r N1 f1 hp hN1 => ?_)
  obtain ⟨rfl, rfl, hv1, hv2, hF1⟩ := hp
  have hP := hP.re2 11 12 rfl rfl (by decide) hF1 hv1 hv2
  have hF := hF.join hF1 (Nat.le_refl _) (fun b hb => Or.inl (by simp at hb; rcases hb with rfl | rfl <;> simp))
  exact z_iret X d_Cls_is_31 ⟨rfl, rfl, (by have hz := hC.back hk (g' := g) (len' := len) (st' := st) (v' := v) (ps' := ps) (cc' := cc) (td' := td) (lb' := LB) (G' := GW) (r' := ρ k) hP hF; rw [va_up_idr] at hz; exact hz), hF.lowC (hC.lo hk).1 (by have := hC.lo hk; omega)⟩
set_option maxHeartbeats 4000000 in
set_option maxRecDepth 100000 in
theorem c_Cls_node_y (hC : zC ck b0 N f T A B g len st lb G v ps cc td rc ρ) {k : Nat} (hk : k < rc) (hrc : rc ≤ 20) (hu : (ρ k).1.2.2.2 ≤ 40) {i0 w : Int32} (hi0 : ¬ i0 < 0) (hi1 : ¬ nI (ρ k).1.2.2.2 ≤ i0) (hw0 : ¬ w < 0) (hw1 : w ≤ 3) : zK l D ck ad b0 y_Cls_node prog_1_method_16_code 5 ((some FieldType.int)) 10 0 0 [.ref (A 0), .int (nI k), .int i0, .int w] N f (fun r N' f' => r = some (.int (ndv (ρ k).1 i0 w)) ∧ N = N' ∧ f = f') := by
  refine zM.of zG_w (by decide) (Nat.le_of_ble_eq_true rfl) ?_
  intro zp ze zst zm zar zbe zme zc X hnm hb0
  have hP := hC.rl hk
  refine z_aload_n X d_Cls_node_0 rfl ?_
  refine z_iload_n X d_Cls_node_1 rfl ?_
  refine z_callV X zG_ok (c_Cls_find_y hC hk hrc) d_Cls_node_2 ⟨(z_cb (n := 1) X.2.2.2.2.1 ml_Cls_79 mc_Cls_find ini_Cls (by decide +kernel) rfl rfl ⟨Nat.le_of_ble_eq_true rfl, Nat.le_of_ble_eq_true rfl⟩), X.2.2.2.2.1 _ im_Cls_find, X.2.2.2.2.1 _ sel_Cls_find⟩ (hP.lo 0 rfl) (hP.at 0 rfl) cl_Cls rfl rfl (Nat.le_of_ble_eq_true rfl) ⟨Nat.le_of_ble_eq_true rfl, Nat.le_of_ble_eq_true rfl⟩ (fun r N1 f1 hp hN1 => ?_)
  obtain ⟨rfl, rfl, rfl⟩ := hp
  refine z_astore X d_Cls_node_5 (by decide) rfl ?_
  refine z_aload X d_Cls_node_7 rfl ?_
  refine z_ifnull X d_Cls_node_9 ?_
  refine z_iload_n X d_Cls_node_12 rfl ?_
  refine z_if_lt X 37 d_Cls_node_13 (by decide) (fun h13 => ?_) (fun h13 => ?_)
  · skip
    exact absurd h13 hi0
  · skip
    refine z_iload_n X d_Cls_node_16 rfl ?_
    refine z_aload X d_Cls_node_17 rfl ?_
    refine z_getN X d_Cls_node_19 (hP.lo 19 rfl) (hP.at 19 rfl) cl_Rul in_Rul 0 (by decide) (zG_n X.2.2.2.2.2.1 ns_8) rfl rfl ?_
    refine z_callV X zG_ok (c_Tre_size (hP.sub [20, 21, 22, 23] (by decide) rfl)) d_Cls_node_22 ⟨(z_cb (n := 0) X.2.2.2.2.1 ml_Cls_150 mc_Tre_size ini_Tre (by decide +kernel) rfl rfl ⟨Nat.le_of_ble_eq_true rfl, Nat.le_of_ble_eq_true rfl⟩), X.2.2.2.2.1 _ im_Tre_size, X.2.2.2.2.1 _ sel_Tre_size⟩ (hP.lo 20 rfl) (hP.at 20 rfl) cl_Tre rfl rfl (Nat.le_of_ble_eq_true rfl) ⟨Nat.le_of_ble_eq_true rfl, Nat.le_of_ble_eq_true rfl⟩ (fun r N1 f1 hp hN1 => ?_)
    obtain ⟨rfl, rfl, rfl⟩ := hp
    refine z_icmp_ge X 37 d_Cls_node_25 (by decide) (fun h25 => ?_) (fun h25 => ?_)
    · skip
      exact absurd h25 hi1
    · skip
      refine z_iload_n X d_Cls_node_28 rfl ?_
      refine z_if_lt X 37 d_Cls_node_29 (by decide) (fun h29 => ?_) (fun h29 => ?_)
      · skip
        exact absurd h29 hw0
      · skip
        refine z_iload_n X d_Cls_node_32 rfl ?_
        refine z_iconst X d_Cls_node_33 (v := 3) (by decide) ?_
        refine z_icmp_le X 47 d_Cls_node_34 (by decide) (fun h34 => ?_) (fun h34 => ?_)
        · skip
          refine z_iload_n X d_Cls_node_47 rfl ?_
          refine z_tableL X 106 [76, 86, 96] d_Cls_node_48 (by decide) (by decide) (by decide) (fun i hi hx => ?_) (fun hd => ?_) (by decide)
          · match i, hi, hx with
            | 0, _, hx =>
              have g48 : _ = (0 : Int32) := hx
              have g48 : w = 0 := g48
              subst g48
              refine zW.topc (pc' := 76) rfl ?_
              refine z_aload X d_Cls_node_76 rfl ?_
              refine z_getN X d_Cls_node_78 (hP.lo 19 rfl) (hP.at 19 rfl) cl_Rul in_Rul 0 (by decide) (zG_n X.2.2.2.2.2.1 ns_8) rfl rfl ?_
              refine z_iload_n X d_Cls_node_81 rfl ?_
              refine z_callV X zG_ok (c_Tre_kindOf (hP.sub (wc := wTre ck (B k + 1) (B k + 2) (B k + 3) (B k + 4) (ρ k).1.2.2.2 (ρ k).1.1 (ρ k).1.2.1 (ρ k).1.2.2.1 (ρ k).1.2.2.2) [20, 21, 22, 23] (by decide) rfl) (Nat.le_refl _) hu) d_Cls_node_82 ⟨(z_cb (n := 1) X.2.2.2.2.1 ml_Cls_158 mc_Tre_kindOf ini_Tre (by decide +kernel) rfl rfl ⟨Nat.le_of_ble_eq_true rfl, Nat.le_of_ble_eq_true rfl⟩), X.2.2.2.2.1 _ im_Tre_kindOf, X.2.2.2.2.1 _ sel_Tre_kindOf⟩ (hP.lo 20 rfl) (hP.at 20 rfl) cl_Tre rfl rfl (Nat.le_of_ble_eq_true rfl) ⟨Nat.le_of_ble_eq_true rfl, Nat.le_of_ble_eq_true rfl⟩ (fun r N1 f1 hp hN1 => ?_)
              obtain ⟨rfl, rfl, rfl⟩ := hp
              exact z_iret X d_Cls_node_85 ⟨rfl, rfl, rfl⟩
            | 1, _, hx =>
              have g48 : _ = (1 : Int32) := hx
              have g48 : w = 1 := g48
              subst g48
              refine zW.topc (pc' := 86) rfl ?_
              refine z_aload X d_Cls_node_86 rfl ?_
              refine z_getN X d_Cls_node_88 (hP.lo 19 rfl) (hP.at 19 rfl) cl_Rul in_Rul 0 (by decide) (zG_n X.2.2.2.2.2.1 ns_8) rfl rfl ?_
              refine z_iload_n X d_Cls_node_91 rfl ?_
              refine z_callV X zG_ok (c_Tre_valueOf (hP.sub (wc := wTre ck (B k + 1) (B k + 2) (B k + 3) (B k + 4) (ρ k).1.2.2.2 (ρ k).1.1 (ρ k).1.2.1 (ρ k).1.2.2.1 (ρ k).1.2.2.2) [20, 21, 22, 23] (by decide) rfl) (Nat.le_refl _) hu) d_Cls_node_92 ⟨(z_cb (n := 1) X.2.2.2.2.1 ml_Cls_162 mc_Tre_valueOf ini_Tre (by decide +kernel) rfl rfl ⟨Nat.le_of_ble_eq_true rfl, Nat.le_of_ble_eq_true rfl⟩), X.2.2.2.2.1 _ im_Tre_valueOf, X.2.2.2.2.1 _ sel_Tre_valueOf⟩ (hP.lo 20 rfl) (hP.at 20 rfl) cl_Tre rfl rfl (Nat.le_of_ble_eq_true rfl) ⟨Nat.le_of_ble_eq_true rfl, Nat.le_of_ble_eq_true rfl⟩ (fun r N1 f1 hp hN1 => ?_)
              obtain ⟨rfl, rfl, rfl⟩ := hp
              exact z_iret X d_Cls_node_95 ⟨rfl, rfl, rfl⟩
            | 2, _, hx =>
              have g48 : _ = (2 : Int32) := hx
              have g48 : w = 2 := g48
              subst g48
              refine zW.topc (pc' := 96) rfl ?_
              refine z_aload X d_Cls_node_96 rfl ?_
              refine z_getN X d_Cls_node_98 (hP.lo 19 rfl) (hP.at 19 rfl) cl_Rul in_Rul 0 (by decide) (zG_n X.2.2.2.2.2.1 ns_8) rfl rfl ?_
              refine z_iload_n X d_Cls_node_101 rfl ?_
              refine z_callV X zG_ok (c_Tre_leftOf (hP.sub (wc := wTre ck (B k + 1) (B k + 2) (B k + 3) (B k + 4) (ρ k).1.2.2.2 (ρ k).1.1 (ρ k).1.2.1 (ρ k).1.2.2.1 (ρ k).1.2.2.2) [20, 21, 22, 23] (by decide) rfl) (Nat.le_refl _) hu) d_Cls_node_102 ⟨(z_cb (n := 1) X.2.2.2.2.1 ml_Cls_165 mc_Tre_leftOf ini_Tre (by decide +kernel) rfl rfl ⟨Nat.le_of_ble_eq_true rfl, Nat.le_of_ble_eq_true rfl⟩), X.2.2.2.2.1 _ im_Tre_leftOf, X.2.2.2.2.1 _ sel_Tre_leftOf⟩ (hP.lo 20 rfl) (hP.at 20 rfl) cl_Tre rfl rfl (Nat.le_of_ble_eq_true rfl) ⟨Nat.le_of_ble_eq_true rfl, Nat.le_of_ble_eq_true rfl⟩ (fun r N1 f1 hp hN1 => ?_)
              obtain ⟨rfl, rfl, rfl⟩ := hp
              exact z_iret X d_Cls_node_105 ⟨rfl, rfl, rfl⟩
            | j + 3, hi, _ => exact absurd hi (by simp)
          · skip
            have g48_0 : ¬ _ = (0 : Int32) := hd 0 (by decide)
            have g48_1 : ¬ _ = (1 : Int32) := hd 1 (by decide)
            have g48_2 : ¬ _ = (2 : Int32) := hd 2 (by decide)
            have e9 : ndv (ρ k).1 i0 w = sgv (ρ k).1.2.2.1 (ρ k).1.2.2.2 i0 := by rw [ndv, if_neg g48_0, if_neg g48_1, if_neg g48_2]
            refine z_aload X d_Cls_node_106 rfl ?_
            refine z_getN X d_Cls_node_108 (hP.lo 19 rfl) (hP.at 19 rfl) cl_Rul in_Rul 0 (by decide) (zG_n X.2.2.2.2.2.1 ns_8) rfl rfl ?_
            refine z_iload_n X d_Cls_node_111 rfl ?_
            refine z_callV X zG_ok (c_Tre_rightOf (hP.sub (wc := wTre ck (B k + 1) (B k + 2) (B k + 3) (B k + 4) (ρ k).1.2.2.2 (ρ k).1.1 (ρ k).1.2.1 (ρ k).1.2.2.1 (ρ k).1.2.2.2) [20, 21, 22, 23] (by decide) rfl) (Nat.le_refl _) hu) d_Cls_node_112 ⟨(z_cb (n := 1) X.2.2.2.2.1 ml_Cls_168 mc_Tre_rightOf ini_Tre (by decide +kernel) rfl rfl ⟨Nat.le_of_ble_eq_true rfl, Nat.le_of_ble_eq_true rfl⟩), X.2.2.2.2.1 _ im_Tre_rightOf, X.2.2.2.2.1 _ sel_Tre_rightOf⟩ (hP.lo 20 rfl) (hP.at 20 rfl) cl_Tre rfl rfl (Nat.le_of_ble_eq_true rfl) ⟨Nat.le_of_ble_eq_true rfl, Nat.le_of_ble_eq_true rfl⟩ (fun r N1 f1 hp hN1 => ?_)
            obtain ⟨rfl, rfl, rfl⟩ := hp
            exact z_iret X d_Cls_node_115 ⟨by rw [e9], rfl, rfl⟩
        · skip
          exact absurd hw1 h34
set_option maxHeartbeats 4000000 in
set_option maxRecDepth 100000 in
theorem c_Cls_print_y (hC : zC ck b0 N f T A B g len st lb G v ps cc td rc ρ) {k : Nat} (hk : k < rc) (hrc : rc ≤ 20) (hu : (ρ k).1.2.2.2 ≤ 40) (hl : ps.2 ≤ 200) : zK l D ck ad b0 y_Cls_print prog_1_method_17_code 3 ((some FieldType.int)) 88 0 0 [.ref (A 0), .int (nI k)] N f (fun r N' f' => r = some (.int (nI (pPut (pTxt (ρ k).1.1 (ρ k).1.2.1 (ρ k).1.2.2.1 (ρ k).1.2.2.2 40 0) (ps.1, 0)).2)) ∧ N = N' ∧ zC ck b0 N f' T A B g len st lb G v (pPut (pTxt (ρ k).1.1 (ρ k).1.2.1 (ρ k).1.2.2.1 (ρ k).1.2.2.2 40 0) (ps.1, 0)) cc td rc ρ ∧ zF T f f' (AL A)) := by
  refine zM.of zG_w (by decide) (Nat.le_of_ble_eq_true rfl) ?_
  intro zp ze zst zm zar zbe zme zc X hnm hb0
  have hP := hC.rl hk
  have hF : zF N f f (AL A ++ AR (B k)) := zF.rf
  refine z_aload_n X d_Cls_print_0 rfl ?_
  refine z_iload_n X d_Cls_print_1 rfl ?_
  refine z_callV X zG_ok (c_Cls_find_y hC hk hrc) d_Cls_print_2 ⟨(z_cb (n := 1) X.2.2.2.2.1 ml_Cls_79 mc_Cls_find ini_Cls (by decide +kernel) rfl rfl ⟨Nat.le_of_ble_eq_true rfl, Nat.le_of_ble_eq_true rfl⟩), X.2.2.2.2.1 _ im_Cls_find, X.2.2.2.2.1 _ sel_Cls_find⟩ (hP.lo 0 rfl) (hP.at 0 rfl) cl_Cls rfl rfl (Nat.le_of_ble_eq_true rfl) ⟨Nat.le_of_ble_eq_true rfl, Nat.le_of_ble_eq_true rfl⟩ (fun r N1 f1 hp hN1 => ?_)
  obtain ⟨rfl, rfl, rfl⟩ := hp
  refine z_astore_n X d_Cls_print_5 (by decide) rfl ?_
  refine z_aload_n X d_Cls_print_6 rfl ?_
  refine z_ifnonnull X 20 d_Cls_print_7 (by decide) ?_
  refine z_aload_n X d_Cls_print_20 rfl ?_
  refine z_get X d_Cls_print_21 (hP.lo 0 rfl) (hP.at 0 rfl) cl_Cls in_Cls 2 (by decide) fl_Cls_28 rfl rfl ?_
  refine z_aload_n X d_Cls_print_24 rfl ?_
  refine z_getN X d_Cls_print_25 (hP.lo 19 rfl) (hP.at 19 rfl) cl_Rul in_Rul 0 (by decide) (zG_n X.2.2.2.2.2.1 ns_8) rfl rfl ?_
  refine z_callV X zG_ok (c_Prt_printTree (A := pA A (B k)) (hP.sub (wc := wPT ck (pA A (B k)) ps (ρ k).1.2.2.2 (ρ k).1.1 (ρ k).1.2.1 (ρ k).1.2.2.1 (ρ k).1.2.2.2) [15, 16, 17, 20, 21, 22, 23] (by decide) rfl) hl (Nat.le_refl _) hu) d_Cls_print_28 ⟨(z_cb (n := 1) X.2.2.2.2.1 ml_Cls_171 mc_Prt_printTree ini_Prt (by decide +kernel) rfl rfl ⟨Nat.le_of_ble_eq_true rfl, Nat.le_of_ble_eq_true rfl⟩), X.2.2.2.2.1 _ im_Prt_printTree, X.2.2.2.2.1 _ sel_Prt_printTree⟩ (hP.lo 15 rfl) (hP.at 15 rfl) cl_Prt rfl rfl (Nat.le_of_ble_eq_true rfl) ⟨Nat.le_of_ble_eq_true rfl, Nat.le_of_ble_eq_true rfl⟩ (fun r N1 f1 hp hN1 => ?_)
  obtain ⟨rfl, rfl, hP1, hF1⟩ := hp
  generalize hps : pPut (pTxt (ρ k).1.1 (ρ k).1.2.1 (ρ k).1.2.2.1 (ρ k).1.2.2.2 40 0) (ps.1, 0) = ps1 at hP1 ⊢
  have hF1 : zF N f f1 [A 16, A 17] := hF1
  have hP := hP.re2 16 17 rfl rfl (by decide) hF1 (y := oSgn (A 17) (nI ps1.2)) (w := aI ck 200 ps1.1) (hP1.at 1 rfl) (hP1.at 2 rfl)
  have hF := hF.join hF1 (Nat.le_refl _) (fun b hb => Or.inl (by simp at hb; rcases hb with rfl | rfl <;> simp))
  refine z_aload_n X d_Cls_print_31 rfl ?_
  refine z_get X d_Cls_print_32 (hP.lo 0 rfl) (hP.at 0 rfl) cl_Cls in_Cls 2 (by decide) fl_Cls_28 rfl rfl ?_
  refine z_getN X d_Cls_print_35 (hP.lo 15 rfl) (hP.at 15 rfl) cl_Prt in_Prt 0 (by decide) (zG_n X.2.2.2.2.2.1 ns_7) rfl rfl ?_
  refine z_callV X zG_ok (c_Sgn_size (u := ps1.2) (g := ps1.1) (hP.sub [16, 17] (by decide) rfl)) d_Cls_print_38 ⟨(z_cb (n := 0) X.2.2.2.2.1 ml_Cls_177 mc_Sgn_size ini_Sgn (by decide +kernel) rfl rfl ⟨Nat.le_of_ble_eq_true rfl, Nat.le_of_ble_eq_true rfl⟩), X.2.2.2.2.1 _ im_Sgn_size, X.2.2.2.2.1 _ sel_Sgn_size⟩ (hP.lo 16 rfl) (hP.at 16 rfl) cl_Sgn rfl rfl (Nat.le_of_ble_eq_true rfl) ⟨Nat.le_of_ble_eq_true rfl, Nat.le_of_ble_eq_true rfl⟩ (fun r N1 f1 hp hN1 => ?_)
  obtain ⟨rfl, rfl, rfl⟩ := hp
  exact z_iret X d_Cls_print_41 ⟨rfl, rfl, (va_up_idr ρ k ▸ hC.back hk (r' := ρ k) hP hF), hF.lowC (hC.lo hk).1 (by have := hC.lo hk; omega)⟩
set_option maxHeartbeats 4000000 in
set_option maxRecDepth 100000 in
theorem c_Cls_at_y (hC : zC ck b0 N f T A B g len st lb G v ps cc td rc ρ) (hl : ps.2 ≤ 200) {i0 : Int32} (hi : ¬ sgv ps.1 ps.2 i0 = -1) : zK l D ck ad b0 y_Cls_at prog_1_method_18_code 3 ((some FieldType.int)) 10 0 0 [.ref (A 0), .int i0] N f (fun r N' f' => r = some (.int (sgv ps.1 ps.2 i0)) ∧ N = N' ∧ f = f') := by
  refine zM.of zG_w (by decide) (Nat.le_of_ble_eq_true rfl) ?_
  intro zp ze zst zm zar zbe zme zc X hnm hb0
  have hP := hC.1
  refine z_aload_n X d_Cls_at_0 rfl ?_
  refine z_get X d_Cls_at_1 (hP.lo 0 rfl) (hP.at 0 rfl) cl_Cls in_Cls 2 (by decide) fl_Cls_28 rfl rfl ?_
  refine z_getN X d_Cls_at_4 (hP.lo 15 rfl) (hP.at 15 rfl) cl_Prt in_Prt 0 (by decide) (zG_n X.2.2.2.2.2.1 ns_7) rfl rfl ?_
  refine z_iload_n X d_Cls_at_7 rfl ?_
  refine z_callV X zG_ok (c_Sgn_get (hP.sub [16, 17] (by decide) rfl) hl) d_Cls_at_8 ⟨(z_cb (n := 1) X.2.2.2.2.1 ml_Cls_178 mc_Sgn_get ini_Sgn (by decide +kernel) rfl rfl ⟨Nat.le_of_ble_eq_true rfl, Nat.le_of_ble_eq_true rfl⟩), X.2.2.2.2.1 _ im_Sgn_get, X.2.2.2.2.1 _ sel_Sgn_get⟩ (hP.lo 16 rfl) (hP.at 16 rfl) cl_Sgn rfl rfl (Nat.le_of_ble_eq_true rfl) ⟨Nat.le_of_ble_eq_true rfl, Nat.le_of_ble_eq_true rfl⟩ (fun r N1 f1 hp hN1 => ?_)
  obtain ⟨rfl, rfl, rfl⟩ := hp
  refine z_istore_n X d_Cls_at_11 (by decide) rfl ?_
  refine z_iload_n X d_Cls_at_12 rfl ?_
  refine z_iconst X d_Cls_at_13 (v := -1) (by decide) ?_
  refine z_icmp_ne X 27 d_Cls_at_14 (by decide) (fun h14 => ?_) (fun h14 => ?_)
  · skip
    refine z_iload_n X d_Cls_at_27 rfl ?_
    exact z_iret X d_Cls_at_28 ⟨rfl, rfl, rfl⟩
  · skip
    exact absurd h14 hi
set_option maxHeartbeats 4000000 in
set_option maxRecDepth 100000 in
theorem c_Cls_touch_y (hC : zC ck b0 N f T A B g len st lb G v ps cc td rc ρ) (hrc : rc ≤ 20) (hok : ∀ k, k < rc → tOk (ρ k).1) {fd : Int32} (h0 : ¬ fd < 0) (h20 : fd < 20) : zK l D ck ad b0 y_Cls_touch prog_1_method_14_code 5 ((some FieldType.int)) 10 0 0 [.ref (A 0), .int fd] N f (fun r N' f' => r = some (.int (fCnt (bTou ρ fd) rc)) ∧ N = N' ∧ f = f') := by
  refine zM.of zG_w (by decide) (Nat.le_of_ble_eq_true rfl) ?_
  intro zp ze zst zm zar zbe zme zc X hnm hb0
  have hP := hC.1
  have L24 : ∀ (nn : Nat) (k : Nat), (k ≤ rc ∧ k + nn = rc + 1) → zW zp l ze (zR 10 0 0) zst zm zar zbe zme zc D zcl b0 5 0 0 (MQ zbe (zQ D zcl b0 (fun r N' f' => r = some (.int (fCnt (bTou ρ fd) rc)) ∧ N = N' ∧ f = f')) zar zst 0 0 (zA b0)) N f 24 [(0, .ref (A 0)), (1, .int fd), (2, .int (fCnt (bTou ρ fd) k)), (3, .int (nI k))] [] := by
    intro nn
    induction nn with
    | zero =>
      intro k hk0
      omega
    | succ nn ih =>
      intro k hk0
      refine z_iload_n X d_Cls_touch_24 rfl ?_
      refine z_aload_n X d_Cls_touch_25 rfl ?_
      refine z_get X d_Cls_touch_26 (hP.lo 0 rfl) (hP.at 0 rfl) cl_Cls in_Cls 4 (by decide) fl_Cls_38 rfl rfl ?_
      refine z_icmp_ge X 65 d_Cls_touch_29 (by decide) (fun h29 => ?_) (fun h29 => ?_)
      · skip
        have hk2 : k = rc := by have := (nI_leI (a := rc) (b := k) (by omega) (by omega)).mp h29; omega
        subst hk2
        refine z_iload_n X d_Cls_touch_65 rfl ?_
        exact z_iret X d_Cls_touch_66 ⟨rfl, rfl, rfl⟩
      · skip
        have hk : k < rc := by
          rcases Nat.lt_or_ge k rc with z | z
          · exact z
          · exact absurd (nI_le (a := rc) (b := k) z (by omega)) h29
        have hP := hC.rl hk
        have hu := (hok k hk).2.1
        refine z_aload_n X d_Cls_touch_32 rfl ?_
        refine z_iload_n X d_Cls_touch_33 rfl ?_
        refine z_callV X zG_ok (c_Cls_find_y hC hk hrc) d_Cls_touch_34 ⟨(z_cb (n := 1) X.2.2.2.2.1 ml_Cls_79 mc_Cls_find ini_Cls (by decide +kernel) rfl rfl ⟨Nat.le_of_ble_eq_true rfl, Nat.le_of_ble_eq_true rfl⟩), X.2.2.2.2.1 _ im_Cls_find, X.2.2.2.2.1 _ sel_Cls_find⟩ (hP.lo 0 rfl) (hP.at 0 rfl) cl_Cls rfl rfl (Nat.le_of_ble_eq_true rfl) ⟨Nat.le_of_ble_eq_true rfl, Nat.le_of_ble_eq_true rfl⟩ (fun r N1 f1 hp hN1 => ?_)
        obtain ⟨rfl, rfl, rfl⟩ := hp
        refine z_astore X d_Cls_touch_37 (by decide) rfl ?_
        refine z_aload X d_Cls_touch_39 rfl ?_
        refine z_ifnull X d_Cls_touch_41 ?_
        refine z_aload X d_Cls_touch_44 rfl ?_
        refine z_getN X d_Cls_touch_46 (hP.lo 19 rfl) (hP.at 19 rfl) cl_Rul in_Rul 0 (by decide) (zG_n X.2.2.2.2.2.1 ns_8) rfl rfl ?_
        refine z_iload_n X d_Cls_touch_49 rfl ?_
        refine z_callV X zG_ok (c_Tre_names (hP.sub (wc := wTre ck (B k + 1) (B k + 2) (B k + 3) (B k + 4) (ρ k).1.2.2.2 (ρ k).1.1 (ρ k).1.2.1 (ρ k).1.2.2.1 (ρ k).1.2.2.2) [20, 21, 22, 23] (by decide) rfl) (Nat.le_refl _) hu) d_Cls_touch_50 ⟨(z_cb (n := 1) X.2.2.2.2.1 ml_Cls_142 mc_Tre_names ini_Tre (by decide +kernel) rfl rfl ⟨Nat.le_of_ble_eq_true rfl, Nat.le_of_ble_eq_true rfl⟩), X.2.2.2.2.1 _ im_Tre_names, X.2.2.2.2.1 _ sel_Tre_names⟩ (hP.lo 20 rfl) (hP.at 20 rfl) cl_Tre rfl rfl (Nat.le_of_ble_eq_true rfl) ⟨Nat.le_of_ble_eq_true rfl, Nat.le_of_ble_eq_true rfl⟩ (fun r N1 f1 hp hN1 => ?_)
        obtain ⟨rfl, rfl, rfl⟩ := hp
        refine z_if_eq X 59 d_Cls_touch_53 (by decide) (fun h53 => ?_) (fun h53 => ?_)
        · skip
          have e9 : fCnt (bTou ρ fd) (k + 1) = fCnt (bTou ρ fd) k := by rw [fCnt, if_neg (show ¬ bTou ρ fd k = true from zb_f h53)]
          refine z_iinc X d_Cls_touch_59 rfl (nI_1 _) (by decide) rfl ?_
          refine z_goto X 24 d_Cls_touch_62 (by decide) ?_
          refine zW.pick [0, 1, 2, 3] (lv' := [(0, .ref (A 0)), (1, .int fd), (2, .int (fCnt (bTou ρ fd) (k + 1))), (3, .int (nI (k + 1)))]) (by rw [e9]; rfl) ?_
          exact ih (k + 1) (by omega)
        · skip
          have e9 : fCnt (bTou ρ fd) (k + 1) = fCnt (bTou ρ fd) k + 1 := by rw [fCnt, if_pos (show bTou ρ fd k = true from zb_t h53)]
          refine z_iinc X d_Cls_touch_56 rfl rfl (by decide) rfl ?_
          refine z_iinc X d_Cls_touch_59 rfl (nI_1 _) (by decide) rfl ?_
          refine z_goto X 24 d_Cls_touch_62 (by decide) ?_
          refine zW.pick [0, 1, 2, 3] (lv' := [(0, .ref (A 0)), (1, .int fd), (2, .int (fCnt (bTou ρ fd) (k + 1))), (3, .int (nI (k + 1)))]) (by rw [e9]; rfl) ?_
          exact ih (k + 1) (by omega)
  refine z_iload_n X d_Cls_touch_0 rfl ?_
  refine z_if_lt X 10 d_Cls_touch_1 (by decide) (fun h1 => ?_) (fun h1 => ?_)
  · skip
    exact absurd h1 h0
  · skip
    refine z_iload_n X d_Cls_touch_4 rfl ?_
    refine z_bipush X d_Cls_touch_5 (v := 20) (by decide) ?_
    refine z_icmp_lt X 20 d_Cls_touch_7 (by decide) (fun h7 => ?_) (fun h7 => ?_)
    · skip
      refine z_iconst X d_Cls_touch_20 (v := 0) (by decide) ?_
      refine z_istore_n X d_Cls_touch_21 (by decide) rfl ?_
      refine z_iconst X d_Cls_touch_22 (v := 0) (by decide) ?_
      refine z_istore_n X d_Cls_touch_23 (by decide) rfl ?_
      exact L24 (rc + 1) 0 (by omega)
    · skip
      exact absurd h20 h7
end
