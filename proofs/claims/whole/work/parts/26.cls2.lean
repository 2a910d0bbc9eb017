section
variable {l : Launch} {D : va_G} {ck : Nat → ClassId} {ad : (Nat → Nat) × (Nat → Nat)} {b0 N : Nat} {f : Nat → va_E}
variable {T : Nat} {A B : Nat → Nat} {g : Nat → Int32} {len : Nat} {st : RSt} {lb : Int32} {G v : Nat → Int32} {ps : PSt} {cc td : Int32} {rc : Nat} {ρ : Nat → RuS}
theorem rAd_ref {k : Nat} (hk : k < rc) (h : k < 2 ^ 31) : va_rf (rAd B rc (nI k).toNatClampNeg) = .ref (B k) := by rw [nI_clamp h, rAd, if_pos hk]; rfl
theorem zday_1 {d : Int32} (h : d < 0) : zday d = false := by simp [zday, h]
theorem zday_2 {d : Int32} (h : 100000 < d) : zday d = false := by simp [zday, h]
theorem zday_3 {d : Int32} (h : ¬ d < 0) (h2 : ¬ 100000 < d) : zday d = true := by simp [zday, h, h2]
theorem d_Cls_find_0 : decode prog_1_method_21_code 0 = .ok (.iload_n 1, 1) := by decide +kernel
theorem d_Cls_find_1 : decode prog_1_method_21_code 1 = .ok (.ifCond .lt 20, 3) := by decide +kernel
theorem d_Cls_find_4 : decode prog_1_method_21_code 4 = .ok (.iload_n 1, 1) := by decide +kernel
theorem d_Cls_find_5 : decode prog_1_method_21_code 5 = .ok (.aload_n 0, 1) := by decide +kernel
theorem d_Cls_find_6 : decode prog_1_method_21_code 6 = .ok (.getfield 38, 3) := by decide +kernel
theorem d_Cls_find_9 : decode prog_1_method_21_code 9 = .ok (.if_icmp .ge 12, 3) := by decide +kernel
theorem d_Cls_find_12 : decode prog_1_method_21_code 12 = .ok (.iload_n 1, 1) := by decide +kernel
theorem d_Cls_find_13 : decode prog_1_method_21_code 13 = .ok (.aload_n 0, 1) := by decide +kernel
theorem d_Cls_find_14 : decode prog_1_method_21_code 14 = .ok (.getfield 34, 3) := by decide +kernel
theorem d_Cls_find_17 : decode prog_1_method_21_code 17 = .ok (.arraylength, 1) := by decide +kernel
theorem d_Cls_find_18 : decode prog_1_method_21_code 18 = .ok (.if_icmp .lt 5, 3) := by decide +kernel
theorem d_Cls_find_21 : decode prog_1_method_21_code 21 = .ok (.aconst_null, 1) := by decide +kernel
theorem d_Cls_find_22 : decode prog_1_method_21_code 22 = .ok (.areturn, 1) := by decide +kernel
theorem d_Cls_find_23 : decode prog_1_method_21_code 23 = .ok (.aload_n 0, 1) := by decide +kernel
theorem d_Cls_find_24 : decode prog_1_method_21_code 24 = .ok (.getfield 34, 3) := by decide +kernel
theorem d_Cls_find_27 : decode prog_1_method_21_code 27 = .ok (.iload_n 1, 1) := by decide +kernel
theorem d_Cls_find_28 : decode prog_1_method_21_code 28 = .ok (.aaload, 1) := by decide +kernel
theorem d_Cls_find_29 : decode prog_1_method_21_code 29 = .ok (.areturn, 1) := by decide +kernel
set_option maxHeartbeats 4000000 in
set_option maxRecDepth 100000 in
theorem c_Cls_find_y (hC : zC ck b0 N f T A B g len st lb G v ps cc td rc ρ) {k : Nat} (hk : k < rc) (hrc : rc ≤ 20) : zK l D ck ad b0 y_Cls_find prog_1_method_21_code 2 ((some (FieldType.object "CheckRules$Rule"))) 0 0 0 [.ref (A 0), .int (nI k)] N f (fun r N' f' => r = some (.ref (B k)) ∧ N = N' ∧ f = f') := by
  refine zM.of zG_w (by decide) (Nat.le_of_ble_eq_true rfl) ?_
  intro zp ze zst zm zar zbe zme zc X hnm hb0
  have hP := hC.1
  have hF : zF N f f (AL A) := zF.rf
  refine z_iload_n X d_Cls_find_0 rfl ?_
  refine z_if_lt X 21 d_Cls_find_1 (by decide) (fun h1 => ?_) (fun h1 => ?_)
  · skip
    exact absurd h1 (nI_pos (by omega))
  · skip
    refine z_iload_n X d_Cls_find_4 rfl ?_
    refine z_aload_n X d_Cls_find_5 rfl ?_
    refine z_get X d_Cls_find_6 (hP.lo 0 rfl) (hP.at 0 rfl) cl_Cls in_Cls 4 (by decide) fl_Cls_38 rfl rfl ?_
    refine z_icmp_ge X 21 d_Cls_find_9 (by decide) (fun h9 => ?_) (fun h9 => ?_)
    · skip
      exact absurd h9 (nI_ge hk (by omega))
    · skip
      refine z_iload_n X d_Cls_find_12 rfl ?_
      refine z_aload_n X d_Cls_find_13 rfl ?_
      refine z_get X d_Cls_find_14 (hP.lo 0 rfl) (hP.at 0 rfl) cl_Cls in_Cls 3 (by decide) fl_Cls_34 rfl rfl ?_
      refine z_alen X d_Cls_find_17 (hP.lo 18 rfl) (hP.at 18 rfl) (t0 := 3) rfl rfl ?_
      refine z_icmp_lt X 23 d_Cls_find_18 (by decide) (fun h18 => ?_) (fun h18 => ?_)
      · skip
        refine z_aload_n X d_Cls_find_23 rfl ?_
        refine z_get X d_Cls_find_24 (hP.lo 0 rfl) (hP.at 0 rfl) cl_Cls in_Cls 3 (by decide) fl_Cls_34 rfl rfl ?_
        refine z_iload_n X d_Cls_find_27 rfl ?_
        refine z_aald X d_Cls_find_28 (hP.lo 18 rfl) (hP.at 18 rfl) (t0 := 3) rfl (vp_in_nI (by omega) (by omega)) ?_
        rw [rAd_ref hk (by omega)]
        exact z_aret X d_Cls_find_29 (Or.inr ⟨_, rfl⟩) ⟨rfl, rfl, rfl⟩
      · skip
        exact absurd (nI_lt (a := k) (b := 20) (by omega) (by decide)) h18
set_option maxHeartbeats 4000000 in
set_option maxRecDepth 100000 in
theorem c_Cls_find_n (hC : zC ck b0 N f T A B g len st lb G v ps cc td rc ρ) (hrc : rc ≤ 20) {i : Int32} (ho : i < 0 ∨ nI rc ≤ i) : zK l D ck ad b0 y_Cls_find prog_1_method_21_code 2 ((some (FieldType.object "CheckRules$Rule"))) 0 0 0 [.ref (A 0), .int i] N f (fun r N' f' => r = some (.null) ∧ N = N' ∧ f = f') := by
  refine zM.of zG_w (by decide) (Nat.le_of_ble_eq_true rfl) ?_
  intro zp ze zst zm zar zbe zme zc X hnm hb0
  have hP := hC.1
  have hF : zF N f f (AL A) := zF.rf
  refine z_iload_n X d_Cls_find_0 rfl ?_
  refine z_if_lt X 21 d_Cls_find_1 (by decide) (fun h1 => ?_) (fun h1 => ?_)
  · skip
    refine z_null X d_Cls_find_21 ?_
    exact z_aret X d_Cls_find_22 (Or.inl rfl) ⟨rfl, rfl, rfl⟩
  · skip
    refine z_iload_n X d_Cls_find_4 rfl ?_
    refine z_aload_n X d_Cls_find_5 rfl ?_
    refine z_get X d_Cls_find_6 (hP.lo 0 rfl) (hP.at 0 rfl) cl_Cls in_Cls 4 (by decide) fl_Cls_38 rfl rfl ?_
    refine z_icmp_ge X 21 d_Cls_find_9 (by decide) (fun h9 => ?_) (fun h9 => ?_)
    · skip
      refine z_null X d_Cls_find_21 ?_
      exact z_aret X d_Cls_find_22 (Or.inl rfl) ⟨rfl, rfl, rfl⟩
    · skip
      exact absurd (ho.resolve_left h1) h9
theorem d_Cls_isDay_0 : decode prog_1_method_25_code 0 = .ok (.iload_n 0, 1) := by decide +kernel
theorem d_Cls_isDay_1 : decode prog_1_method_25_code 1 = .ok (.ifCond .lt 13, 3) := by decide +kernel
theorem d_Cls_isDay_4 : decode prog_1_method_25_code 4 = .ok (.iload_n 0, 1) := by decide +kernel
theorem d_Cls_isDay_5 : decode prog_1_method_25_code 5 = .ok (.ldc 204, 2) := by decide +kernel
theorem d_Cls_isDay_7 : decode prog_1_method_25_code 7 = .ok (.if_icmp .gt 7, 3) := by decide +kernel
theorem d_Cls_isDay_10 : decode prog_1_method_25_code 10 = .ok (.iconst 1, 1) := by decide +kernel
theorem d_Cls_isDay_11 : decode prog_1_method_25_code 11 = .ok (.goto 4, 3) := by decide +kernel
theorem d_Cls_isDay_14 : decode prog_1_method_25_code 14 = .ok (.iconst 0, 1) := by decide +kernel
theorem d_Cls_isDay_15 : decode prog_1_method_25_code 15 = .ok (.ireturn, 1) := by decide +kernel
set_option maxHeartbeats 4000000 in
set_option maxRecDepth 100000 in
theorem c_Cls_isDay {d : Int32} : zK l D ck ad b0 y_Cls_isDay prog_1_method_25_code 1 ((some FieldType.boolean)) 0 0 0 [.int d] N f (fun r N' f' => r = some (.int (zb (zday d))) ∧ N = N' ∧ f = f') := by
  refine zM.of zG_w (by decide) (Nat.le_of_ble_eq_true rfl) ?_
  intro zp ze zst zm zar zbe zme zc X hnm hb0
  refine z_iload_n X d_Cls_isDay_0 rfl ?_
  refine z_if_lt X 14 d_Cls_isDay_1 (by decide) (fun h1 => ?_) (fun h1 => ?_)
  · skip
    have e9 := zday_1 h1
    refine z_iconst X d_Cls_isDay_14 (v := 0) (by decide) ?_
    exact z_zret X d_Cls_isDay_15 rfl ⟨by rw [e9]; rfl, rfl, rfl⟩
  · skip
    refine z_iload_n X d_Cls_isDay_4 rfl ?_
    refine z_ldc X d_Cls_isDay_5 k_Cls_204 ?_
    refine z_icmp_gt X 14 d_Cls_isDay_7 (by decide) (fun h7 => ?_) (fun h7 => ?_)
    · skip
      have e9 := zday_2 h7
      refine z_iconst X d_Cls_isDay_14 (v := 0) (by decide) ?_
      exact z_zret X d_Cls_isDay_15 rfl ⟨by rw [e9]; rfl, rfl, rfl⟩
    · skip
      have e9 := zday_3 h1 h7
      refine z_iconst X d_Cls_isDay_10 (v := 1) (by decide) ?_
      refine z_goto X 15 d_Cls_isDay_11 (by decide) ?_
      exact z_zret X d_Cls_isDay_15 rfl ⟨by rw [e9]; rfl, rfl, rfl⟩
theorem d_Cls_sign_0 : decode prog_1_method_2_code 0 = .ok (.iload_n 1, 1) := by decide +kernel
theorem d_Cls_sign_1 : decode prog_1_method_2_code 1 = .ok (.bipush 32, 2) := by decide +kernel
theorem d_Cls_sign_3 : decode prog_1_method_2_code 3 = .ok (.if_icmp .lt 27, 3) := by decide +kernel
theorem d_Cls_sign_6 : decode prog_1_method_2_code 6 = .ok (.iload_n 1, 1) := by decide +kernel
theorem d_Cls_sign_7 : decode prog_1_method_2_code 7 = .ok (.bipush 126, 2) := by decide +kernel
theorem d_Cls_sign_9 : decode prog_1_method_2_code 9 = .ok (.if_icmp .gt 21, 3) := by decide +kernel
theorem d_Cls_sign_12 : decode prog_1_method_2_code 12 = .ok (.aload_n 0, 1) := by decide +kernel
theorem d_Cls_sign_13 : decode prog_1_method_2_code 13 = .ok (.getfield 12, 3) := by decide +kernel
theorem d_Cls_sign_16 : decode prog_1_method_2_code 16 = .ok (.getfield 48, 3) := by decide +kernel
theorem d_Cls_sign_19 : decode prog_1_method_2_code 19 = .ok (.iload_n 1, 1) := by decide +kernel
theorem d_Cls_sign_20 : decode prog_1_method_2_code 20 = .ok (.invokevirtual 52, 3) := by decide +kernel
theorem d_Cls_sign_23 : decode prog_1_method_2_code 23 = .ok (.ifCond .eq 7, 3) := by decide +kernel
theorem d_Cls_sign_26 : decode prog_1_method_2_code 26 = .ok (.iconst 1, 1) := by decide +kernel
theorem d_Cls_sign_27 : decode prog_1_method_2_code 27 = .ok (.goto 4, 3) := by decide +kernel
theorem d_Cls_sign_30 : decode prog_1_method_2_code 30 = .ok (.iconst 0, 1) := by decide +kernel
theorem d_Cls_sign_31 : decode prog_1_method_2_code 31 = .ok (.ireturn, 1) := by decide +kernel
set_option maxHeartbeats 4000000 in
set_option maxRecDepth 100000 in
theorem c_Cls_sign (hC : zC ck b0 N f T A B g len st lb G v ps cc td rc ρ) (hlen : len ≤ 200) (hT : T ≤ N) {x : Int32} : zK l D ck ad b0 y_Cls_sign prog_1_method_2_code 2 ((some FieldType.boolean)) 1 0 0 [.ref (A 0), .int x] N f (fun r N' f' => if ¬ x < 32 ∧ ¬ 126 < x ∧ len < 200 then (r = some (.int 1) ∧ N = N' ∧ zC ck b0 N f' T A B (upd g len x) (len + 1) st lb G v ps cc td rc ρ ∧ zF T f f' (AL A)) else (r = some (.int 0) ∧ N = N' ∧ f = f')) := by
  refine zM.of zG_w (by decide) (Nat.le_of_ble_eq_true rfl) ?_
  intro zp ze zst zm zar zbe zme zc X hnm hb0
  have hP := hC.1
  have hF : zF N f f (AL A) := zF.rf
  refine z_iload_n X d_Cls_sign_0 rfl ?_
  refine z_bipush X d_Cls_sign_1 (v := 32) (by decide) ?_
  refine z_icmp_lt X 30 d_Cls_sign_3 (by decide) (fun h3 => ?_) (fun h3 => ?_)
  · skip
    have e9 : ¬ (¬ x < 32 ∧ ¬ 126 < x ∧ len < 200) := fun z => z.1 h3
    refine z_iconst X d_Cls_sign_30 (v := 0) (by decide) ?_
    exact z_zret X d_Cls_sign_31 rfl (by rw [if_neg e9]; exact ⟨rfl, rfl, rfl⟩)
  · skip
    refine z_iload_n X d_Cls_sign_6 rfl ?_
    refine z_bipush X d_Cls_sign_7 (v := 126) (by decide) ?_
    refine z_icmp_gt X 30 d_Cls_sign_9 (by decide) (fun h9 => ?_) (fun h9 => ?_)
    · skip
      have e9 : ¬ (¬ x < 32 ∧ ¬ 126 < x ∧ len < 200) := fun z => z.2.1 h9
      refine z_iconst X d_Cls_sign_30 (v := 0) (by decide) ?_
      exact z_zret X d_Cls_sign_31 rfl (by rw [if_neg e9]; exact ⟨rfl, rfl, rfl⟩)
    · skip
      refine z_aload_n X d_Cls_sign_12 rfl ?_
      refine z_get X d_Cls_sign_13 (hP.lo 0 rfl) (hP.at 0 rfl) cl_Cls in_Cls 0 (by decide) fl_Cls_12 rfl rfl ?_
      refine z_getN X d_Cls_sign_16 (hP.lo 1 rfl) (hP.at 1 rfl) cl_Rdr in_Rdr 0 (by decide) (zG_n X.2.2.2.2.2.1 ns_2) rfl rfl ?_
      refine z_iload_n X d_Cls_sign_19 rfl ?_
      refine z_callV X zG_ok (c_Sgn_add (hP.sub [2, 3] (by decide) rfl) hlen) d_Cls_sign_20 ⟨(z_cb (n := 1) X.2.2.2.2.1 ml_Cls_52 mc_Sgn_add ini_Sgn (by decide +kernel) rfl rfl ⟨Nat.le_of_ble_eq_true rfl, Nat.le_of_ble_eq_true rfl⟩), X.2.2.2.2.1 _ im_Sgn_add, X.2.2.2.2.1 _ sel_Sgn_add⟩ (hP.lo 2 rfl) (hP.at 2 rfl) cl_Sgn rfl rfl (Nat.le_of_ble_eq_true rfl) ⟨Nat.le_of_ble_eq_true rfl, Nat.le_of_ble_eq_true rfl⟩ (fun r N1 f1 hp hN1 => ?_)
      by_cases hq : len < 200
      · rw [if_pos hq] at hp
        obtain ⟨rfl, rfl, rfl⟩ := hp
        have hP := (hP.put 3 rfl (aI ck 200 (upd g len x))).put 2 rfl (oSgn (A 3) (nI (len + 1)))
        have hF := (hF.put (a := A 3) (by simp) (aI ck 200 (upd g len x))).put (a := A 2) (by simp) (oSgn (A 3) (nI (len + 1)))
        refine z_if_eq X 30 d_Cls_sign_23 (by decide) (fun h23 => absurd h23 (by decide)) (fun h23 => ?_)
        refine z_iconst X d_Cls_sign_26 (v := 1) (by decide) ?_
        refine z_goto X 31 d_Cls_sign_27 (by decide) ?_
        exact z_zret X d_Cls_sign_31 rfl (by rw [if_pos ⟨h3, h9, hq⟩]; exact ⟨rfl, rfl, hC.back0 (Nat.le_refl _) hP hF, hF.mono hT (fun _ h => Or.inl h)⟩)
      rw [if_neg hq] at hp
      obtain ⟨rfl, rfl, rfl⟩ := hp
      refine z_if_eq X 30 d_Cls_sign_23 (by decide) (fun h23 => ?_) (fun h23 => ?_)
      · skip
        have e9 : ¬ (¬ x < 32 ∧ ¬ 126 < x ∧ len < 200) := fun z => hq z.2.2
        refine z_iconst X d_Cls_sign_30 (v := 0) (by decide) ?_
        exact z_zret X d_Cls_sign_31 rfl (by rw [if_neg e9]; exact ⟨rfl, rfl, rfl⟩)
      · skip
        exact absurd rfl h23
theorem d_Cls_order_0 : decode prog_1_method_4_code 0 = .ok (.aload_n 0, 1) := by decide +kernel
theorem d_Cls_order_1 : decode prog_1_method_4_code 1 = .ok (.iload_n 1, 1) := by decide +kernel
theorem d_Cls_order_2 : decode prog_1_method_4_code 2 = .ok (.invokevirtual 79, 3) := by decide +kernel
theorem d_Cls_order_5 : decode prog_1_method_4_code 5 = .ok (.astore 4, 2) := by decide +kernel
theorem d_Cls_order_7 : decode prog_1_method_4_code 7 = .ok (.aload 4, 2) := by decide +kernel
theorem d_Cls_order_9 : decode prog_1_method_4_code 9 = .ok (.ifnull 13, 3) := by decide +kernel
theorem d_Cls_order_12 : decode prog_1_method_4_code 12 = .ok (.iload_n 2, 1) := by decide +kernel
theorem d_Cls_order_13 : decode prog_1_method_4_code 13 = .ok (.ifCond .lt 9, 3) := by decide +kernel
theorem d_Cls_order_16 : decode prog_1_method_4_code 16 = .ok (.iload_n 2, 1) := by decide +kernel
theorem d_Cls_order_17 : decode prog_1_method_4_code 17 = .ok (.bipush 10, 2) := by decide +kernel
theorem d_Cls_order_19 : decode prog_1_method_4_code 19 = .ok (.if_icmp .lt 5, 3) := by decide +kernel
theorem d_Cls_order_22 : decode prog_1_method_4_code 22 = .ok (.iconst 0, 1) := by decide +kernel
theorem d_Cls_order_23 : decode prog_1_method_4_code 23 = .ok (.ireturn, 1) := by decide +kernel
theorem d_Cls_order_24 : decode prog_1_method_4_code 24 = .ok (.aload 4, 2) := by decide +kernel
theorem d_Cls_order_26 : decode prog_1_method_4_code 26 = .ok (.iload_n 2, 1) := by decide +kernel
theorem d_Cls_order_27 : decode prog_1_method_4_code 27 = .ok (.putfield 83, 3) := by decide +kernel
theorem d_Cls_order_30 : decode prog_1_method_4_code 30 = .ok (.aload 4, 2) := by decide +kernel
theorem d_Cls_order_32 : decode prog_1_method_4_code 32 = .ok (.iload_n 3, 1) := by decide +kernel
theorem d_Cls_order_33 : decode prog_1_method_4_code 33 = .ok (.putfield 86, 3) := by decide +kernel
theorem d_Cls_order_36 : decode prog_1_method_4_code 36 = .ok (.iconst 1, 1) := by decide +kernel
theorem d_Cls_order_37 : decode prog_1_method_4_code 37 = .ok (.ireturn, 1) := by decide +kernel
set_option maxHeartbeats 4000000 in
set_option maxRecDepth 100000 in
theorem c_Cls_order_y (hC : zC ck b0 N f T A B g len st lb G v ps cc td rc ρ) {k : Nat} (hk : k < rc) (hrc : rc ≤ 20) {gp : Int32} {hb : Bool} : zK l D ck ad b0 y_Cls_order prog_1_method_4_code 5 ((some FieldType.boolean)) 1 0 0 [.ref (A 0), .int (nI k), .int gp, .int (zb hb)] N f (fun r N' f' => if ¬ gp < 0 ∧ gp < 10 then (r = some (.int 1) ∧ N = N' ∧ zC ck b0 N f' T A B g len st lb G v ps cc td rc (va_up ρ k ((ρ k).1, gp, hb, (ρ k).2.2.2)) ∧ zF T f f' (AL A)) else (r = some (.int 0) ∧ N = N' ∧ f = f')) := by
  refine zM.of zG_w (by decide) (Nat.le_of_ble_eq_true rfl) ?_
  intro zp ze zst zm zar zbe zme zc X hnm hb0
  have hP := hC.rl hk
  have hF : zF N f f (AL A ++ AR (B k)) := zF.rf
  refine z_aload_n X d_Cls_order_0 rfl ?_
  refine z_iload_n X d_Cls_order_1 rfl ?_
  refine z_callV X zG_ok (c_Cls_find_y hC hk hrc) d_Cls_order_2 ⟨(z_cb (n := 1) X.2.2.2.2.1 ml_Cls_79 mc_Cls_find ini_Cls (by decide +kernel) rfl rfl ⟨Nat.le_of_ble_eq_true rfl, Nat.le_of_ble_eq_true rfl⟩), X.2.2.2.2.1 _ im_Cls_find, X.2.2.2.2.1 _ sel_Cls_find⟩ (hP.lo 0 rfl) (hP.at 0 rfl) cl_Cls rfl rfl (Nat.le_of_ble_eq_true rfl) ⟨Nat.le_of_ble_eq_true rfl, Nat.le_of_ble_eq_true rfl⟩ (fun r N1 f1 hp hN1 => ?_)
  obtain ⟨rfl, rfl, rfl⟩ := hp
  refine z_astore X d_Cls_order_5 (by decide) rfl ?_
  refine z_aload X d_Cls_order_7 rfl ?_
  refine z_ifnull X d_Cls_order_9 ?_
  refine z_iload_n X d_Cls_order_12 rfl ?_
  refine z_if_lt X 22 d_Cls_order_13 (by decide) (fun h13 => ?_) (fun h13 => ?_)
  · skip
    have e9 : ¬ (¬ gp < 0 ∧ gp < 10) := fun z => z.1 h13
    refine z_iconst X d_Cls_order_22 (v := 0) (by decide) ?_
    exact z_zret X d_Cls_order_23 rfl (by rw [if_neg e9]; exact ⟨rfl, rfl, rfl⟩)
  · skip
    refine z_iload_n X d_Cls_order_16 rfl ?_
    refine z_bipush X d_Cls_order_17 (v := 10) (by decide) ?_
    refine z_icmp_lt X 24 d_Cls_order_19 (by decide) (fun h19 => ?_) (fun h19 => ?_)
    · skip
      refine z_aload X d_Cls_order_24 rfl ?_
      refine z_iload_n X d_Cls_order_26 rfl ?_
      refine z_putNP X t_Rul ty_Rul n_Rul d_Cls_order_27 hP 19 rfl cl_Rul in_Rul 1 (by decide) (zG_n X.2.2.2.2.2.1 ns_9) rfl rfl rfl rfl rfl (Nat.le_of_ble_eq_true rfl) (fun hP => ?_)
      have hF := hF.by (by simp) hP
      refine z_aload X d_Cls_order_30 rfl ?_
      refine z_iload_n X d_Cls_order_32 rfl ?_
      refine z_putNP X t_Rul ty_Rul n_Rul d_Cls_order_33 hP 19 rfl cl_Rul in_Rul 2 (by decide) (zG_n X.2.2.2.2.2.1 ns_10) rfl rfl rfl (zb_n _) (zb_fit _) (Nat.le_of_ble_eq_true rfl) (fun hP => ?_)
      have hF := hF.by (by simp) hP
      refine z_iconst X d_Cls_order_36 (v := 1) (by decide) ?_
      exact z_zret X d_Cls_order_37 rfl (by rw [if_pos ⟨h13, h19⟩]; exact ⟨rfl, rfl, hC.back hk (r' := ((ρ k).1, gp, hb, (ρ k).2.2.2)) hP hF, hF.lowC (hC.lo hk).1 (by have := hC.lo hk; omega)⟩)
    · skip
      have e9 : ¬ (¬ gp < 0 ∧ gp < 10) := fun z => h19 z.2
      refine z_iconst X d_Cls_order_22 (v := 0) (by decide) ?_
      exact z_zret X d_Cls_order_23 rfl (by rw [if_neg e9]; exact ⟨rfl, rfl, rfl⟩)
set_option maxHeartbeats 4000000 in
set_option maxRecDepth 100000 in
theorem c_Cls_order_n (hC : zC ck b0 N f T A B g len st lb G v ps cc td rc ρ) (hrc : rc ≤ 20) {i : Int32} (ho : i < 0 ∨ nI rc ≤ i) {gp hb : Int32} : zK l D ck ad b0 y_Cls_order prog_1_method_4_code 5 ((some FieldType.boolean)) 1 0 0 [.ref (A 0), .int i, .int gp, .int hb] N f (fun r N' f' => r = some (.int 0) ∧ N = N' ∧ f = f') := by
  refine zM.of zG_w (by decide) (Nat.le_of_ble_eq_true rfl) ?_
  intro zp ze zst zm zar zbe zme zc X hnm hb0
  have hP := hC.1
  have hF : zF N f f (AL A) := zF.rf
  refine z_aload_n X d_Cls_order_0 rfl ?_
  refine z_iload_n X d_Cls_order_1 rfl ?_
  refine z_callV X zG_ok (c_Cls_find_n hC hrc ho) d_Cls_order_2 ⟨(z_cb (n := 1) X.2.2.2.2.1 ml_Cls_79 mc_Cls_find ini_Cls (by decide +kernel) rfl rfl ⟨Nat.le_of_ble_eq_true rfl, Nat.le_of_ble_eq_true rfl⟩), X.2.2.2.2.1 _ im_Cls_find, X.2.2.2.2.1 _ sel_Cls_find⟩ (hP.lo 0 rfl) (hP.at 0 rfl) cl_Cls rfl rfl (Nat.le_of_ble_eq_true rfl) ⟨Nat.le_of_ble_eq_true rfl, Nat.le_of_ble_eq_true rfl⟩ (fun r N1 f1 hp hN1 => ?_)
  obtain ⟨rfl, rfl, rfl⟩ := hp
  refine z_astoreN X d_Cls_order_5 (by decide) rfl ?_
  refine z_aloadN X d_Cls_order_7 rfl ?_
  refine z_ifnullN X 22 d_Cls_order_9 (by decide) ?_
  refine z_iconst X d_Cls_order_22 (v := 0) (by decide) ?_
  exact z_zret X d_Cls_order_23 rfl ⟨rfl, rfl, rfl⟩
theorem d_Cls_edition_0 : decode prog_1_method_5_code 0 = .ok (.aload_n 0, 1) := by decide +kernel
theorem d_Cls_edition_1 : decode prog_1_method_5_code 1 = .ok (.iload_n 1, 1) := by decide +kernel
theorem d_Cls_edition_2 : decode prog_1_method_5_code 2 = .ok (.invokevirtual 79, 3) := by decide +kernel
theorem d_Cls_edition_5 : decode prog_1_method_5_code 5 = .ok (.astore_n 3, 1) := by decide +kernel
theorem d_Cls_edition_6 : decode prog_1_method_5_code 6 = .ok (.aload_n 3, 1) := by decide +kernel
theorem d_Cls_edition_7 : decode prog_1_method_5_code 7 = .ok (.ifnull 10, 3) := by decide +kernel
theorem d_Cls_edition_10 : decode prog_1_method_5_code 10 = .ok (.iload_n 2, 1) := by decide +kernel
theorem d_Cls_edition_11 : decode prog_1_method_5_code 11 = .ok (.invokestatic 90, 3) := by decide +kernel
theorem d_Cls_edition_14 : decode prog_1_method_5_code 14 = .ok (.ifCond .ne 5, 3) := by decide +kernel
theorem d_Cls_edition_17 : decode prog_1_method_5_code 17 = .ok (.iconst 0, 1) := by decide +kernel
theorem d_Cls_edition_18 : decode prog_1_method_5_code 18 = .ok (.ireturn, 1) := by decide +kernel
theorem d_Cls_edition_19 : decode prog_1_method_5_code 19 = .ok (.aload_n 3, 1) := by decide +kernel
theorem d_Cls_edition_20 : decode prog_1_method_5_code 20 = .ok (.iload_n 2, 1) := by decide +kernel
theorem d_Cls_edition_21 : decode prog_1_method_5_code 21 = .ok (.putfield 93, 3) := by decide +kernel
theorem d_Cls_edition_24 : decode prog_1_method_5_code 24 = .ok (.iconst 1, 1) := by decide +kernel
theorem d_Cls_edition_25 : decode prog_1_method_5_code 25 = .ok (.ireturn, 1) := by decide +kernel
set_option maxHeartbeats 4000000 in
set_option maxRecDepth 100000 in
theorem c_Cls_edition_y (hC : zC ck b0 N f T A B g len st lb G v ps cc td rc ρ) {k : Nat} (hk : k < rc) (hrc : rc ≤ 20) {d : Int32} : zK l D ck ad b0 y_Cls_edition prog_1_method_5_code 4 ((some FieldType.boolean)) 1 0 0 [.ref (A 0), .int (nI k), .int d] N f (fun r N' f' => if zday d = true then (r = some (.int 1) ∧ N = N' ∧ zC ck b0 N f' T A B g len st lb G v ps cc td rc (va_up ρ k ((ρ k).1, (ρ k).2.1, (ρ k).2.2.1, d, (ρ k).2.2.2.2)) ∧ zF T f f' (AL A)) else (r = some (.int 0) ∧ N = N' ∧ f = f')) := by
  refine zM.of zG_w (by decide) (Nat.le_of_ble_eq_true rfl) ?_
  intro zp ze zst zm zar zbe zme zc X hnm hb0
  have hP := hC.rl hk
  have hF : zF N f f (AL A ++ AR (B k)) := zF.rf
  refine z_aload_n X d_Cls_edition_0 rfl ?_
  refine z_iload_n X d_Cls_edition_1 rfl ?_
  refine z_callV X zG_ok (c_Cls_find_y hC hk hrc) d_Cls_edition_2 ⟨(z_cb (n := 1) X.2.2.2.2.1 ml_Cls_79 mc_Cls_find ini_Cls (by decide +kernel) rfl rfl ⟨Nat.le_of_ble_eq_true rfl, Nat.le_of_ble_eq_true rfl⟩), X.2.2.2.2.1 _ im_Cls_find, X.2.2.2.2.1 _ sel_Cls_find⟩ (hP.lo 0 rfl) (hP.at 0 rfl) cl_Cls rfl rfl (Nat.le_of_ble_eq_true rfl) ⟨Nat.le_of_ble_eq_true rfl, Nat.le_of_ble_eq_true rfl⟩ (fun r N1 f1 hp hN1 => ?_)
  obtain ⟨rfl, rfl, rfl⟩ := hp
  refine z_astore_n X d_Cls_edition_5 (by decide) rfl ?_
  refine z_aload_n X d_Cls_edition_6 rfl ?_
  refine z_ifnull X d_Cls_edition_7 ?_
  refine z_iload_n X d_Cls_edition_10 rfl ?_
  refine z_callS X zG_ok c_Cls_isDay d_Cls_edition_11 ⟨(z_cb (n := 1) X.2.2.2.2.1 ml_Cls_90 mc_Cls_isDay ini_Cls (by decide +kernel) rfl rfl ⟨Nat.le_of_ble_eq_true rfl, Nat.le_of_ble_eq_true rfl⟩), X.2.2.2.2.1 _ st_Cls_isDay⟩ rfl rfl (Nat.le_of_ble_eq_true rfl) ⟨Nat.le_of_ble_eq_true rfl, Nat.le_of_ble_eq_true rfl⟩ (fun r N1 f1 hp hN1 => ?_)
  obtain ⟨rfl, rfl, rfl⟩ := hp
  refine z_if_ne X 19 d_Cls_edition_14 (by decide) (fun h14 => ?_) (fun h14 => ?_)
  · skip
    have e9 : zday d = true := by
      cases hq : zday d
      · exact absurd (zb_0.mpr hq) h14
      · rfl
    refine z_aload_n X d_Cls_edition_19 rfl ?_
    refine z_iload_n X d_Cls_edition_20 rfl ?_
    refine z_putNP X t_Rul ty_Rul n_Rul d_Cls_edition_21 hP 19 rfl cl_Rul in_Rul 3 (by decide) (zG_n X.2.2.2.2.2.1 ns_11) rfl rfl rfl rfl rfl (Nat.le_of_ble_eq_true rfl) (fun hP => ?_)
    have hF := hF.by (by simp) hP
    refine z_iconst X d_Cls_edition_24 (v := 1) (by decide) ?_
    exact z_zret X d_Cls_edition_25 rfl (by rw [if_pos e9]; exact ⟨rfl, rfl, hC.back hk (r' := ((ρ k).1, (ρ k).2.1, (ρ k).2.2.1, d, (ρ k).2.2.2.2)) hP hF, hF.lowC (hC.lo hk).1 (by have := hC.lo hk; omega)⟩)
  · skip
    have e9 : zday d = false := zb_0.mp h14
    refine z_iconst X d_Cls_edition_17 (v := 0) (by decide) ?_
    exact z_zret X d_Cls_edition_18 rfl (by rw [if_neg (by rw [e9]; decide)]; exact ⟨rfl, rfl, rfl⟩)
set_option maxHeartbeats 4000000 in
set_option maxRecDepth 100000 in
theorem c_Cls_edition_n (hC : zC ck b0 N f T A B g len st lb G v ps cc td rc ρ) (hrc : rc ≤ 20) {i : Int32} (ho : i < 0 ∨ nI rc ≤ i) {d : Int32} : zK l D ck ad b0 y_Cls_edition prog_1_method_5_code 4 ((some FieldType.boolean)) 1 0 0 [.ref (A 0), .int i, .int d] N f (fun r N' f' => r = some (.int 0) ∧ N = N' ∧ f = f') := by
  refine zM.of zG_w (by decide) (Nat.le_of_ble_eq_true rfl) ?_
  intro zp ze zst zm zar zbe zme zc X hnm hb0
  have hP := hC.1
  have hF : zF N f f (AL A) := zF.rf
  refine z_aload_n X d_Cls_edition_0 rfl ?_
  refine z_iload_n X d_Cls_edition_1 rfl ?_
  refine z_callV X zG_ok (c_Cls_find_n hC hrc ho) d_Cls_edition_2 ⟨(z_cb (n := 1) X.2.2.2.2.1 ml_Cls_79 mc_Cls_find ini_Cls (by decide +kernel) rfl rfl ⟨Nat.le_of_ble_eq_true rfl, Nat.le_of_ble_eq_true rfl⟩), X.2.2.2.2.1 _ im_Cls_find, X.2.2.2.2.1 _ sel_Cls_find⟩ (hP.lo 0 rfl) (hP.at 0 rfl) cl_Cls rfl rfl (Nat.le_of_ble_eq_true rfl) ⟨Nat.le_of_ble_eq_true rfl, Nat.le_of_ble_eq_true rfl⟩ (fun r N1 f1 hp hN1 => ?_)
  obtain ⟨rfl, rfl, rfl⟩ := hp
  refine z_astore_nN X d_Cls_edition_5 (by decide) rfl ?_
  refine z_aload_nN X d_Cls_edition_6 rfl ?_
  refine z_ifnullN X 17 d_Cls_edition_7 (by decide) ?_
  refine z_iconst X d_Cls_edition_17 (v := 0) (by decide) ?_
  exact z_zret X d_Cls_edition_18 rfl ⟨rfl, rfl, rfl⟩
theorem d_Cls_day_0 : decode prog_1_method_6_code 0 = .ok (.iload_n 1, 1) := by decide +kernel
theorem d_Cls_day_1 : decode prog_1_method_6_code 1 = .ok (.invokestatic 90, 3) := by decide +kernel
theorem d_Cls_day_4 : decode prog_1_method_6_code 4 = .ok (.ifCond .ne 5, 3) := by decide +kernel
theorem d_Cls_day_7 : decode prog_1_method_6_code 7 = .ok (.iconst 0, 1) := by decide +kernel
theorem d_Cls_day_8 : decode prog_1_method_6_code 8 = .ok (.ireturn, 1) := by decide +kernel
theorem d_Cls_day_9 : decode prog_1_method_6_code 9 = .ok (.aload_n 0, 1) := by decide +kernel
theorem d_Cls_day_10 : decode prog_1_method_6_code 10 = .ok (.iload_n 1, 1) := by decide +kernel
theorem d_Cls_day_11 : decode prog_1_method_6_code 11 = .ok (.putfield 45, 3) := by decide +kernel
theorem d_Cls_day_14 : decode prog_1_method_6_code 14 = .ok (.iconst 1, 1) := by decide +kernel
theorem d_Cls_day_15 : decode prog_1_method_6_code 15 = .ok (.ireturn, 1) := by decide +kernel
set_option maxHeartbeats 4000000 in
set_option maxRecDepth 100000 in
theorem c_Cls_day (hC : zC ck b0 N f T A B g len st lb G v ps cc td rc ρ) (hT : T ≤ N) {d : Int32} : zK l D ck ad b0 y_Cls_day prog_1_method_6_code 2 ((some FieldType.boolean)) 1 0 0 [.ref (A 0), .int d] N f (fun r N' f' => if zday d = true then (r = some (.int 1) ∧ N = N' ∧ zC ck b0 N f' T A B g len st lb G v ps cc d rc ρ ∧ zF T f f' (AL A)) else (r = some (.int 0) ∧ N = N' ∧ f = f')) := by
  refine zM.of zG_w (by decide) (Nat.le_of_ble_eq_true rfl) ?_
  intro zp ze zst zm zar zbe zme zc X hnm hb0
  have hP := hC.1
  have hF : zF N f f (AL A) := zF.rf
  refine z_iload_n X d_Cls_day_0 rfl ?_
  refine z_callS X zG_ok c_Cls_isDay d_Cls_day_1 ⟨(z_cb (n := 1) X.2.2.2.2.1 ml_Cls_90 mc_Cls_isDay ini_Cls (by decide +kernel) rfl rfl ⟨Nat.le_of_ble_eq_true rfl, Nat.le_of_ble_eq_true rfl⟩), X.2.2.2.2.1 _ st_Cls_isDay⟩ rfl rfl (Nat.le_of_ble_eq_true rfl) ⟨Nat.le_of_ble_eq_true rfl, Nat.le_of_ble_eq_true rfl⟩ (fun r N1 f1 hp hN1 => ?_)
  obtain ⟨rfl, rfl, rfl⟩ := hp
  refine z_if_ne X 9 d_Cls_day_4 (by decide) (fun h4 => ?_) (fun h4 => ?_)
  · skip
    have e9 : zday d = true := by
      cases hq : zday d
      · exact absurd (zb_0.mpr hq) h4
      · rfl
    refine z_aload_n X d_Cls_day_9 rfl ?_
    refine z_iload_n X d_Cls_day_10 rfl ?_
    refine z_putP X t_Cls ty_Cls n_Cls d_Cls_day_11 hP 0 rfl cl_Cls in_Cls 6 (by decide) fl_Cls_45 rfl rfl rfl rfl rfl (Nat.le_of_ble_eq_true rfl) (fun hP => ?_)
    have hF := hF.by (by simp) hP
    refine z_iconst X d_Cls_day_14 (v := 1) (by decide) ?_
    exact z_zret X d_Cls_day_15 rfl (by rw [if_pos e9]; exact ⟨rfl, rfl, hC.back0 (Nat.le_refl _) hP hF, hF.mono hT (fun _ h => Or.inl h)⟩)
  · skip
    have e9 : zday d = false := zb_0.mp h4
    refine z_iconst X d_Cls_day_7 (v := 0) (by decide) ?_
    exact z_zret X d_Cls_day_8 rfl (by rw [if_neg (by rw [e9]; decide)]; exact ⟨rfl, rfl, rfl⟩)
theorem d_Cls_field_0 : decode prog_1_method_7_code 0 = .ok (.iload_n 3, 1) := by decide +kernel
theorem d_Cls_field_1 : decode prog_1_method_7_code 1 = .ok (.ldc 96, 2) := by decide +kernel
theorem d_Cls_field_3 : decode prog_1_method_7_code 3 = .ok (.if_icmp .lt 9, 3) := by decide +kernel
theorem d_Cls_field_6 : decode prog_1_method_7_code 6 = .ok (.iload_n 3, 1) := by decide +kernel
theorem d_Cls_field_7 : decode prog_1_method_7_code 7 = .ok (.ldc 97, 2) := by decide +kernel
theorem d_Cls_field_9 : decode prog_1_method_7_code 9 = .ok (.if_icmp .le 5, 3) := by decide +kernel
theorem d_Cls_field_12 : decode prog_1_method_7_code 12 = .ok (.iconst 0, 1) := by decide +kernel
theorem d_Cls_field_13 : decode prog_1_method_7_code 13 = .ok (.ireturn, 1) := by decide +kernel
theorem d_Cls_field_14 : decode prog_1_method_7_code 14 = .ok (.aload_n 0, 1) := by decide +kernel
theorem d_Cls_field_15 : decode prog_1_method_7_code 15 = .ok (.getfield 21, 3) := by decide +kernel
theorem d_Cls_field_18 : decode prog_1_method_7_code 18 = .ok (.getfield 98, 3) := by decide +kernel
theorem d_Cls_field_21 : decode prog_1_method_7_code 21 = .ok (.iload_n 1, 1) := by decide +kernel
theorem d_Cls_field_22 : decode prog_1_method_7_code 22 = .ok (.iload_n 2, 1) := by decide +kernel
theorem d_Cls_field_23 : decode prog_1_method_7_code 23 = .ok (.iload_n 3, 1) := by decide +kernel
theorem d_Cls_field_24 : decode prog_1_method_7_code 24 = .ok (.invokevirtual 102, 3) := by decide +kernel
theorem d_Cls_field_27 : decode prog_1_method_7_code 27 = .ok (.ireturn, 1) := by decide +kernel
set_option maxHeartbeats 4000000 in
set_option maxRecDepth 100000 in
theorem c_Cls_field (hC : zC ck b0 N f T A B g len st lb G v ps cc td rc ρ) (hT : T ≤ N) {fd ln x : Int32} : zK l D ck ad b0 y_Cls_field prog_1_method_7_code 4 ((some FieldType.boolean)) 2 0 0 [.ref (A 0), .int fd, .int ln, .int x] N f (fun r N' f' => if ¬ dsl fd ln < 0 ∧ ¬ x < -1000000 ∧ x ≤ 1000000 then (r = some (.int 1) ∧ N = N' ∧ zC ck b0 N f' T A B g len st lb G (upd v (dsl fd ln).toNatClampNeg x) ps cc td rc ρ ∧ zF T f f' (AL A)) else (r = some (.int 0) ∧ N = N' ∧ f = f')) := by
  refine zM.of zG_w (by decide) (Nat.le_of_ble_eq_true rfl) ?_
  intro zp ze zst zm zar zbe zme zc X hnm hb0
  have hP := hC.1
  have hF : zF N f f (AL A) := zF.rf
  refine z_iload_n X d_Cls_field_0 rfl ?_
  refine z_ldc X d_Cls_field_1 k_Cls_96 ?_
  refine z_icmp_lt X 12 d_Cls_field_3 (by decide) (fun h3 => ?_) (fun h3 => ?_)
  · skip
    have e9 : ¬ (¬ dsl fd ln < 0 ∧ ¬ x < -1000000 ∧ x ≤ 1000000) := fun z => z.2.1 h3
    refine z_iconst X d_Cls_field_12 (v := 0) (by decide) ?_
    exact z_zret X d_Cls_field_13 rfl (by rw [if_neg e9]; exact ⟨rfl, rfl, rfl⟩)
  · skip
    refine z_iload_n X d_Cls_field_6 rfl ?_
    refine z_ldc X d_Cls_field_7 k_Cls_97 ?_
    refine z_icmp_le X 14 d_Cls_field_9 (by decide) (fun h9 => ?_) (fun h9 => ?_)
    · skip
      refine z_aload_n X d_Cls_field_14 rfl ?_
      refine z_get X d_Cls_field_15 (hP.lo 0 rfl) (hP.at 0 rfl) cl_Cls in_Cls 1 (by decide) fl_Cls_21 rfl rfl ?_
      refine z_getN X d_Cls_field_18 (hP.lo 11 rfl) (hP.at 11 rfl) cl_Wrk in_Wrk 0 (by decide) (zG_n X.2.2.2.2.2.1 ns_4) rfl rfl ?_
      refine z_iload_n X d_Cls_field_21 rfl ?_
      refine z_iload_n X d_Cls_field_22 rfl ?_
      refine z_iload_n X d_Cls_field_23 rfl ?_
      refine z_callV X zG_ok (c_Decl_put (hP.sub [13, 14] (by decide) rfl)) d_Cls_field_24 ⟨(z_cb (n := 3) X.2.2.2.2.1 ml_Cls_102 mc_Decl_put ini_Decl (by decide +kernel) rfl rfl ⟨Nat.le_of_ble_eq_true rfl, Nat.le_of_ble_eq_true rfl⟩), X.2.2.2.2.1 _ im_Decl_put, X.2.2.2.2.1 _ sel_Decl_put⟩ (hP.lo 13 rfl) (hP.at 13 rfl) cl_Decl rfl rfl (Nat.le_of_ble_eq_true rfl) ⟨Nat.le_of_ble_eq_true rfl, Nat.le_of_ble_eq_true rfl⟩ (fun r N1 f1 hp hN1 => ?_)
      by_cases hq : dsl fd ln < 0
      · rw [if_pos hq] at hp
        obtain ⟨rfl, rfl, rfl⟩ := hp
        exact z_zret X d_Cls_field_27 rfl (by rw [if_neg (fun z => z.1 hq)]; exact ⟨rfl, rfl, rfl⟩)
      rw [if_neg hq] at hp
      obtain ⟨rfl, rfl, rfl⟩ := hp
      have hP := hP.put 14 rfl (aI ck 200 (upd v (dsl fd ln).toNatClampNeg x))
      have hF := hF.put (a := A 14) (by simp) (aI ck 200 (upd v (dsl fd ln).toNatClampNeg x))
      exact z_zret X d_Cls_field_27 rfl (by rw [if_pos ⟨hq, h3, h9⟩]; exact ⟨rfl, rfl, hC.back0 (Nat.le_refl _) hP hF, hF.mono hT (fun _ h => Or.inl h)⟩)
    · skip
      have e9 : ¬ (¬ dsl fd ln < 0 ∧ ¬ x < -1000000 ∧ x ≤ 1000000) := fun z => h9 z.2.2
      refine z_iconst X d_Cls_field_12 (v := 0) (by decide) ?_
      exact z_zret X d_Cls_field_13 rfl (by rw [if_neg e9]; exact ⟨rfl, rfl, rfl⟩)
theorem d_Cls_without_0 : decode prog_1_method_8_code 0 = .ok (.aload_n 0, 1) := by decide +kernel
theorem d_Cls_without_1 : decode prog_1_method_8_code 1 = .ok (.getfield 21, 3) := by decide +kernel
theorem d_Cls_without_4 : decode prog_1_method_8_code 4 = .ok (.getfield 98, 3) := by decide +kernel
theorem d_Cls_without_7 : decode prog_1_method_8_code 7 = .ok (.iload_n 1, 1) := by decide +kernel
theorem d_Cls_without_8 : decode prog_1_method_8_code 8 = .ok (.iload_n 2, 1) := by decide +kernel
theorem d_Cls_without_9 : decode prog_1_method_8_code 9 = .ok (.invokevirtual 108, 3) := by decide +kernel
theorem d_Cls_without_12 : decode prog_1_method_8_code 12 = .ok (.ldc 112, 2) := by decide +kernel
theorem d_Cls_without_14 : decode prog_1_method_8_code 14 = .ok (.if_icmp .ne 5, 3) := by decide +kernel
theorem d_Cls_without_17 : decode prog_1_method_8_code 17 = .ok (.iconst 0, 1) := by decide +kernel
theorem d_Cls_without_18 : decode prog_1_method_8_code 18 = .ok (.ireturn, 1) := by decide +kernel
theorem d_Cls_without_19 : decode prog_1_method_8_code 19 = .ok (.aload_n 0, 1) := by decide +kernel
theorem d_Cls_without_20 : decode prog_1_method_8_code 20 = .ok (.getfield 21, 3) := by decide +kernel
theorem d_Cls_without_23 : decode prog_1_method_8_code 23 = .ok (.getfield 98, 3) := by decide +kernel
theorem d_Cls_without_26 : decode prog_1_method_8_code 26 = .ok (.iload_n 1, 1) := by decide +kernel
theorem d_Cls_without_27 : decode prog_1_method_8_code 27 = .ok (.iload_n 2, 1) := by decide +kernel
theorem d_Cls_without_28 : decode prog_1_method_8_code 28 = .ok (.ldc 112, 2) := by decide +kernel
theorem d_Cls_without_30 : decode prog_1_method_8_code 30 = .ok (.invokevirtual 102, 3) := by decide +kernel
theorem d_Cls_without_33 : decode prog_1_method_8_code 33 = .ok (.ireturn, 1) := by decide +kernel
set_option maxHeartbeats 4000000 in
set_option maxRecDepth 100000 in
theorem c_Cls_without (hC : zC ck b0 N f T A B g len st lb G v ps cc td rc ρ) (hT : T ≤ N) {fd ln : Int32} : zK l D ck ad b0 y_Cls_without prog_1_method_8_code 3 ((some FieldType.boolean)) 2 0 0 [.ref (A 0), .int fd, .int ln] N f (fun r N' f' => if ¬ dsl fd ln < 0 ∧ ¬ dval v fd ln = -2147483648 then (r = some (.int 1) ∧ N = N' ∧ zC ck b0 N f' T A B g len st lb G (upd v (dsl fd ln).toNatClampNeg (-2147483648)) ps cc td rc ρ ∧ zF T f f' (AL A)) else (r = some (.int 0) ∧ N = N' ∧ f = f')) := by
  refine zM.of zG_w (by decide) (Nat.le_of_ble_eq_true rfl) ?_
  intro zp ze zst zm zar zbe zme zc X hnm hb0
  have hP := hC.1
  have hF : zF N f f (AL A) := zF.rf
  refine z_aload_n X d_Cls_without_0 rfl ?_
  refine z_get X d_Cls_without_1 (hP.lo 0 rfl) (hP.at 0 rfl) cl_Cls in_Cls 1 (by decide) fl_Cls_21 rfl rfl ?_
  refine z_getN X d_Cls_without_4 (hP.lo 11 rfl) (hP.at 11 rfl) cl_Wrk in_Wrk 0 (by decide) (zG_n X.2.2.2.2.2.1 ns_4) rfl rfl ?_
  refine z_iload_n X d_Cls_without_7 rfl ?_
  refine z_iload_n X d_Cls_without_8 rfl ?_
  refine z_callV X zG_ok (c_Decl_valueOn (hP.sub [13, 14] (by decide) rfl)) d_Cls_without_9 ⟨(z_cb (n := 2) X.2.2.2.2.1 ml_Cls_108 mc_Decl_valueOn ini_Decl (by decide +kernel) rfl rfl ⟨Nat.le_of_ble_eq_true rfl, Nat.le_of_ble_eq_true rfl⟩), X.2.2.2.2.1 _ im_Decl_valueOn, X.2.2.2.2.1 _ sel_Decl_valueOn⟩ (hP.lo 13 rfl) (hP.at 13 rfl) cl_Decl rfl rfl (Nat.le_of_ble_eq_true rfl) ⟨Nat.le_of_ble_eq_true rfl, Nat.le_of_ble_eq_true rfl⟩ (fun r N1 f1 hp hN1 => ?_)
  obtain ⟨rfl, rfl, rfl⟩ := hp
  refine z_ldc X d_Cls_without_12 k_Cls_112 ?_
  refine z_icmp_ne X 19 d_Cls_without_14 (by decide) (fun h14 => ?_) (fun h14 => ?_)
  · skip
    refine z_aload_n X d_Cls_without_19 rfl ?_
    refine z_get X d_Cls_without_20 (hP.lo 0 rfl) (hP.at 0 rfl) cl_Cls in_Cls 1 (by decide) fl_Cls_21 rfl rfl ?_
    refine z_getN X d_Cls_without_23 (hP.lo 11 rfl) (hP.at 11 rfl) cl_Wrk in_Wrk 0 (by decide) (zG_n X.2.2.2.2.2.1 ns_4) rfl rfl ?_
    refine z_iload_n X d_Cls_without_26 rfl ?_
    refine z_iload_n X d_Cls_without_27 rfl ?_
    refine z_ldc X d_Cls_without_28 k_Cls_112 ?_
    refine z_callV X zG_ok (c_Decl_put (hP.sub [13, 14] (by decide) rfl)) d_Cls_without_30 ⟨(z_cb (n := 3) X.2.2.2.2.1 ml_Cls_102 mc_Decl_put ini_Decl (by decide +kernel) rfl rfl ⟨Nat.le_of_ble_eq_true rfl, Nat.le_of_ble_eq_true rfl⟩), X.2.2.2.2.1 _ im_Decl_put, X.2.2.2.2.1 _ sel_Decl_put⟩ (hP.lo 13 rfl) (hP.at 13 rfl) cl_Decl rfl rfl (Nat.le_of_ble_eq_true rfl) ⟨Nat.le_of_ble_eq_true rfl, Nat.le_of_ble_eq_true rfl⟩ (fun r N1 f1 hp hN1 => ?_)
    by_cases hq : dsl fd ln < 0
    · rw [if_pos hq] at hp
      obtain ⟨rfl, rfl, rfl⟩ := hp
      exact z_zret X d_Cls_without_33 rfl (by rw [if_neg (fun z => z.1 hq)]; exact ⟨rfl, rfl, rfl⟩)
    rw [if_neg hq] at hp
    obtain ⟨rfl, rfl, rfl⟩ := hp
    have hP := hP.put 14 rfl (aI ck 200 (upd v (dsl fd ln).toNatClampNeg (-2147483648)))
    have hF := hF.put (a := A 14) (by simp) (aI ck 200 (upd v (dsl fd ln).toNatClampNeg (-2147483648)))
    exact z_zret X d_Cls_without_33 rfl (by rw [if_pos ⟨hq, h14⟩]; exact ⟨rfl, rfl, hC.back0 (Nat.le_refl _) hP hF, hF.mono hT (fun _ h => Or.inl h)⟩)
  · skip
    refine z_iconst X d_Cls_without_17 (v := 0) (by decide) ?_
    exact z_zret X d_Cls_without_18 rfl (by rw [if_neg (fun z => z.2 h14)]; exact ⟨rfl, rfl, rfl⟩)
theorem d_Cls_answer_0 : decode prog_1_method_13_code 0 = .ok (.aload_n 0, 1) := by decide +kernel
theorem d_Cls_answer_1 : decode prog_1_method_13_code 1 = .ok (.iload_n 1, 1) := by decide +kernel
theorem d_Cls_answer_2 : decode prog_1_method_13_code 2 = .ok (.invokevirtual 79, 3) := by decide +kernel
theorem d_Cls_answer_5 : decode prog_1_method_13_code 5 = .ok (.astore_n 2, 1) := by decide +kernel
theorem d_Cls_answer_6 : decode prog_1_method_13_code 6 = .ok (.aload_n 2, 1) := by decide +kernel
theorem d_Cls_answer_7 : decode prog_1_method_13_code 7 = .ok (.ifnull 26, 3) := by decide +kernel
theorem d_Cls_answer_10 : decode prog_1_method_13_code 10 = .ok (.aload_n 2, 1) := by decide +kernel
theorem d_Cls_answer_11 : decode prog_1_method_13_code 11 = .ok (.getfield 86, 3) := by decide +kernel
theorem d_Cls_answer_14 : decode prog_1_method_13_code 14 = .ok (.ifCond .ne 19, 3) := by decide +kernel
theorem d_Cls_answer_17 : decode prog_1_method_13_code 17 = .ok (.aload_n 2, 1) := by decide +kernel
theorem d_Cls_answer_18 : decode prog_1_method_13_code 18 = .ok (.getfield 126, 3) := by decide +kernel
theorem d_Cls_answer_21 : decode prog_1_method_13_code 21 = .ok (.iconst (-1), 1) := by decide +kernel
theorem d_Cls_answer_22 : decode prog_1_method_13_code 22 = .ok (.if_icmp .eq 11, 3) := by decide +kernel
theorem d_Cls_answer_25 : decode prog_1_method_13_code 25 = .ok (.aload_n 2, 1) := by decide +kernel
theorem d_Cls_answer_26 : decode prog_1_method_13_code 26 = .ok (.getfield 126, 3) := by decide +kernel
theorem d_Cls_answer_29 : decode prog_1_method_13_code 29 = .ok (.iconst 1, 1) := by decide +kernel
theorem d_Cls_answer_30 : decode prog_1_method_13_code 30 = .ok (.if_icmp .ne 5, 3) := by decide +kernel
theorem d_Cls_answer_33 : decode prog_1_method_13_code 33 = .ok (.iconst 0, 1) := by decide +kernel
theorem d_Cls_answer_34 : decode prog_1_method_13_code 34 = .ok (.ireturn, 1) := by decide +kernel
theorem d_Cls_answer_35 : decode prog_1_method_13_code 35 = .ok (.aload_n 2, 1) := by decide +kernel
theorem d_Cls_answer_36 : decode prog_1_method_13_code 36 = .ok (.iconst 1, 1) := by decide +kernel
theorem d_Cls_answer_37 : decode prog_1_method_13_code 37 = .ok (.putfield 137, 3) := by decide +kernel
theorem d_Cls_answer_40 : decode prog_1_method_13_code 40 = .ok (.iconst 1, 1) := by decide +kernel
theorem d_Cls_answer_41 : decode prog_1_method_13_code 41 = .ok (.ireturn, 1) := by decide +kernel
set_option maxHeartbeats 4000000 in
set_option maxRecDepth 100000 in
theorem c_Cls_answer_y (hC : zC ck b0 N f T A B g len st lb G v ps cc td rc ρ) {k : Nat} (hk : k < rc) (hrc : rc ≤ 20) : zK l D ck ad b0 y_Cls_answer prog_1_method_13_code 3 ((some FieldType.boolean)) 1 0 0 [.ref (A 0), .int (nI k)] N f (fun r N' f' => if rH (ρ k) = false ∧ ¬ rL (ρ k) = -1 ∧ ¬ rL (ρ k) = 1 then (r = some (.int 1) ∧ N = N' ∧ zC ck b0 N f' T A B g len st lb G v ps cc td rc (va_up ρ k ((ρ k).1, (ρ k).2.1, (ρ k).2.2.1, (ρ k).2.2.2.1, (ρ k).2.2.2.2.1, (ρ k).2.2.2.2.2.1, true, (ρ k).2.2.2.2.2.2.2)) ∧ zF T f f' (AL A)) else (r = some (.int 0) ∧ N = N' ∧ f = f')) := by
  refine zM.of zG_w (by decide) (Nat.le_of_ble_eq_true rfl) ?_
  intro zp ze zst zm zar zbe zme zc X hnm hb0
  have hP := hC.rl hk
  have hF : zF N f f (AL A ++ AR (B k)) := zF.rf
  refine z_aload_n X d_Cls_answer_0 rfl ?_
  refine z_iload_n X d_Cls_answer_1 rfl ?_
  refine z_callV X zG_ok (c_Cls_find_y hC hk hrc) d_Cls_answer_2 ⟨(z_cb (n := 1) X.2.2.2.2.1 ml_Cls_79 mc_Cls_find ini_Cls (by decide +kernel) rfl rfl ⟨Nat.le_of_ble_eq_true rfl, Nat.le_of_ble_eq_true rfl⟩), X.2.2.2.2.1 _ im_Cls_find, X.2.2.2.2.1 _ sel_Cls_find⟩ (hP.lo 0 rfl) (hP.at 0 rfl) cl_Cls rfl rfl (Nat.le_of_ble_eq_true rfl) ⟨Nat.le_of_ble_eq_true rfl, Nat.le_of_ble_eq_true rfl⟩ (fun r N1 f1 hp hN1 => ?_)
  obtain ⟨rfl, rfl, rfl⟩ := hp
  refine z_astore_n X d_Cls_answer_5 (by decide) rfl ?_
  refine z_aload_n X d_Cls_answer_6 rfl ?_
  refine z_ifnull X d_Cls_answer_7 ?_
  refine z_aload_n X d_Cls_answer_10 rfl ?_
  refine z_getN X d_Cls_answer_11 (hP.lo 19 rfl) (hP.at 19 rfl) cl_Rul in_Rul 2 (by decide) (zG_n X.2.2.2.2.2.1 ns_10) rfl rfl ?_
  refine z_if_ne X 33 d_Cls_answer_14 (by decide) (fun h14 => ?_) (fun h14 => ?_)
  · skip
    have e9 : ¬ (rH (ρ k) = false ∧ ¬ rL (ρ k) = -1 ∧ ¬ rL (ρ k) = 1) := fun z => h14 (zb_0.mpr z.1)
    refine z_iconst X d_Cls_answer_33 (v := 0) (by decide) ?_
    exact z_zret X d_Cls_answer_34 rfl (by rw [if_neg e9]; exact ⟨rfl, rfl, rfl⟩)
  · skip
    have e8 : rH (ρ k) = false := zb_0.mp h14
    refine z_aload_n X d_Cls_answer_17 rfl ?_
    refine z_getN X d_Cls_answer_18 (hP.lo 19 rfl) (hP.at 19 rfl) cl_Rul in_Rul 4 (by decide) (zG_n X.2.2.2.2.2.1 ns_12) rfl rfl ?_
    refine z_iconst X d_Cls_answer_21 (v := -1) (by decide) ?_
    refine z_icmp_eq X 33 d_Cls_answer_22 (by decide) (fun h22 => ?_) (fun h22 => ?_)
    · skip
      have e9 : ¬ (rH (ρ k) = false ∧ ¬ rL (ρ k) = -1 ∧ ¬ rL (ρ k) = 1) := fun z => z.2.1 h22
      refine z_iconst X d_Cls_answer_33 (v := 0) (by decide) ?_
      exact z_zret X d_Cls_answer_34 rfl (by rw [if_neg e9]; exact ⟨rfl, rfl, rfl⟩)
    · skip
      refine z_aload_n X d_Cls_answer_25 rfl ?_
      refine z_getN X d_Cls_answer_26 (hP.lo 19 rfl) (hP.at 19 rfl) cl_Rul in_Rul 4 (by decide) (zG_n X.2.2.2.2.2.1 ns_12) rfl rfl ?_
      refine z_iconst X d_Cls_answer_29 (v := 1) (by decide) ?_
      refine z_icmp_ne X 35 d_Cls_answer_30 (by decide) (fun h30 => ?_) (fun h30 => ?_)
      · skip
        refine z_aload_n X d_Cls_answer_35 rfl ?_
        refine z_iconst X d_Cls_answer_36 (v := 1) (by decide) ?_
        refine z_putNP X t_Rul ty_Rul n_Rul d_Cls_answer_37 hP 19 rfl cl_Rul in_Rul 6 (by decide) (zG_n X.2.2.2.2.2.1 ns_14) rfl rfl rfl rfl rfl (Nat.le_of_ble_eq_true rfl) (fun hP => ?_)
        have hF := hF.by (by simp) hP
        refine z_iconst X d_Cls_answer_40 (v := 1) (by decide) ?_
        exact z_zret X d_Cls_answer_41 rfl (by rw [if_pos ⟨e8, h22, h30⟩]; exact ⟨rfl, rfl, hC.back hk (r' := ((ρ k).1, (ρ k).2.1, (ρ k).2.2.1, (ρ k).2.2.2.1, (ρ k).2.2.2.2.1, (ρ k).2.2.2.2.2.1, true, (ρ k).2.2.2.2.2.2.2)) hP hF, hF.lowC (hC.lo hk).1 (by have := hC.lo hk; omega)⟩)
      · skip
        have e9 : ¬ (rH (ρ k) = false ∧ ¬ rL (ρ k) = -1 ∧ ¬ rL (ρ k) = 1) := fun z => z.2.2 h30
        refine z_iconst X d_Cls_answer_33 (v := 0) (by decide) ?_
        exact z_zret X d_Cls_answer_34 rfl (by rw [if_neg e9]; exact ⟨rfl, rfl, rfl⟩)
set_option maxHeartbeats 4000000 in
set_option maxRecDepth 100000 in
theorem c_Cls_answer_n (hC : zC ck b0 N f T A B g len st lb G v ps cc td rc ρ) (hrc : rc ≤ 20) {i : Int32} (ho : i < 0 ∨ nI rc ≤ i) : zK l D ck ad b0 y_Cls_answer prog_1_method_13_code 3 ((some FieldType.boolean)) 1 0 0 [.ref (A 0), .int i] N f (fun r N' f' => r = some (.int 0) ∧ N = N' ∧ f = f') := by
  refine zM.of zG_w (by decide) (Nat.le_of_ble_eq_true rfl) ?_
  intro zp ze zst zm zar zbe zme zc X hnm hb0
  have hP := hC.1
  have hF : zF N f f (AL A) := zF.rf
  refine z_aload_n X d_Cls_answer_0 rfl ?_
  refine z_iload_n X d_Cls_answer_1 rfl ?_
  refine z_callV X zG_ok (c_Cls_find_n hC hrc ho) d_Cls_answer_2 ⟨(z_cb (n := 1) X.2.2.2.2.1 ml_Cls_79 mc_Cls_find ini_Cls (by decide +kernel) rfl rfl ⟨Nat.le_of_ble_eq_true rfl, Nat.le_of_ble_eq_true rfl⟩), X.2.2.2.2.1 _ im_Cls_find, X.2.2.2.2.1 _ sel_Cls_find⟩ (hP.lo 0 rfl) (hP.at 0 rfl) cl_Cls rfl rfl (Nat.le_of_ble_eq_true rfl) ⟨Nat.le_of_ble_eq_true rfl, Nat.le_of_ble_eq_true rfl⟩ (fun r N1 f1 hp hN1 => ?_)
  obtain ⟨rfl, rfl, rfl⟩ := hp
  refine z_astore_nN X d_Cls_answer_5 (by decide) rfl ?_
  refine z_aload_nN X d_Cls_answer_6 rfl ?_
  refine z_ifnullN X 33 d_Cls_answer_7 (by decide) ?_
  refine z_iconst X d_Cls_answer_33 (v := 0) (by decide) ?_
  exact z_zret X d_Cls_answer_34 rfl ⟨rfl, rfl, rfl⟩
end
