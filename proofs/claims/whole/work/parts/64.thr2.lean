section
variable {l : Launch} {D : va_G} {ck : Nat → ClassId} {ad : (Nat → Nat) × (Nat → Nat)} {b0 N : Nat} {f : Nat → va_E}
set_option maxHeartbeats 4000000 in
set_option maxRecDepth 100000 in
theorem c_Sgn_get_r {sg ra u : Nat} {g : Nat → Int32} (hP : zP b0 N f [(sg, oSgn ra (nI u)), (ra, aI ck 200 g)]) (hu : u ≤ 200) {i : Int32} : zMw (fun _ => False) l D zcl (zty ck) b0 (zG ad b0) y_Sgn_get [Cond.code y_Sgn_get prog_6_method_5_code 2 ((some FieldType.int))] (zR 0 0 0) 0 0 [.ref sg, .int i] N f (fun r N' f' => r = some (.int (sgv g u i)) ∧ N = N' ∧ f = f') := by
  refine zMw.of (wr := fun _ => False) zG_w (by decide) (Nat.le_of_ble_eq_true rfl) ?_
  intro zp ze zst zm zar zbe zme zc X hnm hb0
  refine z_iload_n X d_Sgn_get_0 rfl ?_
  refine z_if_lt X 21 d_Sgn_get_1 (by decide) (fun h1 => ?_) (fun h1 => ?_)
  · skip
    refine z_iconst X d_Sgn_get_21 (v := -1) (by decide) ?_
    exact z_iret X d_Sgn_get_22 ⟨by first | rw [sgv, if_pos h1] | rw [sgv, if_neg h1, if_pos h9], rfl, rfl⟩
  · skip
    refine z_iload_n X d_Sgn_get_4 rfl ?_
    refine z_aload_n X d_Sgn_get_5 rfl ?_
    refine z_get X d_Sgn_get_6 (hP.lo 0 rfl) (hP.at 0 rfl) cl_Sgn in_Sgn 1 (by decide) fl_Sgn_15 rfl rfl ?_
    refine z_icmp_ge X 21 d_Sgn_get_9 (by decide) (fun h9 => ?_) (fun h9 => ?_)
    · skip
      refine z_iconst X d_Sgn_get_21 (v := -1) (by decide) ?_
      exact z_iret X d_Sgn_get_22 ⟨by first | rw [sgv, if_pos h1] | rw [sgv, if_neg h1, if_pos h9], rfl, rfl⟩
    · skip
      refine z_iload_n X d_Sgn_get_12 rfl ?_
      refine z_aload_n X d_Sgn_get_13 rfl ?_
      refine z_get X d_Sgn_get_14 (hP.lo 0 rfl) (hP.at 0 rfl) cl_Sgn in_Sgn 0 (by decide) fl_Sgn_9 rfl rfl ?_
      refine z_alen X d_Sgn_get_17 (hP.lo 1 rfl) (hP.at 1 rfl) (t0 := 0) rfl rfl ?_
      refine z_icmp_lt X 23 d_Sgn_get_18 (by decide) (fun h18 => ?_) (fun h18 => ?_)
      · skip
        refine z_aload_n X d_Sgn_get_23 rfl ?_
        refine z_get X d_Sgn_get_24 (hP.lo 0 rfl) (hP.at 0 rfl) cl_Sgn in_Sgn 0 (by decide) fl_Sgn_9 rfl rfl ?_
        refine z_iload_n X d_Sgn_get_27 rfl ?_
        refine z_iald X d_Sgn_get_28 (hP.lo 1 rfl) (hP.at 1 rfl) (t0 := 0) rfl (by rw [vp_in_iff]; have a1 := Int32.not_lt.mp h1; rw [Int32.le_iff_toInt_le] at a1; have a2 := Int32.not_le.mp h9; rw [Int32.lt_iff_toInt_lt, nI_toInt (by omega)] at a2; simp at a1; omega) ?_
        exact z_iret X d_Sgn_get_29 ⟨by rw [sgv, if_neg h1, if_neg h9], rfl, rfl⟩
      · skip
        exact absurd (Int32.lt_of_lt_of_le (Int32.not_le.mp h9) (nI_le hu (by decide))) h18
variable {T : Nat} {A B : Nat → Nat} {g : Nat → Int32} {len : Nat} {st : RSt} {lb : Int32} {G v : Nat → Int32} {ps : PSt} {cc td : Int32} {rc : Nat} {ρ : Nat → RuS}
set_option maxHeartbeats 4000000 in
set_option maxRecDepth 100000 in
theorem c_Cls_find_r (hC : zC ck b0 N f T A B g len st lb G v ps cc td rc ρ) (hrc : rc ≤ 20) {i : Int32} (ho : i < 0 ∨ nI rc ≤ i) : zMw (fun _ => False) l D zcl (zty ck) b0 (zG ad b0) y_Cls_find [Cond.code y_Cls_find prog_1_method_21_code 2 ((some (FieldType.object "CheckRules$Rule")))] (zR 0 0 0) 0 0 [.ref (A 0), .int i] N f (fun r N' f' => r = some (.null) ∧ N = N' ∧ f = f') := by
  refine zMw.of (wr := fun _ => False) zG_w (by decide) (Nat.le_of_ble_eq_true rfl) ?_
  intro zp ze zst zm zar zbe zme zc X hnm hb0
  have hP := hC.1
  refine z_iload_n X d_Cls_find_0 rfl ?_
  refine z_if_lt X 21 d_Cls_find_1 (by decide) (fun h1 => ?_) (fun h1 => ?_)
  · skip
    refine z_null X d_Cls_find_21 ?_
    exact z_aret X d_Cls_find_22 (Or.inl rfl) ⟨rfl, rfl, rfl⟩
  · skip
    refine z_iload_n X d_Cls_find_4 rfl ?_
    refine z_aload_n X d_Cls_find_5 rfl ?_
    refine z_get X d_Cls_find_6 (hP.lo 0 rfl) (hP.at 0 rfl) cl_Cls in_Cls 4 (by decide) fl_Cls_38 rfl rfl ?_
    refine z_icmp_ge X 21 d_Cls_find_9 (by decide) (fun h9 => ?_) (fun h9 => ?_)
    · skip
      refine z_null X d_Cls_find_21 ?_
      exact z_aret X d_Cls_find_22 (Or.inl rfl) ⟨rfl, rfl, rfl⟩
    · skip
      exact absurd (ho.resolve_left h1) h9
set_option maxHeartbeats 4000000 in
set_option maxRecDepth 100000 in
theorem c_Cls_find_yr (hC : zC ck b0 N f T A B g len st lb G v ps cc td rc ρ) {k : Nat} (hk : k < rc) (hrc : rc ≤ 20) : zMw (fun _ => False) l D zcl (zty ck) b0 (zG ad b0) y_Cls_find [Cond.code y_Cls_find prog_1_method_21_code 2 ((some (FieldType.object "CheckRules$Rule")))] (zR 0 0 0) 0 0 [.ref (A 0), .int (nI k)] N f (fun r N' f' => r = some (.ref (B k)) ∧ N = N' ∧ f = f') := by
  refine zMw.of (wr := fun _ => False) zG_w (by decide) (Nat.le_of_ble_eq_true rfl) ?_
  intro zp ze zst zm zar zbe zme zc X hnm hb0
  have hP := hC.1
  refine z_iload_n X d_Cls_find_0 rfl ?_
  refine z_if_lt X 21 d_Cls_find_1 (by decide) (fun h1 => ?_) (fun h1 => ?_)
  · skip
    exact absurd h1 (nI_pos (by omega))
  · skip
    refine z_iload_n X d_Cls_find_4 rfl ?_
    refine z_aload_n X d_Cls_find_5 rfl ?_
    refine z_get X d_Cls_find_6 (hP.lo 0 rfl) (hP.at 0 rfl) cl_Cls in_Cls 4 (by decide) fl_Cls_38 rfl rfl ?_
    refine z_icmp_ge X 21 d_Cls_find_9 (by decide) (fun h9 => ?_) (fun h9 => ?_)
    · skip
      exact absurd h9 (nI_ge hk (by omega))
    · skip
      refine z_iload_n X d_Cls_find_12 rfl ?_
      refine z_aload_n X d_Cls_find_13 rfl ?_
      refine z_get X d_Cls_find_14 (hP.lo 0 rfl) (hP.at 0 rfl) cl_Cls in_Cls 3 (by decide) fl_Cls_34 rfl rfl ?_
      refine z_alen X d_Cls_find_17 (hP.lo 18 rfl) (hP.at 18 rfl) (t0 := 3) rfl rfl ?_
      refine z_icmp_lt X 23 d_Cls_find_18 (by decide) (fun h18 => ?_) (fun h18 => ?_)
      · skip
        refine z_aload_n X d_Cls_find_23 rfl ?_
        refine z_get X d_Cls_find_24 (hP.lo 0 rfl) (hP.at 0 rfl) cl_Cls in_Cls 3 (by decide) fl_Cls_34 rfl rfl ?_
        refine z_iload_n X d_Cls_find_27 rfl ?_
        refine z_aald X d_Cls_find_28 (hP.lo 18 rfl) (hP.at 18 rfl) (t0 := 3) rfl (vp_in_nI (by omega) (by omega)) ?_
        rw [rAd_ref hk (by omega)]
        exact z_aret X d_Cls_find_29 (Or.inr ⟨_, rfl⟩) ⟨rfl, rfl, rfl⟩
      · skip
        exact absurd (nI_lt (a := k) (b := 20) (by omega) (by decide)) h18
set_option maxHeartbeats 4000000 in
set_option maxRecDepth 100000 in
theorem c_Tre_size_r {tr ka va ra n u : Nat} {K V R : Nat → Int32} (hP : zP b0 N f (wTre ck tr ka va ra n K V R u)) : zMw (fun _ => False) l D zcl (zty ck) b0 (zG ad b0) y_Tre_size [Cond.code y_Tre_size prog_7_method_5_code 1 ((some FieldType.int))] (zR 0 0 0) 0 0 [.ref tr] N f (fun r N' f' => r = some (.int (nI u)) ∧ N = N' ∧ f = f') := by
  refine zMw.of (wr := fun _ => False) zG_w (by decide) (Nat.le_of_ble_eq_true rfl) ?_
  intro zp ze zst zm zar zbe zme zc X hnm hb0
  refine z_aload_n X d_Tre_size_0 rfl ?_
  refine z_get X d_Tre_size_1 (hP.lo 0 rfl) (hP.at 0 rfl) cl_Tre in_Tre 3 (by decide) fl_Tre_21 rfl rfl ?_
  exact z_iret X d_Tre_size_4 ⟨rfl, rfl, rfl⟩
set_option maxHeartbeats 4000000 in
set_option maxRecDepth 100000 in
theorem c_Cls_was_t (hC : zC ck b0 N f T A B g len st lb G v ps cc td rc ρ) (hrc : rc ≤ 20) {i0 : Int32} (ho : i0 < 0 ∨ nI rc ≤ i0) (htl : ∀ e, l.admits e → e.platform.stackTraces = false) : zMt l D zcl (zty ck) b0 (zG ad b0) y_Cls_was [Cond.code y_Cls_was prog_1_method_11_code 3 ((some FieldType.int))] (zR 10 1 6) "java/lang/IllegalArgumentException" [.ref (A 0), .int i0] N f := by
  refine zMt.of zG_w (by decide) (Nat.le_of_ble_eq_true rfl) htl ?_
  intro zp ze zst zm zar zbe zme zc X ztr zex hb0
  have hP := hC.1
  refine z_aload_n X d_Cls_was_0 rfl ?_
  refine z_iload_n X d_Cls_was_1 rfl ?_
  refine z_callVw (fun _ h => h.elim) X zG_ok (c_Cls_find_r hC hrc ho) d_Cls_was_2 ⟨(z_cb (n := 1) X.2.2.2.2.1 ml_Cls_79 mc_Cls_find ini_Cls (by decide +kernel) rfl rfl ⟨Nat.le_of_ble_eq_true rfl, Nat.le_of_ble_eq_true rfl⟩), X.2.2.2.2.1 _ im_Cls_find, X.2.2.2.2.1 _ sel_Cls_find⟩ (hP.lo 0 rfl) (hP.at 0 rfl) cl_Cls rfl rfl (Nat.le_of_ble_eq_true rfl) ⟨Nat.le_of_ble_eq_true rfl, Nat.le_of_ble_eq_true rfl⟩ (fun r N1 f1 hp hN1 => ?_)
  obtain ⟨rfl, rfl, rfl⟩ := hp
  refine z_astore_nN X d_Cls_was_5 (by decide) rfl ?_
  refine z_aload_nN X d_Cls_was_6 rfl ?_
  refine z_ifnonnullN X d_Cls_was_7 ?_
  exact z_throw X ztr zex d_Cls_was_10 d_Cls_was_13 d_Cls_was_14 d_Cls_was_16 d_Cls_was_19 (by decide +kernel) (by decide +kernel) (own_ar X.2.2.2.2.2.1 X.2.2.2.2.1) (zT_in 785 (by decide +kernel) rfl) (zT_in 786 (by decide +kernel) rfl) (zT_in 83 (by decide +kernel) rfl) (zG_sr (j := 7) X.2.2.2.2.2.1 (by decide)) (Nat.le_of_ble_eq_true rfl) (Nat.le_of_ble_eq_true rfl) (Nat.le_of_ble_eq_true rfl) (Nat.le_of_ble_eq_true rfl)
set_option maxHeartbeats 4000000 in
set_option maxRecDepth 100000 in
theorem c_Cls_is_t (hC : zC ck b0 N f T A B g len st lb G v ps cc td rc ρ) (hrc : rc ≤ 20) {i0 : Int32} (ho : i0 < 0 ∨ nI rc ≤ i0) (htl : ∀ e, l.admits e → e.platform.stackTraces = false) : zMt l D zcl (zty ck) b0 (zG ad b0) y_Cls_is [Cond.code y_Cls_is prog_1_method_12_code 3 ((some FieldType.int))] (zR 10 1 6) "java/lang/IllegalArgumentException" [.ref (A 0), .int i0] N f := by
  refine zMt.of zG_w (by decide) (Nat.le_of_ble_eq_true rfl) htl ?_
  intro zp ze zst zm zar zbe zme zc X ztr zex hb0
  have hP := hC.1
  refine z_aload_n X d_Cls_is_0 rfl ?_
  refine z_iload_n X d_Cls_is_1 rfl ?_
  refine z_callVw (fun _ h => h.elim) X zG_ok (c_Cls_find_r hC hrc ho) d_Cls_is_2 ⟨(z_cb (n := 1) X.2.2.2.2.1 ml_Cls_79 mc_Cls_find ini_Cls (by decide +kernel) rfl rfl ⟨Nat.le_of_ble_eq_true rfl, Nat.le_of_ble_eq_true rfl⟩), X.2.2.2.2.1 _ im_Cls_find, X.2.2.2.2.1 _ sel_Cls_find⟩ (hP.lo 0 rfl) (hP.at 0 rfl) cl_Cls rfl rfl (Nat.le_of_ble_eq_true rfl) ⟨Nat.le_of_ble_eq_true rfl, Nat.le_of_ble_eq_true rfl⟩ (fun r N1 f1 hp hN1 => ?_)
  obtain ⟨rfl, rfl, rfl⟩ := hp
  refine z_astore_nN X d_Cls_is_5 (by decide) rfl ?_
  refine z_aload_nN X d_Cls_is_6 rfl ?_
  refine z_ifnonnullN X d_Cls_is_7 ?_
  exact z_throw X ztr zex d_Cls_is_10 d_Cls_is_13 d_Cls_is_14 d_Cls_is_16 d_Cls_is_19 (by decide +kernel) (by decide +kernel) (own_ar X.2.2.2.2.2.1 X.2.2.2.2.1) (zT_in 785 (by decide +kernel) rfl) (zT_in 786 (by decide +kernel) rfl) (zT_in 83 (by decide +kernel) rfl) (zG_sr (j := 7) X.2.2.2.2.2.1 (by decide)) (Nat.le_of_ble_eq_true rfl) (Nat.le_of_ble_eq_true rfl) (Nat.le_of_ble_eq_true rfl) (Nat.le_of_ble_eq_true rfl)
set_option maxHeartbeats 4000000 in
set_option maxRecDepth 100000 in
theorem c_Cls_print_t (hC : zC ck b0 N f T A B g len st lb G v ps cc td rc ρ) (hrc : rc ≤ 20) {i0 : Int32} (ho : i0 < 0 ∨ nI rc ≤ i0) (htl : ∀ e, l.admits e → e.platform.stackTraces = false) : zMt l D zcl (zty ck) b0 (zG ad b0) y_Cls_print [Cond.code y_Cls_print prog_1_method_17_code 3 ((some FieldType.int))] (zR 88 1 6) "java/lang/IllegalArgumentException" [.ref (A 0), .int i0] N f := by
  refine zMt.of zG_w (by decide) (Nat.le_of_ble_eq_true rfl) htl ?_
  intro zp ze zst zm zar zbe zme zc X ztr zex hb0
  have hP := hC.1
  refine z_aload_n X d_Cls_print_0 rfl ?_
  refine z_iload_n X d_Cls_print_1 rfl ?_
  refine z_callVw (fun _ h => h.elim) X zG_ok (c_Cls_find_r hC hrc ho) d_Cls_print_2 ⟨(z_cb (n := 1) X.2.2.2.2.1 ml_Cls_79 mc_Cls_find ini_Cls (by decide +kernel) rfl rfl ⟨Nat.le_of_ble_eq_true rfl, Nat.le_of_ble_eq_true rfl⟩), X.2.2.2.2.1 _ im_Cls_find, X.2.2.2.2.1 _ sel_Cls_find⟩ (hP.lo 0 rfl) (hP.at 0 rfl) cl_Cls rfl rfl (Nat.le_of_ble_eq_true rfl) ⟨Nat.le_of_ble_eq_true rfl, Nat.le_of_ble_eq_true rfl⟩ (fun r N1 f1 hp hN1 => ?_)
  obtain ⟨rfl, rfl, rfl⟩ := hp
  refine z_astore_nN X d_Cls_print_5 (by decide) rfl ?_
  refine z_aload_nN X d_Cls_print_6 rfl ?_
  refine z_ifnonnullN X d_Cls_print_7 ?_
  exact z_throw X ztr zex d_Cls_print_10 d_Cls_print_13 d_Cls_print_14 d_Cls_print_16 d_Cls_print_19 (by decide +kernel) (by decide +kernel) (own_ar X.2.2.2.2.2.1 X.2.2.2.2.1) (zT_in 785 (by decide +kernel) rfl) (zT_in 786 (by decide +kernel) rfl) (zT_in 83 (by decide +kernel) rfl) (zG_sr (j := 7) X.2.2.2.2.2.1 (by decide)) (Nat.le_of_ble_eq_true rfl) (Nat.le_of_ble_eq_true rfl) (Nat.le_of_ble_eq_true rfl) (Nat.le_of_ble_eq_true rfl)
set_option maxHeartbeats 4000000 in
set_option maxRecDepth 100000 in
theorem c_Cls_touch_t {fd : Int32} (h0 : fd < 0 ∨ 20 ≤ fd) {a : Nat} (htl : ∀ e, l.admits e → e.platform.stackTraces = false) : zMt l D zcl (zty ck) b0 (zG ad b0) y_Cls_touch [Cond.code y_Cls_touch prog_1_method_14_code 5 ((some FieldType.int))] (zR 10 1 6) "java/lang/IllegalArgumentException" [.ref a, .int fd] N f := by
  refine zMt.of zG_w (by decide) (Nat.le_of_ble_eq_true rfl) htl ?_
  intro zp ze zst zm zar zbe zme zc X ztr zex hb0
  refine z_iload_n X d_Cls_touch_0 rfl ?_
  refine z_if_lt X 10 d_Cls_touch_1 (by decide) (fun h1 => ?_) (fun h1 => ?_)
  · skip
    exact z_throw X ztr zex d_Cls_touch_10 d_Cls_touch_13 d_Cls_touch_14 d_Cls_touch_16 d_Cls_touch_19 (by decide +kernel) (by decide +kernel) (own_ar X.2.2.2.2.2.1 X.2.2.2.2.1) (zT_in 785 (by decide +kernel) rfl) (zT_in 786 (by decide +kernel) rfl) (zT_in 83 (by decide +kernel) rfl) (zG_sr (j := 8) X.2.2.2.2.2.1 (by decide)) (Nat.le_of_ble_eq_true rfl) (Nat.le_of_ble_eq_true rfl) (Nat.le_of_ble_eq_true rfl) (Nat.le_of_ble_eq_true rfl)
  · skip
    refine z_iload_n X d_Cls_touch_4 rfl ?_
    refine z_bipush X d_Cls_touch_5 (v := 20) (by decide) ?_
    refine z_icmp_lt X 20 d_Cls_touch_7 (by decide) (fun h7 => ?_) (fun h7 => ?_)
    · skip
      exact absurd h7 (Int32.not_lt.mpr (h0.resolve_left h1))
    · skip
      exact z_throw X ztr zex d_Cls_touch_10 d_Cls_touch_13 d_Cls_touch_14 d_Cls_touch_16 d_Cls_touch_19 (by decide +kernel) (by decide +kernel) (own_ar X.2.2.2.2.2.1 X.2.2.2.2.1) (zT_in 785 (by decide +kernel) rfl) (zT_in 786 (by decide +kernel) rfl) (zT_in 83 (by decide +kernel) rfl) (zG_sr (j := 8) X.2.2.2.2.2.1 (by decide)) (Nat.le_of_ble_eq_true rfl) (Nat.le_of_ble_eq_true rfl) (Nat.le_of_ble_eq_true rfl) (Nat.le_of_ble_eq_true rfl)
set_option maxHeartbeats 4000000 in
set_option maxRecDepth 100000 in
theorem c_Cls_rule_t (hC : zC ck b0 N f T A B g len st lb G v ps cc td rc ρ) (hrc : rc = 20) (htl : ∀ e, l.admits e → e.platform.stackTraces = false) : zMt l D zcl (zty ck) b0 (zG ad b0) y_Cls_rule [Cond.code y_Cls_rule prog_1_method_3_code 2 ((some FieldType.int))] (zR 10 1 6) "java/lang/IllegalStateException" [.ref (A 0)] N f := by
  refine zMt.of zG_w (by decide) (Nat.le_of_ble_eq_true rfl) htl ?_
  intro zp ze zst zm zar zbe zme zc X ztr zex hb0
  have hP := hC.1
  refine z_aload_n X d_Cls_rule_0 rfl ?_
  refine z_get X d_Cls_rule_1 (hP.lo 0 rfl) (hP.at 0 rfl) cl_Cls in_Cls 4 (by decide) fl_Cls_38 rfl rfl ?_
  refine z_if_lt X 19 d_Cls_rule_4 (by decide) (fun h4 => ?_) (fun h4 => ?_)
  · skip
    exact absurd h4 (nI_pos (by omega))
  · skip
    refine z_aload_n X d_Cls_rule_7 rfl ?_
    refine z_get X d_Cls_rule_8 (hP.lo 0 rfl) (hP.at 0 rfl) cl_Cls in_Cls 4 (by decide) fl_Cls_38 rfl rfl ?_
    refine z_aload_n X d_Cls_rule_11 rfl ?_
    refine z_get X d_Cls_rule_12 (hP.lo 0 rfl) (hP.at 0 rfl) cl_Cls in_Cls 3 (by decide) fl_Cls_34 rfl rfl ?_
    refine z_alen X d_Cls_rule_15 (hP.lo 18 rfl) (hP.at 18 rfl) (t0 := 3) rfl rfl ?_
    refine z_icmp_lt X 29 d_Cls_rule_16 (by decide) (fun h16 => ?_) (fun h16 => ?_)
    · skip
      exact absurd h16 (nI_nlt (a := rc) (b := 20) (by omega) (by omega))
    · skip
      exact z_throw X ztr zex d_Cls_rule_19 d_Cls_rule_22 d_Cls_rule_23 d_Cls_rule_25 d_Cls_rule_28 (by decide +kernel) (by decide +kernel) (own_st X.2.2.2.2.2.1 X.2.2.2.2.1) (zT_in 436 (by decide +kernel) rfl) (zT_in 437 (by decide +kernel) rfl) (zT_in 74 (by decide +kernel) rfl) (zG_sr (j := 0) X.2.2.2.2.2.1 (by decide)) (Nat.le_of_ble_eq_true rfl) (Nat.le_of_ble_eq_true rfl) (Nat.le_of_ble_eq_true rfl) (Nat.le_of_ble_eq_true rfl)
set_option maxHeartbeats 4000000 in
set_option maxRecDepth 100000 in
theorem c_Cls_at_t (hC : zC ck b0 N f T A B g len st lb G v ps cc td rc ρ) (hl : ps.2 ≤ 200) {i0 : Int32} (hi : sgv ps.1 ps.2 i0 = -1) (htl : ∀ e, l.admits e → e.platform.stackTraces = false) : zMt l D zcl (zty ck) b0 (zG ad b0) y_Cls_at [Cond.code y_Cls_at prog_1_method_18_code 3 ((some FieldType.int))] (zR 10 1 6) "java/lang/IndexOutOfBoundsException" [.ref (A 0), .int i0] N f := by
  refine zMt.of zG_w (by decide) (Nat.le_of_ble_eq_true rfl) htl ?_
  intro zp ze zst zm zar zbe zme zc X ztr zex hb0
  have hP := hC.1
  refine z_aload_n X d_Cls_at_0 rfl ?_
  refine z_get X d_Cls_at_1 (hP.lo 0 rfl) (hP.at 0 rfl) cl_Cls in_Cls 2 (by decide) fl_Cls_28 rfl rfl ?_
  refine z_getN X d_Cls_at_4 (hP.lo 15 rfl) (hP.at 15 rfl) cl_Prt in_Prt 0 (by decide) (zG_n X.2.2.2.2.2.1 ns_7) rfl rfl ?_
  refine z_iload_n X d_Cls_at_7 rfl ?_
  refine z_callVw (fun _ h => h.elim) X zG_ok (c_Sgn_get_r (hP.sub [16, 17] (by decide) rfl) hl) d_Cls_at_8 ⟨(z_cb (n := 1) X.2.2.2.2.1 ml_Cls_178 mc_Sgn_get ini_Sgn (by decide +kernel) rfl rfl ⟨Nat.le_of_ble_eq_true rfl, Nat.le_of_ble_eq_true rfl⟩), X.2.2.2.2.1 _ im_Sgn_get, X.2.2.2.2.1 _ sel_Sgn_get⟩ (hP.lo 16 rfl) (hP.at 16 rfl) cl_Sgn rfl rfl (Nat.le_of_ble_eq_true rfl) ⟨Nat.le_of_ble_eq_true rfl, Nat.le_of_ble_eq_true rfl⟩ (fun r N1 f1 hp hN1 => ?_)
  obtain ⟨rfl, rfl, rfl⟩ := hp
  refine z_istore_n X d_Cls_at_11 (by decide) rfl ?_
  refine z_iload_n X d_Cls_at_12 rfl ?_
  refine z_iconst X d_Cls_at_13 (v := -1) (by decide) ?_
  refine z_icmp_ne X 27 d_Cls_at_14 (by decide) (fun h14 => ?_) (fun h14 => ?_)
  · skip
    exact absurd hi h14
  · skip
    exact z_throw X ztr zex d_Cls_at_17 d_Cls_at_20 d_Cls_at_21 d_Cls_at_23 d_Cls_at_26 (by decide +kernel) (by decide +kernel) (own_ix X.2.2.2.2.2.1 X.2.2.2.2.1) (zT_in 830 (by decide +kernel) rfl) (zT_in 831 (by decide +kernel) rfl) (zT_in 84 (by decide +kernel) rfl) (zG_sr (j := 15) X.2.2.2.2.2.1 (by decide)) (Nat.le_of_ble_eq_true rfl) (Nat.le_of_ble_eq_true rfl) (Nat.le_of_ble_eq_true rfl) (Nat.le_of_ble_eq_true rfl)
set_option maxHeartbeats 4000000 in
set_option maxRecDepth 100000 in
theorem c_Cls_node_t (hC : zC ck b0 N f T A B g len st lb G v ps cc td rc ρ) (hrc : rc ≤ 20) {i0 : Int32} (ho : i0 < 0 ∨ nI rc ≤ i0) {i1 w : Int32} (htl : ∀ e, l.admits e → e.platform.stackTraces = false) : zMt l D zcl (zty ck) b0 (zG ad b0) y_Cls_node [Cond.code y_Cls_node prog_1_method_16_code 5 ((some FieldType.int))] (zR 10 1 6) "java/lang/IndexOutOfBoundsException" [.ref (A 0), .int i0, .int i1, .int w] N f := by
  refine zMt.of zG_w (by decide) (Nat.le_of_ble_eq_true rfl) htl ?_
  intro zp ze zst zm zar zbe zme zc X ztr zex hb0
  have hP := hC.1
  refine z_aload_n X d_Cls_node_0 rfl ?_
  refine z_iload_n X d_Cls_node_1 rfl ?_
  refine z_callVw (fun _ h => h.elim) X zG_ok (c_Cls_find_r hC hrc ho) d_Cls_node_2 ⟨(z_cb (n := 1) X.2.2.2.2.1 ml_Cls_79 mc_Cls_find ini_Cls (by decide +kernel) rfl rfl ⟨Nat.le_of_ble_eq_true rfl, Nat.le_of_ble_eq_true rfl⟩), X.2.2.2.2.1 _ im_Cls_find, X.2.2.2.2.1 _ sel_Cls_find⟩ (hP.lo 0 rfl) (hP.at 0 rfl) cl_Cls rfl rfl (Nat.le_of_ble_eq_true rfl) ⟨Nat.le_of_ble_eq_true rfl, Nat.le_of_ble_eq_true rfl⟩ (fun r N1 f1 hp hN1 => ?_)
  obtain ⟨rfl, rfl, rfl⟩ := hp
  refine z_astoreN X d_Cls_node_5 (by decide) rfl ?_
  refine z_aloadN X d_Cls_node_7 rfl ?_
  refine z_ifnullN X 37 d_Cls_node_9 (by decide) ?_
  exact z_throw X ztr zex d_Cls_node_37 d_Cls_node_40 d_Cls_node_41 d_Cls_node_43 d_Cls_node_46 (by decide +kernel) (by decide +kernel) (own_ix X.2.2.2.2.2.1 X.2.2.2.2.1) (zT_in 830 (by decide +kernel) rfl) (zT_in 831 (by decide +kernel) rfl) (zT_in 84 (by decide +kernel) rfl) (zG_sr (j := 9) X.2.2.2.2.2.1 (by decide)) (Nat.le_of_ble_eq_true rfl) (Nat.le_of_ble_eq_true rfl) (Nat.le_of_ble_eq_true rfl) (Nat.le_of_ble_eq_true rfl)
set_option maxHeartbeats 4000000 in
set_option maxRecDepth 100000 in
theorem c_Cls_node_t2 (hC : zC ck b0 N f T A B g len st lb G v ps cc td rc ρ) {k : Nat} (hk : k < rc) (hrc : rc ≤ 20) {i1 w : Int32} (hbad : i1 < 0 ∨ nI (ρ k).1.2.2.2 ≤ i1 ∨ w < 0 ∨ 3 < w) (htl : ∀ e, l.admits e → e.platform.stackTraces = false) : zMt l D zcl (zty ck) b0 (zG ad b0) y_Cls_node [Cond.code y_Cls_node prog_1_method_16_code 5 ((some FieldType.int))] (zR 10 1 6) "java/lang/IndexOutOfBoundsException" [.ref (A 0), .int (nI k), .int i1, .int w] N f := by
  refine zMt.of zG_w (by decide) (Nat.le_of_ble_eq_true rfl) htl ?_
  intro zp ze zst zm zar zbe zme zc X ztr zex hb0
  have hP := hC.rl hk
  refine z_aload_n X d_Cls_node_0 rfl ?_
  refine z_iload_n X d_Cls_node_1 rfl ?_
  refine z_callVw (fun _ h => h.elim) X zG_ok (c_Cls_find_yr hC hk hrc) d_Cls_node_2 ⟨(z_cb (n := 1) X.2.2.2.2.1 ml_Cls_79 mc_Cls_find ini_Cls (by decide +kernel) rfl rfl ⟨Nat.le_of_ble_eq_true rfl, Nat.le_of_ble_eq_true rfl⟩), X.2.2.2.2.1 _ im_Cls_find, X.2.2.2.2.1 _ sel_Cls_find⟩ (hP.lo 0 rfl) (hP.at 0 rfl) cl_Cls rfl rfl (Nat.le_of_ble_eq_true rfl) ⟨Nat.le_of_ble_eq_true rfl, Nat.le_of_ble_eq_true rfl⟩ (fun r N1 f1 hp hN1 => ?_)
  obtain ⟨rfl, rfl, rfl⟩ := hp
  refine z_astore X d_Cls_node_5 (by decide) rfl ?_
  refine z_aload X d_Cls_node_7 rfl ?_
  refine z_ifnull X d_Cls_node_9 ?_
  refine z_iload_n X d_Cls_node_12 rfl ?_
  refine z_if_lt X 37 d_Cls_node_13 (by decide) (fun h13 => ?_) (fun h13 => ?_)
  · skip
    exact z_throw X ztr zex d_Cls_node_37 d_Cls_node_40 d_Cls_node_41 d_Cls_node_43 d_Cls_node_46 (by decide +kernel) (by decide +kernel) (own_ix X.2.2.2.2.2.1 X.2.2.2.2.1) (zT_in 830 (by decide +kernel) rfl) (zT_in 831 (by decide +kernel) rfl) (zT_in 84 (by decide +kernel) rfl) (zG_sr (j := 9) X.2.2.2.2.2.1 (by decide)) (Nat.le_of_ble_eq_true rfl) (Nat.le_of_ble_eq_true rfl) (Nat.le_of_ble_eq_true rfl) (Nat.le_of_ble_eq_true rfl)
  · skip
    refine z_iload_n X d_Cls_node_16 rfl ?_
    refine z_aload X d_Cls_node_17 rfl ?_
    refine z_getN X d_Cls_node_19 (hP.lo 19 rfl) (hP.at 19 rfl) cl_Rul in_Rul 0 (by decide) (zG_n X.2.2.2.2.2.1 ns_8) rfl rfl ?_
    refine z_callVw (fun _ h => h.elim) X zG_ok (c_Tre_size_r (hP.sub [20, 21, 22, 23] (by decide) rfl)) d_Cls_node_22 ⟨(z_cb (n := 0) X.2.2.2.2.1 ml_Cls_150 mc_Tre_size ini_Tre (by decide +kernel) rfl rfl ⟨Nat.le_of_ble_eq_true rfl, Nat.le_of_ble_eq_true rfl⟩), X.2.2.2.2.1 _ im_Tre_size, X.2.2.2.2.1 _ sel_Tre_size⟩ (hP.lo 20 rfl) (hP.at 20 rfl) cl_Tre rfl rfl (Nat.le_of_ble_eq_true rfl) ⟨Nat.le_of_ble_eq_true rfl, Nat.le_of_ble_eq_true rfl⟩ (fun r N1 f1 hp hN1 => ?_)
    obtain ⟨rfl, rfl, rfl⟩ := hp
    refine z_icmp_ge X 37 d_Cls_node_25 (by decide) (fun h25 => ?_) (fun h25 => ?_)
    · skip
      exact z_throw X ztr zex d_Cls_node_37 d_Cls_node_40 d_Cls_node_41 d_Cls_node_43 d_Cls_node_46 (by decide +kernel) (by decide +kernel) (own_ix X.2.2.2.2.2.1 X.2.2.2.2.1) (zT_in 830 (by decide +kernel) rfl) (zT_in 831 (by decide +kernel) rfl) (zT_in 84 (by decide +kernel) rfl) (zG_sr (j := 9) X.2.2.2.2.2.1 (by decide)) (Nat.le_of_ble_eq_true rfl) (Nat.le_of_ble_eq_true rfl) (Nat.le_of_ble_eq_true rfl) (Nat.le_of_ble_eq_true rfl)
    · skip
      refine z_iload_n X d_Cls_node_28 rfl ?_
      refine z_if_lt X 37 d_Cls_node_29 (by decide) (fun h29 => ?_) (fun h29 => ?_)
      · skip
        exact z_throw X ztr zex d_Cls_node_37 d_Cls_node_40 d_Cls_node_41 d_Cls_node_43 d_Cls_node_46 (by decide +kernel) (by decide +kernel) (own_ix X.2.2.2.2.2.1 X.2.2.2.2.1) (zT_in 830 (by decide +kernel) rfl) (zT_in 831 (by decide +kernel) rfl) (zT_in 84 (by decide +kernel) rfl) (zG_sr (j := 9) X.2.2.2.2.2.1 (by decide)) (Nat.le_of_ble_eq_true rfl) (Nat.le_of_ble_eq_true rfl) (Nat.le_of_ble_eq_true rfl) (Nat.le_of_ble_eq_true rfl)
      · skip
        refine z_iload_n X d_Cls_node_32 rfl ?_
        refine z_iconst X d_Cls_node_33 (v := 3) (by decide) ?_
        refine z_icmp_le X 47 d_Cls_node_34 (by decide) (fun h34 => ?_) (fun h34 => ?_)
        · skip
          exact absurd hbad (fun z => z.elim h13 (fun z => z.elim h25 (fun z => z.elim h29 (Int32.not_lt.mpr h34))))
        · skip
          exact z_throw X ztr zex d_Cls_node_37 d_Cls_node_40 d_Cls_node_41 d_Cls_node_43 d_Cls_node_46 (by decide +kernel) (by decide +kernel) (own_ix X.2.2.2.2.2.1 X.2.2.2.2.1) (zT_in 830 (by decide +kernel) rfl) (zT_in 831 (by decide +kernel) rfl) (zT_in 84 (by decide +kernel) rfl) (zG_sr (j := 9) X.2.2.2.2.2.1 (by decide)) (Nat.le_of_ble_eq_true rfl) (Nat.le_of_ble_eq_true rfl) (Nat.le_of_ble_eq_true rfl) (Nat.le_of_ble_eq_true rfl)
end
