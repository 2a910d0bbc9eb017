abbrev oRul (tr : Nat) (g : Int32) (h : Bool) (d lt : Int32) (mt an fa : Bool) : va_E := .inr (3, [.ref tr, .int g, .int (zb h), .int d, .int lt, .int (zb mt), .int (zb an), .int (zb fa)])
/-- what a check leaves with a rule: answered, met, faulty -/
def ruA (lt : Int32) (an : Bool) (x : Int32) : Bool := if x = lt then an else false
def ruM (mt : Bool) (x : Int32) : Bool := if x = 1 then true else mt
def ruF (lt : Int32) (an : Bool) (x : Int32) : Bool := if x = 1 then false else !ruA lt an x
section
variable {l : Launch} {D : va_G} {ck : Nat → ClassId} {ad : (Nat → Nat) × (Nat → Nat)} {b0 N : Nat} {f : Nat → va_E}
theorem d_Rul_isBad_0 : decode prog_5_method_3_code 0 = .ok (.aload_n 0, 1) := by decide +kernel
theorem d_Rul_isBad_1 : decode prog_5_method_3_code 1 = .ok (.getfield 31, 3) := by decide +kernel
theorem d_Rul_isBad_4 : decode prog_5_method_3_code 4 = .ok (.ifCond .eq 15, 3) := by decide +kernel
theorem d_Rul_isBad_7 : decode prog_5_method_3_code 7 = .ok (.aload_n 0, 1) := by decide +kernel
theorem d_Rul_isBad_8 : decode prog_5_method_3_code 8 = .ok (.getfield 15, 3) := by decide +kernel
theorem d_Rul_isBad_11 : decode prog_5_method_3_code 11 = .ok (.iload_n 1, 1) := by decide +kernel
theorem d_Rul_isBad_12 : decode prog_5_method_3_code 12 = .ok (.if_icmp .ne 7, 3) := by decide +kernel
theorem d_Rul_isBad_15 : decode prog_5_method_3_code 15 = .ok (.iconst 1, 1) := by decide +kernel
theorem d_Rul_isBad_16 : decode prog_5_method_3_code 16 = .ok (.goto 4, 3) := by decide +kernel
theorem d_Rul_isBad_19 : decode prog_5_method_3_code 19 = .ok (.iconst 0, 1) := by decide +kernel
theorem d_Rul_isBad_20 : decode prog_5_method_3_code 20 = .ok (.ireturn, 1) := by decide +kernel
set_option maxHeartbeats 4000000 in
set_option maxRecDepth 100000 in
theorem c_Rul_isBad {ru tr : Nat} {g d lt : Int32} {h mt an fa : Bool} (hP : zP b0 N f [(ru, oRul tr g h d lt mt an fa)]) {q : Bool} : zK l D ck ad b0 y_Rul_isBad prog_5_method_3_code 2 ((some FieldType.boolean)) 0 0 0 [.ref ru, .int (zb q)] N f (fun r N' f' => r = some (.int (zb (fa && (h == q)))) ∧ N = N' ∧ f = f') := by
  refine zM.of zG_w (by decide) (Nat.le_of_ble_eq_true rfl) ?_
  intro zp ze zst zm zar zbe zme zc X hnm hb0
  refine z_aload_n X d_Rul_isBad_0 rfl ?_
  refine z_get X d_Rul_isBad_1 (hP.lo 0 rfl) (hP.at 0 rfl) cl_Rul in_Rul 7 (by decide) fl_Rul_31 rfl rfl ?_
  refine z_if_eq X 19 d_Rul_isBad_4 (by decide) (fun h4 => ?_) (fun h4 => ?_)
  · skip
    refine z_iconst X d_Rul_isBad_19 (v := 0) (by decide) ?_
    exact z_zret X d_Rul_isBad_20 rfl ⟨by first | rw [zb_0.mp h4]; rfl | (rw [zb_i] at h12; cases fa <;> cases h <;> cases q <;> simp_all [zb]), rfl, rfl⟩
  · skip
    refine z_aload_n X d_Rul_isBad_7 rfl ?_
    refine z_get X d_Rul_isBad_8 (hP.lo 0 rfl) (hP.at 0 rfl) cl_Rul in_Rul 2 (by decide) fl_Rul_15 rfl rfl ?_
    refine z_iload_n X d_Rul_isBad_11 rfl ?_
    refine z_icmp_ne X 19 d_Rul_isBad_12 (by decide) (fun h12 => ?_) (fun h12 => ?_)
    · skip
      refine z_iconst X d_Rul_isBad_19 (v := 0) (by decide) ?_
      exact z_zret X d_Rul_isBad_20 rfl ⟨by first | rw [zb_0.mp h4]; rfl | (rw [zb_i] at h12; cases fa <;> cases h <;> cases q <;> simp_all [zb]), rfl, rfl⟩
    · skip
      refine z_iconst X d_Rul_isBad_15 (v := 1) (by decide) ?_
      refine z_goto X 20 d_Rul_isBad_16 (by decide) ?_
      exact z_zret X d_Rul_isBad_20 rfl ⟨by first | rw [zb_0.mp h4]; rfl | (rw [zb_i] at h12; cases fa <;> cases h <;> cases q <;> simp_all [zb]), rfl, rfl⟩
theorem d_Rul_takeResult_0 : decode prog_5_method_2_code 0 = .ok (.iload_n 1, 1) := by decide +kernel
theorem d_Rul_takeResult_1 : decode prog_5_method_2_code 1 = .ok (.aload_n 0, 1) := by decide +kernel
theorem d_Rul_takeResult_2 : decode prog_5_method_2_code 2 = .ok (.getfield 22, 3) := by decide +kernel
theorem d_Rul_takeResult_5 : decode prog_5_method_2_code 5 = .ok (.if_icmp .eq 8, 3) := by decide +kernel
theorem d_Rul_takeResult_8 : decode prog_5_method_2_code 8 = .ok (.aload_n 0, 1) := by decide +kernel
theorem d_Rul_takeResult_9 : decode prog_5_method_2_code 9 = .ok (.iconst 0, 1) := by decide +kernel
theorem d_Rul_takeResult_10 : decode prog_5_method_2_code 10 = .ok (.putfield 28, 3) := by decide +kernel
theorem d_Rul_takeResult_13 : decode prog_5_method_2_code 13 = .ok (.aload_n 0, 1) := by decide +kernel
theorem d_Rul_takeResult_14 : decode prog_5_method_2_code 14 = .ok (.iload_n 1, 1) := by decide +kernel
theorem d_Rul_takeResult_15 : decode prog_5_method_2_code 15 = .ok (.putfield 22, 3) := by decide +kernel
theorem d_Rul_takeResult_18 : decode prog_5_method_2_code 18 = .ok (.iload_n 1, 1) := by decide +kernel
theorem d_Rul_takeResult_19 : decode prog_5_method_2_code 19 = .ok (.iconst 1, 1) := by decide +kernel
theorem d_Rul_takeResult_20 : decode prog_5_method_2_code 20 = .ok (.if_icmp .ne 8, 3) := by decide +kernel
theorem d_Rul_takeResult_23 : decode prog_5_method_2_code 23 = .ok (.aload_n 0, 1) := by decide +kernel
theorem d_Rul_takeResult_24 : decode prog_5_method_2_code 24 = .ok (.iconst 1, 1) := by decide +kernel
theorem d_Rul_takeResult_25 : decode prog_5_method_2_code 25 = .ok (.putfield 25, 3) := by decide +kernel
theorem d_Rul_takeResult_28 : decode prog_5_method_2_code 28 = .ok (.aload_n 0, 1) := by decide +kernel
theorem d_Rul_takeResult_29 : decode prog_5_method_2_code 29 = .ok (.iload_n 1, 1) := by decide +kernel
theorem d_Rul_takeResult_30 : decode prog_5_method_2_code 30 = .ok (.iconst 1, 1) := by decide +kernel
theorem d_Rul_takeResult_31 : decode prog_5_method_2_code 31 = .ok (.if_icmp .eq 14, 3) := by decide +kernel
theorem d_Rul_takeResult_34 : decode prog_5_method_2_code 34 = .ok (.aload_n 0, 1) := by decide +kernel
theorem d_Rul_takeResult_35 : decode prog_5_method_2_code 35 = .ok (.getfield 28, 3) := by decide +kernel
theorem d_Rul_takeResult_38 : decode prog_5_method_2_code 38 = .ok (.ifCond .ne 7, 3) := by decide +kernel
theorem d_Rul_takeResult_41 : decode prog_5_method_2_code 41 = .ok (.iconst 1, 1) := by decide +kernel
theorem d_Rul_takeResult_42 : decode prog_5_method_2_code 42 = .ok (.goto 4, 3) := by decide +kernel
theorem d_Rul_takeResult_45 : decode prog_5_method_2_code 45 = .ok (.iconst 0, 1) := by decide +kernel
theorem d_Rul_takeResult_46 : decode prog_5_method_2_code 46 = .ok (.putfield 31, 3) := by decide +kernel
theorem d_Rul_takeResult_49 : decode prog_5_method_2_code 49 = .ok (.return_, 1) := by decide +kernel
set_option maxHeartbeats 4000000 in
set_option maxRecDepth 100000 in
theorem c_Rul_takeResult {ru tr : Nat} {g d lt : Int32} {h mt an fa : Bool} (hP : zP b0 N f [(ru, oRul tr g h d lt mt an fa)]) {x : Int32} : zK l D ck ad b0 y_Rul_takeResult prog_5_method_2_code 2 (none) 0 0 0 [.ref ru, .int x] N f (fun r N' f' => r = none ∧ N = N' ∧ zP b0 N f' [(ru, oRul tr g h d x (ruM mt x) (ruA lt an x) (ruF lt an x))] ∧ zF N f f' [ru]) := by
  refine zM.of zG_w (by decide) (Nat.le_of_ble_eq_true rfl) ?_
  intro zp ze zst zm zar zbe zme zc X hnm hb0
  have hF : zF N f f [ru] := zF.rf
  refine z_iload_n X d_Rul_takeResult_0 rfl ?_
  refine z_aload_n X d_Rul_takeResult_1 rfl ?_
  refine z_get X d_Rul_takeResult_2 (hP.lo 0 rfl) (hP.at 0 rfl) cl_Rul in_Rul 4 (by decide) fl_Rul_22 rfl rfl ?_
  refine z_icmp_eq X 13 d_Rul_takeResult_5 (by decide) (fun h5 => ?_) (fun h5 => ?_)
  · skip
    refine z_aload_n X d_Rul_takeResult_13 rfl ?_
    refine z_iload_n X d_Rul_takeResult_14 rfl ?_
    refine z_putP X t_Rul ty_Rul n_Rul d_Rul_takeResult_15 hP 0 rfl cl_Rul in_Rul 4 (by decide) fl_Rul_22 rfl rfl rfl rfl rfl (Nat.le_of_ble_eq_true rfl) (fun hP => ?_)
    have hF := hF.by (by simp) hP
    refine z_iload_n X d_Rul_takeResult_18 rfl ?_
    refine z_iconst X d_Rul_takeResult_19 (v := 1) (by decide) ?_
    refine z_icmp_ne X 28 d_Rul_takeResult_20 (by decide) (fun h20 => ?_) (fun h20 => ?_)
    · skip
      refine z_aload_n X d_Rul_takeResult_28 rfl ?_
      refine z_iload_n X d_Rul_takeResult_29 rfl ?_
      refine z_iconst X d_Rul_takeResult_30 (v := 1) (by decide) ?_
      refine z_icmp_eq X 45 d_Rul_takeResult_31 (by decide) (fun h31 => ?_) (fun h31 => ?_)
      · skip
        refine z_iconst X d_Rul_takeResult_45 (v := 0) (by decide) ?_
        refine z_putP X t_Rul ty_Rul n_Rul d_Rul_takeResult_46 hP 0 rfl cl_Rul in_Rul 7 (by decide) fl_Rul_31 rfl rfl rfl rfl rfl (Nat.le_of_ble_eq_true rfl) (fun hP => ?_)
        have hF := hF.by (by simp) hP
        exact z_vret X d_Rul_takeResult_49 ⟨rfl, rfl, hP.eq (by
    clear hP hF
    cases an <;> first | exact absurd h20 h31 | exact absurd h31 h20 | exact absurd h38 (by decide) | exact absurd rfl h38 | (subst h5; simp [ruA, ruM, ruF, zb, h20]; done) | (subst h5; subst h20; simp [ruA, ruM, ruF, zb]; done) | (subst h20; simp [ruA, ruM, ruF, zb, h5]; done) | (simp [ruA, ruM, ruF, zb, h5, h20]; done)), hF⟩
      · skip
        refine z_aload_n X d_Rul_takeResult_34 rfl ?_
        refine z_get X d_Rul_takeResult_35 (hP.lo 0 rfl) (hP.at 0 rfl) cl_Rul in_Rul 6 (by decide) fl_Rul_28 rfl rfl ?_
        refine z_if_ne X 45 d_Rul_takeResult_38 (by decide) (fun h38 => ?_) (fun h38 => ?_)
        · skip
          refine z_iconst X d_Rul_takeResult_45 (v := 0) (by decide) ?_
          refine z_putP X t_Rul ty_Rul n_Rul d_Rul_takeResult_46 hP 0 rfl cl_Rul in_Rul 7 (by decide) fl_Rul_31 rfl rfl rfl rfl rfl (Nat.le_of_ble_eq_true rfl) (fun hP => ?_)
          have hF := hF.by (by simp) hP
          exact z_vret X d_Rul_takeResult_49 ⟨rfl, rfl, hP.eq (by
    clear hP hF
    cases an <;> first | exact absurd h20 h31 | exact absurd h31 h20 | exact absurd h38 (by decide) | exact absurd rfl h38 | (subst h5; simp [ruA, ruM, ruF, zb, h20]; done) | (subst h5; subst h20; simp [ruA, ruM, ruF, zb]; done) | (subst h20; simp [ruA, ruM, ruF, zb, h5]; done) | (simp [ruA, ruM, ruF, zb, h5, h20]; done)), hF⟩
        · skip
          refine z_iconst X d_Rul_takeResult_41 (v := 1) (by decide) ?_
          refine z_goto X 46 d_Rul_takeResult_42 (by decide) ?_
          refine z_putP X t_Rul ty_Rul n_Rul d_Rul_takeResult_46 hP 0 rfl cl_Rul in_Rul 7 (by decide) fl_Rul_31 rfl rfl rfl rfl rfl (Nat.le_of_ble_eq_true rfl) (fun hP => ?_)
          have hF := hF.by (by simp) hP
          exact z_vret X d_Rul_takeResult_49 ⟨rfl, rfl, hP.eq (by
    clear hP hF
    cases an <;> first | exact absurd h20 h31 | exact absurd h31 h20 | exact absurd h38 (by decide) | exact absurd rfl h38 | (subst h5; simp [ruA, ruM, ruF, zb, h20]; done) | (subst h5; subst h20; simp [ruA, ruM, ruF, zb]; done) | (subst h20; simp [ruA, ruM, ruF, zb, h5]; done) | (simp [ruA, ruM, ruF, zb, h5, h20]; done)), hF⟩
    · skip
      refine z_aload_n X d_Rul_takeResult_23 rfl ?_
      refine z_iconst X d_Rul_takeResult_24 (v := 1) (by decide) ?_
      refine z_putP X t_Rul ty_Rul n_Rul d_Rul_takeResult_25 hP 0 rfl cl_Rul in_Rul 5 (by decide) fl_Rul_25 rfl rfl rfl rfl rfl (Nat.le_of_ble_eq_true rfl) (fun hP => ?_)
      have hF := hF.by (by simp) hP
      refine z_aload_n X d_Rul_takeResult_28 rfl ?_
      refine z_iload_n X d_Rul_takeResult_29 rfl ?_
      refine z_iconst X d_Rul_takeResult_30 (v := 1) (by decide) ?_
      refine z_icmp_eq X 45 d_Rul_takeResult_31 (by decide) (fun h31 => ?_) (fun h31 => ?_)
      · skip
        refine z_iconst X d_Rul_takeResult_45 (v := 0) (by decide) ?_
        refine z_putP X t_Rul ty_Rul n_Rul d_Rul_takeResult_46 hP 0 rfl cl_Rul in_Rul 7 (by decide) fl_Rul_31 rfl rfl rfl rfl rfl (Nat.le_of_ble_eq_true rfl) (fun hP => ?_)
        have hF := hF.by (by simp) hP
        exact z_vret X d_Rul_takeResult_49 ⟨rfl, rfl, hP.eq (by
    clear hP hF
    cases an <;> first | exact absurd h20 h31 | exact absurd h31 h20 | exact absurd h38 (by decide) | exact absurd rfl h38 | (subst h5; simp [ruA, ruM, ruF, zb, h20]; done) | (subst h5; subst h20; simp [ruA, ruM, ruF, zb]; done) | (subst h20; simp [ruA, ruM, ruF, zb, h5]; done) | (simp [ruA, ruM, ruF, zb, h5, h20]; done)), hF⟩
      · skip
        refine z_aload_n X d_Rul_takeResult_34 rfl ?_
        refine z_get X d_Rul_takeResult_35 (hP.lo 0 rfl) (hP.at 0 rfl) cl_Rul in_Rul 6 (by decide) fl_Rul_28 rfl rfl ?_
        refine z_if_ne X 45 d_Rul_takeResult_38 (by decide) (fun h38 => ?_) (fun h38 => ?_)
        · skip
          refine z_iconst X d_Rul_takeResult_45 (v := 0) (by decide) ?_
          refine z_putP X t_Rul ty_Rul n_Rul d_Rul_takeResult_46 hP 0 rfl cl_Rul in_Rul 7 (by decide) fl_Rul_31 rfl rfl rfl rfl rfl (Nat.le_of_ble_eq_true rfl) (fun hP => ?_)
          have hF := hF.by (by simp) hP
          exact z_vret X d_Rul_takeResult_49 ⟨rfl, rfl, hP.eq (by
    clear hP hF
    cases an <;> first | exact absurd h20 h31 | exact absurd h31 h20 | exact absurd h38 (by decide) | exact absurd rfl h38 | (subst h5; simp [ruA, ruM, ruF, zb, h20]; done) | (subst h5; subst h20; simp [ruA, ruM, ruF, zb]; done) | (subst h20; simp [ruA, ruM, ruF, zb, h5]; done) | (simp [ruA, ruM, ruF, zb, h5, h20]; done)), hF⟩
        · skip
          refine z_iconst X d_Rul_takeResult_41 (v := 1) (by decide) ?_
          refine z_goto X 46 d_Rul_takeResult_42 (by decide) ?_
          refine z_putP X t_Rul ty_Rul n_Rul d_Rul_takeResult_46 hP 0 rfl cl_Rul in_Rul 7 (by decide) fl_Rul_31 rfl rfl rfl rfl rfl (Nat.le_of_ble_eq_true rfl) (fun hP => ?_)
          have hF := hF.by (by simp) hP
          exact z_vret X d_Rul_takeResult_49 ⟨rfl, rfl, hP.eq (by
    clear hP hF
    cases an <;> first | exact absurd h20 h31 | exact absurd h31 h20 | exact absurd h38 (by decide) | exact absurd rfl h38 | (subst h5; simp [ruA, ruM, ruF, zb, h20]; done) | (subst h5; subst h20; simp [ruA, ruM, ruF, zb]; done) | (subst h20; simp [ruA, ruM, ruF, zb, h5]; done) | (simp [ruA, ruM, ruF, zb, h5, h20]; done)), hF⟩
  · skip
    refine z_aload_n X d_Rul_takeResult_8 rfl ?_
    refine z_iconst X d_Rul_takeResult_9 (v := 0) (by decide) ?_
    refine z_putP X t_Rul ty_Rul n_Rul d_Rul_takeResult_10 hP 0 rfl cl_Rul in_Rul 6 (by decide) fl_Rul_28 rfl rfl rfl rfl rfl (Nat.le_of_ble_eq_true rfl) (fun hP => ?_)
    have hF := hF.by (by simp) hP
    refine z_aload_n X d_Rul_takeResult_13 rfl ?_
    refine z_iload_n X d_Rul_takeResult_14 rfl ?_
    refine z_putP X t_Rul ty_Rul n_Rul d_Rul_takeResult_15 hP 0 rfl cl_Rul in_Rul 4 (by decide) fl_Rul_22 rfl rfl rfl rfl rfl (Nat.le_of_ble_eq_true rfl) (fun hP => ?_)
    have hF := hF.by (by simp) hP
    refine z_iload_n X d_Rul_takeResult_18 rfl ?_
    refine z_iconst X d_Rul_takeResult_19 (v := 1) (by decide) ?_
    refine z_icmp_ne X 28 d_Rul_takeResult_20 (by decide) (fun h20 => ?_) (fun h20 => ?_)
    · skip
      refine z_aload_n X d_Rul_takeResult_28 rfl ?_
      refine z_iload_n X d_Rul_takeResult_29 rfl ?_
      refine z_iconst X d_Rul_takeResult_30 (v := 1) (by decide) ?_
      refine z_icmp_eq X 45 d_Rul_takeResult_31 (by decide) (fun h31 => ?_) (fun h31 => ?_)
      · skip
        refine z_iconst X d_Rul_takeResult_45 (v := 0) (by decide) ?_
        refine z_putP X t_Rul ty_Rul n_Rul d_Rul_takeResult_46 hP 0 rfl cl_Rul in_Rul 7 (by decide) fl_Rul_31 rfl rfl rfl rfl rfl (Nat.le_of_ble_eq_true rfl) (fun hP => ?_)
        have hF := hF.by (by simp) hP
        exact z_vret X d_Rul_takeResult_49 ⟨rfl, rfl, hP.eq (by
    clear hP hF
    cases an <;> first | exact absurd h20 h31 | exact absurd h31 h20 | exact absurd h38 (by decide) | exact absurd rfl h38 | (subst h5; simp [ruA, ruM, ruF, zb, h20]; done) | (subst h5; subst h20; simp [ruA, ruM, ruF, zb]; done) | (subst h20; simp [ruA, ruM, ruF, zb, h5]; done) | (simp [ruA, ruM, ruF, zb, h5, h20]; done)), hF⟩
      · skip
        refine z_aload_n X d_Rul_takeResult_34 rfl ?_
        refine z_get X d_Rul_takeResult_35 (hP.lo 0 rfl) (hP.at 0 rfl) cl_Rul in_Rul 6 (by decide) fl_Rul_28 rfl rfl ?_
        refine z_if_ne X 45 d_Rul_takeResult_38 (by decide) (fun h38 => ?_) (fun h38 => ?_)
        · skip
          refine z_iconst X d_Rul_takeResult_45 (v := 0) (by decide) ?_
          refine z_putP X t_Rul ty_Rul n_Rul d_Rul_takeResult_46 hP 0 rfl cl_Rul in_Rul 7 (by decide) fl_Rul_31 rfl rfl rfl rfl rfl (Nat.le_of_ble_eq_true rfl) (fun hP => ?_)
          have hF := hF.by (by simp) hP
          exact z_vret X d_Rul_takeResult_49 ⟨rfl, rfl, hP.eq (by
    clear hP hF
    cases an <;> first | exact absurd h20 h31 | exact absurd h31 h20 | exact absurd h38 (by decide) | exact absurd rfl h38 | (subst h5; simp [ruA, ruM, ruF, zb, h20]; done) | (subst h5; subst h20; simp [ruA, ruM, ruF, zb]; done) | (subst h20; simp [ruA, ruM, ruF, zb, h5]; done) | (simp [ruA, ruM, ruF, zb, h5, h20]; done)), hF⟩
        · skip
          refine z_iconst X d_Rul_takeResult_41 (v := 1) (by decide) ?_
          refine z_goto X 46 d_Rul_takeResult_42 (by decide) ?_
          refine z_putP X t_Rul ty_Rul n_Rul d_Rul_takeResult_46 hP 0 rfl cl_Rul in_Rul 7 (by decide) fl_Rul_31 rfl rfl rfl rfl rfl (Nat.le_of_ble_eq_true rfl) (fun hP => ?_)
          have hF := hF.by (by simp) hP
          exact z_vret X d_Rul_takeResult_49 ⟨rfl, rfl, hP.eq (by
    clear hP hF
    cases an <;> first | exact absurd h20 h31 | exact absurd h31 h20 | exact absurd h38 (by decide) | exact absurd rfl h38 | (subst h5; simp [ruA, ruM, ruF, zb, h20]; done) | (subst h5; subst h20; simp [ruA, ruM, ruF, zb]; done) | (subst h20; simp [ruA, ruM, ruF, zb, h5]; done) | (simp [ruA, ruM, ruF, zb, h5, h20]; done)), hF⟩
    · skip
      refine z_aload_n X d_Rul_takeResult_23 rfl ?_
      refine z_iconst X d_Rul_takeResult_24 (v := 1) (by decide) ?_
      refine z_putP X t_Rul ty_Rul n_Rul d_Rul_takeResult_25 hP 0 rfl cl_Rul in_Rul 5 (by decide) fl_Rul_25 rfl rfl rfl rfl rfl (Nat.le_of_ble_eq_true rfl) (fun hP => ?_)
      have hF := hF.by (by simp) hP
      refine z_aload_n X d_Rul_takeResult_28 rfl ?_
      refine z_iload_n X d_Rul_takeResult_29 rfl ?_
      refine z_iconst X d_Rul_takeResult_30 (v := 1) (by decide) ?_
      refine z_icmp_eq X 45 d_Rul_takeResult_31 (by decide) (fun h31 => ?_) (fun h31 => ?_)
      · skip
        refine z_iconst X d_Rul_takeResult_45 (v := 0) (by decide) ?_
        refine z_putP X t_Rul ty_Rul n_Rul d_Rul_takeResult_46 hP 0 rfl cl_Rul in_Rul 7 (by decide) fl_Rul_31 rfl rfl rfl rfl rfl (Nat.le_of_ble_eq_true rfl) (fun hP => ?_)
        have hF := hF.by (by simp) hP
        exact z_vret X d_Rul_takeResult_49 ⟨rfl, rfl, hP.eq (by
    clear hP hF
    cases an <;> first | exact absurd h20 h31 | exact absurd h31 h20 | exact absurd h38 (by decide) | exact absurd rfl h38 | (subst h5; simp [ruA, ruM, ruF, zb, h20]; done) | (subst h5; subst h20; simp [ruA, ruM, ruF, zb]; done) | (subst h20; simp [ruA, ruM, ruF, zb, h5]; done) | (simp [ruA, ruM, ruF, zb, h5, h20]; done)), hF⟩
      · skip
        refine z_aload_n X d_Rul_takeResult_34 rfl ?_
        refine z_get X d_Rul_takeResult_35 (hP.lo 0 rfl) (hP.at 0 rfl) cl_Rul in_Rul 6 (by decide) fl_Rul_28 rfl rfl ?_
        refine z_if_ne X 45 d_Rul_takeResult_38 (by decide) (fun h38 => ?_) (fun h38 => ?_)
        · skip
          refine z_iconst X d_Rul_takeResult_45 (v := 0) (by decide) ?_
          refine z_putP X t_Rul ty_Rul n_Rul d_Rul_takeResult_46 hP 0 rfl cl_Rul in_Rul 7 (by decide) fl_Rul_31 rfl rfl rfl rfl rfl (Nat.le_of_ble_eq_true rfl) (fun hP => ?_)
          have hF := hF.by (by simp) hP
          exact z_vret X d_Rul_takeResult_49 ⟨rfl, rfl, hP.eq (by
    clear hP hF
    cases an <;> first | exact absurd h20 h31 | exact absurd h31 h20 | exact absurd h38 (by decide) | exact absurd rfl h38 | (subst h5; simp [ruA, ruM, ruF, zb, h20]; done) | (subst h5; subst h20; simp [ruA, ruM, ruF, zb]; done) | (subst h20; simp [ruA, ruM, ruF, zb, h5]; done) | (simp [ruA, ruM, ruF, zb, h5, h20]; done)), hF⟩
        · skip
          refine z_iconst X d_Rul_takeResult_41 (v := 1) (by decide) ?_
          refine z_goto X 46 d_Rul_takeResult_42 (by decide) ?_
          refine z_putP X t_Rul ty_Rul n_Rul d_Rul_takeResult_46 hP 0 rfl cl_Rul in_Rul 7 (by decide) fl_Rul_31 rfl rfl rfl rfl rfl (Nat.le_of_ble_eq_true rfl) (fun hP => ?_)
          have hF := hF.by (by simp) hP
          exact z_vret X d_Rul_takeResult_49 ⟨rfl, rfl, hP.eq (by
    clear hP hF
    cases an <;> first | exact absurd h20 h31 | exact absurd h31 h20 | exact absurd h38 (by decide) | exact absurd rfl h38 | (subst h5; simp [ruA, ruM, ruF, zb, h20]; done) | (subst h5; subst h20; simp [ruA, ruM, ruF, zb]; done) | (subst h20; simp [ruA, ruM, ruF, zb, h5]; done) | (simp [ruA, ruM, ruF, zb, h5, h20]; done)), hF⟩
end
