abbrev df_Sgn : List Value := [.null, .int 0]
theorem nf_Sgn : ∀ j, j < 2 → defaultValue (t_Sgn j) = vp_V df_Sgn j := by
  intro j hj
  match j, hj with
  | 0, _ => rfl
  | 1, _ => rfl
  | j + 2, hj => omega
abbrev df_Tre : List Value := [.null, .null, .null, .int 0]
theorem nf_Tre : ∀ j, j < 4 → defaultValue (t_Tre j) = vp_V df_Tre j := by
  intro j hj
  match j, hj with
  | 0, _ => rfl
  | 1, _ => rfl
  | 2, _ => rfl
  | 3, _ => rfl
  | j + 4, hj => omega
abbrev df_Decl : List Value := [.null]
theorem nf_Decl : ∀ j, j < 1 → defaultValue (t_Decl j) = vp_V df_Decl j := by
  intro j hj
  match j, hj with
  | 0, _ => rfl
  | j + 1, hj => omega
abbrev df_Wrk : List Value := [.null, .null, .int 0]
theorem nf_Wrk : ∀ j, j < 3 → defaultValue (t_Wrk j) = vp_V df_Wrk j := by
  intro j hj
  match j, hj with
  | 0, _ => rfl
  | 1, _ => rfl
  | 2, _ => rfl
  | j + 3, hj => omega
abbrev df_Prt : List Value := [.null]
theorem nf_Prt : ∀ j, j < 1 → defaultValue (t_Prt j) = vp_V df_Prt j := by
  intro j hj
  match j, hj with
  | 0, _ => rfl
  | j + 1, hj => omega
abbrev df_Rdr : List Value := [.null, .null, .null, .null, .null, .int 0, .int 0, .int 0, .int 0, .int 0, .int 0, .int 0, .int 0, .int 0]
theorem nf_Rdr : ∀ j, j < 14 → defaultValue (t_Rdr j) = vp_V df_Rdr j := by
  intro j hj
  match j, hj with
  | 0, _ => rfl
  | 1, _ => rfl
  | 2, _ => rfl
  | 3, _ => rfl
  | 4, _ => rfl
  | 5, _ => rfl
  | 6, _ => rfl
  | 7, _ => rfl
  | 8, _ => rfl
  | 9, _ => rfl
  | 10, _ => rfl
  | 11, _ => rfl
  | 12, _ => rfl
  | 13, _ => rfl
  | j + 14, hj => omega
abbrev df_Rul : List Value := [.null, .int 0, .int 0, .int 0, .int 0, .int 0, .int 0, .int 0]
theorem nf_Rul : ∀ j, j < 8 → defaultValue (t_Rul j) = vp_V df_Rul j := by
  intro j hj
  match j, hj with
  | 0, _ => rfl
  | 1, _ => rfl
  | 2, _ => rfl
  | 3, _ => rfl
  | 4, _ => rfl
  | 5, _ => rfl
  | 6, _ => rfl
  | 7, _ => rfl
  | j + 8, hj => omega
abbrev df_Cls : List Value := [.null, .null, .null, .null, .int 0, .int 0, .int 0]
theorem nf_Cls : ∀ j, j < 7 → defaultValue (t_Cls j) = vp_V df_Cls j := by
  intro j hj
  match j, hj with
  | 0, _ => rfl
  | 1, _ => rfl
  | 2, _ => rfl
  | 3, _ => rfl
  | 4, _ => rfl
  | 5, _ => rfl
  | 6, _ => rfl
  | j + 7, hj => omega
abbrev df_Mod : List Value := [.int 0, .null, .int 0, .int 0, .int 0, .int 0, .null, .null, .null, .null, .null, .null, .null, .null, .null, .null, .null, .null, .null, .null, .null, .null, .null, .null, .int 0, .int 0, .int 0, .int 0, .null, .null, .int 0, .null, .null, .null, .null, .null, .int 0, .null]
theorem nf_Mod : ∀ j, j < 38 → defaultValue (t_Mod j) = vp_V df_Mod j := by
  intro j hj
  match j, hj with
  | 0, _ => rfl
  | 1, _ => rfl
  | 2, _ => rfl
  | 3, _ => rfl
  | 4, _ => rfl
  | 5, _ => rfl
  | 6, _ => rfl
  | 7, _ => rfl
  | 8, _ => rfl
  | 9, _ => rfl
  | 10, _ => rfl
  | 11, _ => rfl
  | 12, _ => rfl
  | 13, _ => rfl
  | 14, _ => rfl
  | 15, _ => rfl
  | 16, _ => rfl
  | 17, _ => rfl
  | 18, _ => rfl
  | 19, _ => rfl
  | 20, _ => rfl
  | 21, _ => rfl
  | 22, _ => rfl
  | 23, _ => rfl
  | 24, _ => rfl
  | 25, _ => rfl
  | 26, _ => rfl
  | 27, _ => rfl
  | 28, _ => rfl
  | 29, _ => rfl
  | 30, _ => rfl
  | 31, _ => rfl
  | 32, _ => rfl
  | 33, _ => rfl
  | 34, _ => rfl
  | 35, _ => rfl
  | 36, _ => rfl
  | 37, _ => rfl
  | j + 38, hj => omega
section
variable {l : Launch} {D : va_G} {ck : Nat → ClassId} {ad : (Nat → Nat) × (Nat → Nat)} {b0 N : Nat} {f : Nat → va_E}
theorem d_Sgn_init_0 : decode prog_6_method_1_code 0 = .ok (.aload_n 0, 1) := by decide +kernel
theorem d_Sgn_init_1 : decode prog_6_method_1_code 1 = .ok (.invokespecial 3, 3) := by decide +kernel
theorem d_Sgn_init_4 : decode prog_6_method_1_code 4 = .ok (.aload_n 0, 1) := by decide +kernel
theorem d_Sgn_init_5 : decode prog_6_method_1_code 5 = .ok (.sipush 200, 3) := by decide +kernel
theorem d_Sgn_init_8 : decode prog_6_method_1_code 8 = .ok (.newarray .int, 2) := by decide +kernel
theorem d_Sgn_init_10 : decode prog_6_method_1_code 10 = .ok (.putfield 9, 3) := by decide +kernel
theorem d_Sgn_init_13 : decode prog_6_method_1_code 13 = .ok (.aload_n 0, 1) := by decide +kernel
theorem d_Sgn_init_14 : decode prog_6_method_1_code 14 = .ok (.iconst 0, 1) := by decide +kernel
theorem d_Sgn_init_15 : decode prog_6_method_1_code 15 = .ok (.putfield 15, 3) := by decide +kernel
theorem d_Sgn_init_18 : decode prog_6_method_1_code 18 = .ok (.return_, 1) := by decide +kernel
set_option maxHeartbeats 4000000 in
set_option maxRecDepth 100000 in
theorem c_Sgn_init {a : Nat} (hP : zP b0 N f [(a, .inr (4, df_Sgn))]) : zK l D ck ad b0 y_Sgn_init prog_6_method_1_code 1 (none) 1 1 200 [.ref a] N f (fun r N' f' => r = none ∧ N' = N + 1 ∧ zP b0 (N + 1) f' [(a, oSgn N 0), (N, aI ck 200 (fun _ => 0))] ∧ zF N f f' [a]) := by
  refine zM.of zG_w (by decide) (Nat.le_of_ble_eq_true rfl) ?_
  intro zp ze zst zm zar zbe zme zc X hnm hb0
  have hF : zF N f f [a] := zF.rf
  refine z_aload_n X d_Sgn_init_0 rfl ?_
  refine z_objInit X d_Sgn_init_1 ml_Sgn_3 im_Object_init mc_objInit (Nat.le_of_ble_eq_true rfl) (Nat.le_of_ble_eq_true rfl) ?_
  refine z_aload_n X d_Sgn_init_4 rfl ?_
  refine z_sipush X d_Sgn_init_5 (v := 200) (by decide) ?_
  refine z_newaiP X rfl d_Sgn_init_8 ac_int (t0 := 0) rfl (by decide) rfl (Nat.le_of_ble_eq_true rfl) (Nat.le_of_ble_eq_true rfl) (Nat.le_of_ble_eq_true rfl) hP (by omega) (fun hP => ?_)
  have hF := hF.by2 (by omega) hP
  refine z_putFP X t_Sgn ty_Sgn n_Sgn d_Sgn_init_10 hP 0 rfl cl_Sgn in_Sgn 0 (by decide) fl_Sgn_9 rfl rfl hnm rfl rfl rfl rfl (Nat.le_of_ble_eq_true rfl) (fun hP => ?_)
  have hF := hF.by (by simp) hP
  refine z_aload_n X d_Sgn_init_13 rfl ?_
  refine z_iconst X d_Sgn_init_14 (v := 0) (by decide) ?_
  refine z_putP X t_Sgn ty_Sgn n_Sgn d_Sgn_init_15 hP 0 rfl cl_Sgn in_Sgn 1 (by decide) fl_Sgn_15 rfl rfl rfl rfl rfl (Nat.le_of_ble_eq_true rfl) (fun hP => ?_)
  have hF := hF.by (by simp) hP
  refine zW.widen (k := 1) (n := 200) (Nat.le_of_ble_eq_true rfl) (Nat.le_of_ble_eq_true rfl) ?_
  exact z_vret X d_Sgn_init_18 ⟨rfl, rfl, hP, hF⟩
theorem d_Tre_init_0 : decode prog_7_method_1_code 0 = .ok (.aload_n 0, 1) := by decide +kernel
theorem d_Tre_init_1 : decode prog_7_method_1_code 1 = .ok (.invokespecial 3, 3) := by decide +kernel
theorem d_Tre_init_4 : decode prog_7_method_1_code 4 = .ok (.aload_n 0, 1) := by decide +kernel
theorem d_Tre_init_5 : decode prog_7_method_1_code 5 = .ok (.bipush 40, 2) := by decide +kernel
theorem d_Tre_init_7 : decode prog_7_method_1_code 7 = .ok (.newarray .int, 2) := by decide +kernel
theorem d_Tre_init_9 : decode prog_7_method_1_code 9 = .ok (.putfield 9, 3) := by decide +kernel
theorem d_Tre_init_12 : decode prog_7_method_1_code 12 = .ok (.aload_n 0, 1) := by decide +kernel
theorem d_Tre_init_13 : decode prog_7_method_1_code 13 = .ok (.bipush 40, 2) := by decide +kernel
theorem d_Tre_init_15 : decode prog_7_method_1_code 15 = .ok (.newarray .int, 2) := by decide +kernel
theorem d_Tre_init_17 : decode prog_7_method_1_code 17 = .ok (.putfield 15, 3) := by decide +kernel
theorem d_Tre_init_20 : decode prog_7_method_1_code 20 = .ok (.aload_n 0, 1) := by decide +kernel
theorem d_Tre_init_21 : decode prog_7_method_1_code 21 = .ok (.bipush 40, 2) := by decide +kernel
theorem d_Tre_init_23 : decode prog_7_method_1_code 23 = .ok (.newarray .int, 2) := by decide +kernel
theorem d_Tre_init_25 : decode prog_7_method_1_code 25 = .ok (.putfield 18, 3) := by decide +kernel
theorem d_Tre_init_28 : decode prog_7_method_1_code 28 = .ok (.aload_n 0, 1) := by decide +kernel
theorem d_Tre_init_29 : decode prog_7_method_1_code 29 = .ok (.iconst 0, 1) := by decide +kernel
theorem d_Tre_init_30 : decode prog_7_method_1_code 30 = .ok (.putfield 21, 3) := by decide +kernel
theorem d_Tre_init_33 : decode prog_7_method_1_code 33 = .ok (.return_, 1) := by decide +kernel
set_option maxHeartbeats 4000000 in
set_option maxRecDepth 100000 in
theorem c_Tre_init {a : Nat} (hP : zP b0 N f [(a, .inr (5, df_Tre))]) : zK l D ck ad b0 y_Tre_init prog_7_method_1_code 1 (none) 1 3 120 [.ref a] N f (fun r N' f' => r = none ∧ N' = N + 3 ∧ zP b0 (N + 3) f' [(a, oTre N (N + 1) (N + 2) 0), (N, aI ck 40 (fun _ => 0)), (N + 1, aI ck 40 (fun _ => 0)), (N + 2, aI ck 40 (fun _ => 0))] ∧ zF N f f' [a]) := by
  refine zM.of zG_w (by decide) (Nat.le_of_ble_eq_true rfl) ?_
  intro zp ze zst zm zar zbe zme zc X hnm hb0
  have hF : zF N f f [a] := zF.rf
  refine z_aload_n X d_Tre_init_0 rfl ?_
  refine z_objInit X d_Tre_init_1 ml_Tre_3 im_Object_init mc_objInit (Nat.le_of_ble_eq_true rfl) (Nat.le_of_ble_eq_true rfl) ?_
  refine z_aload_n X d_Tre_init_4 rfl ?_
  refine z_bipush X d_Tre_init_5 (v := 40) (by decide) ?_
  refine z_newaiP X rfl d_Tre_init_7 ac_int (t0 := 0) rfl (by decide) rfl (Nat.le_of_ble_eq_true rfl) (Nat.le_of_ble_eq_true rfl) (Nat.le_of_ble_eq_true rfl) hP (by omega) (fun hP => ?_)
  have hF := hF.by2 (by omega) hP
  refine z_putFP X t_Tre ty_Tre n_Tre d_Tre_init_9 hP 0 rfl cl_Tre in_Tre 0 (by decide) fl_Tre_9 rfl rfl hnm rfl rfl rfl rfl (Nat.le_of_ble_eq_true rfl) (fun hP => ?_)
  have hF := hF.by (by simp) hP
  refine z_aload_n X d_Tre_init_12 rfl ?_
  refine z_bipush X d_Tre_init_13 (v := 40) (by decide) ?_
  refine z_newaiP X rfl d_Tre_init_15 ac_int (t0 := 0) rfl (by decide) rfl (Nat.le_of_ble_eq_true rfl) (Nat.le_of_ble_eq_true rfl) (Nat.le_of_ble_eq_true rfl) hP (by omega) (fun hP => ?_)
  have hF := hF.by2 (by omega) hP
  refine z_putFP X t_Tre ty_Tre n_Tre d_Tre_init_17 hP 0 rfl cl_Tre in_Tre 1 (by decide) fl_Tre_15 rfl rfl hnm rfl rfl rfl rfl (Nat.le_of_ble_eq_true rfl) (fun hP => ?_)
  have hF := hF.by (by simp) hP
  refine z_aload_n X d_Tre_init_20 rfl ?_
  refine z_bipush X d_Tre_init_21 (v := 40) (by decide) ?_
  refine z_newaiP X rfl d_Tre_init_23 ac_int (t0 := 0) rfl (by decide) rfl (Nat.le_of_ble_eq_true rfl) (Nat.le_of_ble_eq_true rfl) (Nat.le_of_ble_eq_true rfl) hP (by omega) (fun hP => ?_)
  have hF := hF.by2 (by omega) hP
  refine z_putFP X t_Tre ty_Tre n_Tre d_Tre_init_25 hP 0 rfl cl_Tre in_Tre 2 (by decide) fl_Tre_18 rfl rfl hnm rfl rfl rfl rfl (Nat.le_of_ble_eq_true rfl) (fun hP => ?_)
  have hF := hF.by (by simp) hP
  refine z_aload_n X d_Tre_init_28 rfl ?_
  refine z_iconst X d_Tre_init_29 (v := 0) (by decide) ?_
  refine z_putP X t_Tre ty_Tre n_Tre d_Tre_init_30 hP 0 rfl cl_Tre in_Tre 3 (by decide) fl_Tre_21 rfl rfl rfl rfl rfl (Nat.le_of_ble_eq_true rfl) (fun hP => ?_)
  have hF := hF.by (by simp) hP
  refine zW.widen (k := 3) (n := 120) (Nat.le_of_ble_eq_true rfl) (Nat.le_of_ble_eq_true rfl) ?_
  exact z_vret X d_Tre_init_33 ⟨rfl, rfl, hP, hF⟩
theorem d_Decl_init_0 : decode prog_2_method_1_code 0 = .ok (.aload_n 0, 1) := by decide +kernel
theorem d_Decl_init_1 : decode prog_2_method_1_code 1 = .ok (.invokespecial 3, 3) := by decide +kernel
theorem d_Decl_init_4 : decode prog_2_method_1_code 4 = .ok (.aload_n 0, 1) := by decide +kernel
theorem d_Decl_init_5 : decode prog_2_method_1_code 5 = .ok (.sipush 200, 3) := by decide +kernel
theorem d_Decl_init_8 : decode prog_2_method_1_code 8 = .ok (.newarray .int, 2) := by decide +kernel
theorem d_Decl_init_10 : decode prog_2_method_1_code 10 = .ok (.putfield 9, 3) := by decide +kernel
theorem d_Decl_init_13 : decode prog_2_method_1_code 13 = .ok (.aload_n 0, 1) := by decide +kernel
theorem d_Decl_init_14 : decode prog_2_method_1_code 14 = .ok (.getfield 9, 3) := by decide +kernel
theorem d_Decl_init_17 : decode prog_2_method_1_code 17 = .ok (.ldc 15, 2) := by decide +kernel
theorem d_Decl_init_19 : decode prog_2_method_1_code 19 = .ok (.invokestatic 16, 3) := by decide +kernel
theorem d_Decl_init_22 : decode prog_2_method_1_code 22 = .ok (.return_, 1) := by decide +kernel
set_option maxHeartbeats 4000000 in
set_option maxRecDepth 100000 in
theorem c_Decl_init {a : Nat} (hP : zP b0 N f [(a, .inr (0, df_Decl))]) : zK l D ck ad b0 y_Decl_init prog_2_method_1_code 1 (none) 1 1 200 [.ref a] N f (fun r N' f' => r = none ∧ N' = N + 1 ∧ zP b0 (N + 1) f' [(a, .inr (0, [.ref N])), (N, aI ck 200 (fun _ => -2147483648))] ∧ zF N f f' [a]) := by
  refine zM.of zG_w (by decide) (Nat.le_of_ble_eq_true rfl) ?_
  intro zp ze zst zm zar zbe zme zc X hnm hb0
  have hF : zF N f f [a] := zF.rf
  refine z_aload_n X d_Decl_init_0 rfl ?_
  refine z_objInit X d_Decl_init_1 ml_Decl_3 im_Object_init mc_objInit (Nat.le_of_ble_eq_true rfl) (Nat.le_of_ble_eq_true rfl) ?_
  refine z_aload_n X d_Decl_init_4 rfl ?_
  refine z_sipush X d_Decl_init_5 (v := 200) (by decide) ?_
  refine z_newaiP X rfl d_Decl_init_8 ac_int (t0 := 0) rfl (by decide) rfl (Nat.le_of_ble_eq_true rfl) (Nat.le_of_ble_eq_true rfl) (Nat.le_of_ble_eq_true rfl) hP (by omega) (fun hP => ?_)
  have hF := hF.by2 (by omega) hP
  refine z_putFP X t_Decl ty_Decl n_Decl d_Decl_init_10 hP 0 rfl cl_Decl in_Decl 0 (by decide) fl_Decl_9 rfl rfl hnm rfl rfl rfl rfl (Nat.le_of_ble_eq_true rfl) (fun hP => ?_)
  have hF := hF.by (by simp) hP
  refine z_aload_n X d_Decl_init_13 rfl ?_
  refine z_get X d_Decl_init_14 (hP.lo 0 rfl) (hP.at 0 rfl) cl_Decl in_Decl 0 (by decide) fl_Decl_9 rfl rfl ?_
  refine z_ldc X d_Decl_init_17 k_Decl_15 ?_
  refine z_callS X zG_ok (c_Arrays_fill (n := 200) (hP.sub [1] (by decide) rfl) (by omega)) d_Decl_init_19 ⟨(z_cb (n := 2) X.2.2.2.2.1 ml_Decl_16 mc_Arrays_fill ini_Arrays (by decide +kernel) rfl rfl ⟨Nat.le_of_ble_eq_true rfl, Nat.le_of_ble_eq_true rfl⟩), X.2.2.2.2.1 _ st_Arrays_fill⟩ rfl rfl (Nat.le_of_ble_eq_true rfl) ⟨Nat.le_of_ble_eq_true rfl, Nat.le_of_ble_eq_true rfl⟩ (fun r N1 f1 hp hN1 => ?_)
  obtain ⟨rfl, rfl, rfl⟩ := hp
  have hP := hP.put 1 rfl (aI ck 200 (fun _ => -2147483648))
  have hF := hF.push (N := N) (by omega) (aI ck 200 (fun _ => -2147483648))
  refine zW.widen (k := 1) (n := 200) (Nat.le_of_ble_eq_true rfl) (Nat.le_of_ble_eq_true rfl) ?_
  exact z_vret X d_Decl_init_22 ⟨rfl, rfl, hP, hF⟩
theorem d_Prt_init_0 : decode prog_3_method_1_code 0 = .ok (.aload_n 0, 1) := by decide +kernel
theorem d_Prt_init_1 : decode prog_3_method_1_code 1 = .ok (.invokespecial 3, 3) := by decide +kernel
theorem d_Prt_init_4 : decode prog_3_method_1_code 4 = .ok (.aload_n 0, 1) := by decide +kernel
theorem d_Prt_init_5 : decode prog_3_method_1_code 5 = .ok (.new 9, 3) := by decide +kernel
theorem d_Prt_init_8 : decode prog_3_method_1_code 8 = .ok (.dup, 1) := by decide +kernel
theorem d_Prt_init_9 : decode prog_3_method_1_code 9 = .ok (.invokespecial 11, 3) := by decide +kernel
theorem d_Prt_init_12 : decode prog_3_method_1_code 12 = .ok (.putfield 12, 3) := by decide +kernel
theorem d_Prt_init_15 : decode prog_3_method_1_code 15 = .ok (.return_, 1) := by decide +kernel
set_option maxHeartbeats 4000000 in
set_option maxRecDepth 100000 in
theorem c_Prt_init {a : Nat} (hP : zP b0 N f [(a, .inr (1, df_Prt))]) : zK l D ck ad b0 y_Prt_init prog_3_method_1_code 1 (none) 2 2 202 [.ref a] N f (fun r N' f' => r = none ∧ N' = N + 2 ∧ zP b0 (N + 2) f' [(a, .inr (1, [.ref N])), (N, oSgn (N + 1) 0), (N + 1, aI ck 200 (fun _ => 0))] ∧ zF N f f' [a]) := by
  refine zM.of zG_w (by decide) (Nat.le_of_ble_eq_true rfl) ?_
  intro zp ze zst zm zar zbe zme zc X hnm hb0
  have hF : zF N f f [a] := zF.rf
  refine z_aload_n X d_Prt_init_0 rfl ?_
  refine z_objInit X d_Prt_init_1 ml_Prt_3 im_Object_init mc_objInit (Nat.le_of_ble_eq_true rfl) (Nat.le_of_ble_eq_true rfl) ?_
  refine z_aload_n X d_Prt_init_4 rfl ?_
  refine z_newP X t_Sgn ty_Sgn d_Prt_init_5 cl_Sgn in_Sgn kl_Prt_9 ins_Sgn ini_Sgn nf_Sgn (Nat.le_of_ble_eq_true rfl) (Nat.le_of_ble_eq_true rfl) hP (by omega) (fun hP => ?_)
  have hF := hF.by2 (by omega) hP
  refine z_dup X d_Prt_init_8 rfl ?_
  refine z_callIN (ret' := none) X zG_ok (c_Sgn_init (hP.sub [1] (by decide) rfl)) d_Prt_init_9 ⟨(z_cbN (n := 0) X.2.2.2.2.1 (zG_n X.2.2.2.2.2.1 ns_6) mc_Sgn_init ini_Sgn (by decide +kernel) rfl rfl ⟨Nat.le_of_ble_eq_true rfl, Nat.le_of_ble_eq_true rfl⟩), rfl, X.2.2.2.2.1 _ im_Sgn_init⟩ rfl rfl (Nat.le_of_ble_eq_true rfl) ⟨Nat.le_of_ble_eq_true rfl, Nat.le_of_ble_eq_true rfl⟩ (fun r N1 f1 hp hN1 => ?_)
  obtain ⟨rfl, rfl, hP1, hF1⟩ := hp
  have hP := (hP.jn [1] [0] rfl (by decide) (by simp) (by decide) hF1 (by omega) hP1 (fun a ha => by simp at ha ⊢; omega))
  have hF := hF.join hF1 (by omega) (fun b hb => by simp at hb ⊢; omega)
  refine z_putFP X t_Prt ty_Prt n_Prt d_Prt_init_12 hP 0 rfl cl_Prt in_Prt 0 (by decide) fl_Prt_12 rfl rfl hnm rfl rfl rfl rfl (Nat.le_of_ble_eq_true rfl) (fun hP => ?_)
  have hF := hF.by (by simp) hP
  refine zW.widen (k := 2) (n := 202) (Nat.le_of_ble_eq_true rfl) (Nat.le_of_ble_eq_true rfl) ?_
  exact z_vret X d_Prt_init_15 ⟨rfl, rfl, hP, hF⟩
theorem d_Wrk_init_0 : decode prog_8_method_1_code 0 = .ok (.aload_n 0, 1) := by decide +kernel
theorem d_Wrk_init_1 : decode prog_8_method_1_code 1 = .ok (.invokespecial 3, 3) := by decide +kernel
theorem d_Wrk_init_4 : decode prog_8_method_1_code 4 = .ok (.aload_n 0, 1) := by decide +kernel
theorem d_Wrk_init_5 : decode prog_8_method_1_code 5 = .ok (.new 9, 3) := by decide +kernel
theorem d_Wrk_init_8 : decode prog_8_method_1_code 8 = .ok (.dup, 1) := by decide +kernel
theorem d_Wrk_init_9 : decode prog_8_method_1_code 9 = .ok (.invokespecial 11, 3) := by decide +kernel
theorem d_Wrk_init_12 : decode prog_8_method_1_code 12 = .ok (.putfield 12, 3) := by decide +kernel
theorem d_Wrk_init_15 : decode prog_8_method_1_code 15 = .ok (.aload_n 0, 1) := by decide +kernel
theorem d_Wrk_init_16 : decode prog_8_method_1_code 16 = .ok (.sipush 400, 3) := by decide +kernel
theorem d_Wrk_init_19 : decode prog_8_method_1_code 19 = .ok (.newarray .int, 2) := by decide +kernel
theorem d_Wrk_init_21 : decode prog_8_method_1_code 21 = .ok (.putfield 18, 3) := by decide +kernel
theorem d_Wrk_init_24 : decode prog_8_method_1_code 24 = .ok (.return_, 1) := by decide +kernel
set_option maxHeartbeats 4000000 in
set_option maxRecDepth 100000 in
theorem c_Wrk_init {a : Nat} (hP : zP b0 N f [(a, .inr (6, df_Wrk))]) : zK l D ck ad b0 y_Wrk_init prog_8_method_1_code 1 (none) 2 3 601 [.ref a] N f (fun r N' f' => r = none ∧ N' = N + 3 ∧ zP b0 (N + 3) f' [(a, .inr (6, [.ref N, .ref (N + 2), .int 0])), (N, .inr (0, [.ref (N + 1)])), (N + 1, aI ck 200 (fun _ => -2147483648)), (N + 2, aI ck 400 (fun _ => 0))] ∧ zF N f f' [a]) := by
  refine zM.of zG_w (by decide) (Nat.le_of_ble_eq_true rfl) ?_
  intro zp ze zst zm zar zbe zme zc X hnm hb0
  have hF : zF N f f [a] := zF.rf
  refine z_aload_n X d_Wrk_init_0 rfl ?_
  refine z_objInit X d_Wrk_init_1 ml_Wrk_3 im_Object_init mc_objInit (Nat.le_of_ble_eq_true rfl) (Nat.le_of_ble_eq_true rfl) ?_
  refine z_aload_n X d_Wrk_init_4 rfl ?_
  refine z_newP X t_Decl ty_Decl d_Wrk_init_5 cl_Decl in_Decl kl_Wrk_9 ins_Decl ini_Decl nf_Decl (Nat.le_of_ble_eq_true rfl) (Nat.le_of_ble_eq_true rfl) hP (by omega) (fun hP => ?_)
  have hF := hF.by2 (by omega) hP
  refine z_dup X d_Wrk_init_8 rfl ?_
  refine z_callI (ret' := none) X zG_ok (c_Decl_init (hP.sub [1] (by decide) rfl)) d_Wrk_init_9 ⟨(z_cb (n := 0) X.2.2.2.2.1 ml_Wrk_11 mc_Decl_init ini_Decl (by decide +kernel) rfl rfl ⟨Nat.le_of_ble_eq_true rfl, Nat.le_of_ble_eq_true rfl⟩), rfl, X.2.2.2.2.1 _ im_Decl_init⟩ rfl rfl (Nat.le_of_ble_eq_true rfl) ⟨Nat.le_of_ble_eq_true rfl, Nat.le_of_ble_eq_true rfl⟩ (fun r N1 f1 hp hN1 => ?_)
  obtain ⟨rfl, rfl, hP1, hF1⟩ := hp
  have hP := (hP.jn [1] [0] rfl (by decide) (by simp) (by decide) hF1 (by omega) hP1 (fun a ha => by simp at ha ⊢; omega))
  have hF := hF.join hF1 (by omega) (fun b hb => by simp at hb ⊢; omega)
  refine z_putFP X t_Wrk ty_Wrk n_Wrk d_Wrk_init_12 hP 0 rfl cl_Wrk in_Wrk 0 (by decide) fl_Wrk_12 rfl rfl hnm rfl rfl rfl rfl (Nat.le_of_ble_eq_true rfl) (fun hP => ?_)
  have hF := hF.by (by simp) hP
  refine z_aload_n X d_Wrk_init_15 rfl ?_
  refine z_sipush X d_Wrk_init_16 (v := 400) (by decide) ?_
  refine z_newaiP X rfl d_Wrk_init_19 ac_int (t0 := 0) rfl (by decide) rfl (Nat.le_of_ble_eq_true rfl) (Nat.le_of_ble_eq_true rfl) (Nat.le_of_ble_eq_true rfl) hP (by omega) (fun hP => ?_)
  have hF := hF.by2 (by omega) hP
  refine z_putFP X t_Wrk ty_Wrk n_Wrk d_Wrk_init_21 hP 0 rfl cl_Wrk in_Wrk 1 (by decide) fl_Wrk_18 rfl rfl hnm rfl rfl rfl rfl (Nat.le_of_ble_eq_true rfl) (fun hP => ?_)
  have hF := hF.by (by simp) hP
  refine zW.widen (k := 3) (n := 601) (Nat.le_of_ble_eq_true rfl) (Nat.le_of_ble_eq_true rfl) ?_
  exact z_vret X d_Wrk_init_24 ⟨rfl, rfl, hP, hF⟩
theorem d_Rdr_init_0 : decode prog_4_method_1_code 0 = .ok (.aload_n 0, 1) := by decide +kernel
theorem d_Rdr_init_1 : decode prog_4_method_1_code 1 = .ok (.invokespecial 3, 3) := by decide +kernel
theorem d_Rdr_init_4 : decode prog_4_method_1_code 4 = .ok (.aload_n 0, 1) := by decide +kernel
theorem d_Rdr_init_5 : decode prog_4_method_1_code 5 = .ok (.new 9, 3) := by decide +kernel
theorem d_Rdr_init_8 : decode prog_4_method_1_code 8 = .ok (.dup, 1) := by decide +kernel
theorem d_Rdr_init_9 : decode prog_4_method_1_code 9 = .ok (.invokespecial 11, 3) := by decide +kernel
theorem d_Rdr_init_12 : decode prog_4_method_1_code 12 = .ok (.putfield 12, 3) := by decide +kernel
theorem d_Rdr_init_15 : decode prog_4_method_1_code 15 = .ok (.aload_n 0, 1) := by decide +kernel
theorem d_Rdr_init_16 : decode prog_4_method_1_code 16 = .ok (.new 18, 3) := by decide +kernel
theorem d_Rdr_init_19 : decode prog_4_method_1_code 19 = .ok (.dup, 1) := by decide +kernel
theorem d_Rdr_init_20 : decode prog_4_method_1_code 20 = .ok (.invokespecial 20, 3) := by decide +kernel
theorem d_Rdr_init_23 : decode prog_4_method_1_code 23 = .ok (.putfield 21, 3) := by decide +kernel
theorem d_Rdr_init_26 : decode prog_4_method_1_code 26 = .ok (.aload_n 0, 1) := by decide +kernel
theorem d_Rdr_init_27 : decode prog_4_method_1_code 27 = .ok (.bipush 11, 2) := by decide +kernel
theorem d_Rdr_init_29 : decode prog_4_method_1_code 29 = .ok (.newarray .int, 2) := by decide +kernel
theorem d_Rdr_init_31 : decode prog_4_method_1_code 31 = .ok (.putfield 25, 3) := by decide +kernel
theorem d_Rdr_init_34 : decode prog_4_method_1_code 34 = .ok (.aload_n 0, 1) := by decide +kernel
theorem d_Rdr_init_35 : decode prog_4_method_1_code 35 = .ok (.bipush 11, 2) := by decide +kernel
theorem d_Rdr_init_37 : decode prog_4_method_1_code 37 = .ok (.newarray .int, 2) := by decide +kernel
theorem d_Rdr_init_39 : decode prog_4_method_1_code 39 = .ok (.putfield 29, 3) := by decide +kernel
theorem d_Rdr_init_42 : decode prog_4_method_1_code 42 = .ok (.aload_n 0, 1) := by decide +kernel
theorem d_Rdr_init_43 : decode prog_4_method_1_code 43 = .ok (.bipush 11, 2) := by decide +kernel
theorem d_Rdr_init_45 : decode prog_4_method_1_code 45 = .ok (.newarray .int, 2) := by decide +kernel
theorem d_Rdr_init_47 : decode prog_4_method_1_code 47 = .ok (.putfield 32, 3) := by decide +kernel
theorem d_Rdr_init_50 : decode prog_4_method_1_code 50 = .ok (.return_, 1) := by decide +kernel
set_option maxHeartbeats 4000000 in
set_option maxRecDepth 100000 in
theorem c_Rdr_init {a : Nat} (hP : zP b0 N f [(a, .inr (2, df_Rdr))]) : zK l D ck ad b0 y_Rdr_init prog_4_method_1_code 1 (none) 2 9 359 [.ref a] N f (fun r N' f' => r = none ∧ N' = N + 9 ∧ zP b0 (N + 9) f' [(a, .inr (2, [.ref N, .ref (N + 2), .ref (N + 6), .ref (N + 7), .ref (N + 8), .int 0, .int 0, .int 0, .int 0, .int 0, .int 0, .int 0, .int 0, .int 0])), (N, oSgn (N + 1) 0), (N + 1, aI ck 200 (fun _ => 0)), (N + 2, oTre (N + 3) (N + 4) (N + 5) 0), (N + 3, aI ck 40 (fun _ => 0)), (N + 4, aI ck 40 (fun _ => 0)), (N + 5, aI ck 40 (fun _ => 0)), (N + 6, aI ck 11 (fun _ => 0)), (N + 7, aI ck 11 (fun _ => 0)), (N + 8, aI ck 11 (fun _ => 0))] ∧ zF N f f' [a]) := by
  refine zM.of zG_w (by decide) (Nat.le_of_ble_eq_true rfl) ?_
  intro zp ze zst zm zar zbe zme zc X hnm hb0
  have hF : zF N f f [a] := zF.rf
  refine z_aload_n X d_Rdr_init_0 rfl ?_
  refine z_objInit X d_Rdr_init_1 ml_Rdr_3 im_Object_init mc_objInit (Nat.le_of_ble_eq_true rfl) (Nat.le_of_ble_eq_true rfl) ?_
  refine z_aload_n X d_Rdr_init_4 rfl ?_
  refine z_newP X t_Sgn ty_Sgn d_Rdr_init_5 cl_Sgn in_Sgn kl_Rdr_9 ins_Sgn ini_Sgn nf_Sgn (Nat.le_of_ble_eq_true rfl) (Nat.le_of_ble_eq_true rfl) hP (by omega) (fun hP => ?_)
  have hF := hF.by2 (by omega) hP
  refine z_dup X d_Rdr_init_8 rfl ?_
  refine z_callIN (ret' := none) X zG_ok (c_Sgn_init (hP.sub [1] (by decide) rfl)) d_Rdr_init_9 ⟨(z_cbN (n := 0) X.2.2.2.2.1 (zG_n X.2.2.2.2.2.1 ns_1) mc_Sgn_init ini_Sgn (by decide +kernel) rfl rfl ⟨Nat.le_of_ble_eq_true rfl, Nat.le_of_ble_eq_true rfl⟩), rfl, X.2.2.2.2.1 _ im_Sgn_init⟩ rfl rfl (Nat.le_of_ble_eq_true rfl) ⟨Nat.le_of_ble_eq_true rfl, Nat.le_of_ble_eq_true rfl⟩ (fun r N1 f1 hp hN1 => ?_)
  obtain ⟨rfl, rfl, hP1, hF1⟩ := hp
  have hP := (hP.jn [1] [0] rfl (by decide) (by simp) (by decide) hF1 (by omega) hP1 (fun a ha => by simp at ha ⊢; omega))
  have hF := hF.join hF1 (by omega) (fun b hb => by simp at hb ⊢; omega)
  refine z_putFP X t_Rdr ty_Rdr n_Rdr d_Rdr_init_12 hP 0 rfl cl_Rdr in_Rdr 0 (by decide) fl_Rdr_12 rfl rfl hnm rfl rfl rfl rfl (Nat.le_of_ble_eq_true rfl) (fun hP => ?_)
  have hF := hF.by (by simp) hP
  refine z_aload_n X d_Rdr_init_15 rfl ?_
  refine z_newP X t_Tre ty_Tre d_Rdr_init_16 cl_Tre in_Tre kl_Rdr_18 ins_Tre ini_Tre nf_Tre (Nat.le_of_ble_eq_true rfl) (Nat.le_of_ble_eq_true rfl) hP (by omega) (fun hP => ?_)
  have hF := hF.by2 (by omega) hP
  refine z_dup X d_Rdr_init_19 rfl ?_
  refine z_callI (ret' := none) X zG_ok (c_Tre_init (hP.sub [3] (by decide) rfl)) d_Rdr_init_20 ⟨(z_cb (n := 0) X.2.2.2.2.1 ml_Rdr_20 mc_Tre_init ini_Tre (by decide +kernel) rfl rfl ⟨Nat.le_of_ble_eq_true rfl, Nat.le_of_ble_eq_true rfl⟩), rfl, X.2.2.2.2.1 _ im_Tre_init⟩ rfl rfl (Nat.le_of_ble_eq_true rfl) ⟨Nat.le_of_ble_eq_true rfl, Nat.le_of_ble_eq_true rfl⟩ (fun r N1 f1 hp hN1 => ?_)
  obtain ⟨rfl, rfl, hP1, hF1⟩ := hp
  have hP := (hP.jn [3] [0, 1, 2] rfl (by decide) (by simp) (by decide) hF1 (by omega) hP1 (fun a ha => by simp at ha ⊢; omega))
  have hF := hF.join hF1 (by omega) (fun b hb => by simp at hb ⊢; omega)
  refine z_putFP X t_Rdr ty_Rdr n_Rdr d_Rdr_init_23 hP 0 rfl cl_Rdr in_Rdr 1 (by decide) fl_Rdr_21 rfl rfl hnm rfl rfl rfl rfl (Nat.le_of_ble_eq_true rfl) (fun hP => ?_)
  have hF := hF.by (by simp) hP
  refine z_aload_n X d_Rdr_init_26 rfl ?_
  refine z_bipush X d_Rdr_init_27 (v := 11) (by decide) ?_
  refine z_newaiP X rfl d_Rdr_init_29 ac_int (t0 := 0) rfl (by decide) rfl (Nat.le_of_ble_eq_true rfl) (Nat.le_of_ble_eq_true rfl) (Nat.le_of_ble_eq_true rfl) hP (by omega) (fun hP => ?_)
  have hF := hF.by2 (by omega) hP
  refine z_putFP X t_Rdr ty_Rdr n_Rdr d_Rdr_init_31 hP 0 rfl cl_Rdr in_Rdr 2 (by decide) fl_Rdr_25 rfl rfl hnm rfl rfl rfl rfl (Nat.le_of_ble_eq_true rfl) (fun hP => ?_)
  have hF := hF.by (by simp) hP
  refine z_aload_n X d_Rdr_init_34 rfl ?_
  refine z_bipush X d_Rdr_init_35 (v := 11) (by decide) ?_
  refine z_newaiP X rfl d_Rdr_init_37 ac_int (t0 := 0) rfl (by decide) rfl (Nat.le_of_ble_eq_true rfl) (Nat.le_of_ble_eq_true rfl) (Nat.le_of_ble_eq_true rfl) hP (by omega) (fun hP => ?_)
  have hF := hF.by2 (by omega) hP
  refine z_putFP X t_Rdr ty_Rdr n_Rdr d_Rdr_init_39 hP 0 rfl cl_Rdr in_Rdr 3 (by decide) fl_Rdr_29 rfl rfl hnm rfl rfl rfl rfl (Nat.le_of_ble_eq_true rfl) (fun hP => ?_)
  have hF := hF.by (by simp) hP
  refine z_aload_n X d_Rdr_init_42 rfl ?_
  refine z_bipush X d_Rdr_init_43 (v := 11) (by decide) ?_
  refine z_newaiP X rfl d_Rdr_init_45 ac_int (t0 := 0) rfl (by decide) rfl (Nat.le_of_ble_eq_true rfl) (Nat.le_of_ble_eq_true rfl) (Nat.le_of_ble_eq_true rfl) hP (by omega) (fun hP => ?_)
  have hF := hF.by2 (by omega) hP
  refine z_putFP X t_Rdr ty_Rdr n_Rdr d_Rdr_init_47 hP 0 rfl cl_Rdr in_Rdr 4 (by decide) fl_Rdr_32 rfl rfl hnm rfl rfl rfl rfl (Nat.le_of_ble_eq_true rfl) (fun hP => ?_)
  have hF := hF.by (by simp) hP
  refine zW.widen (k := 9) (n := 359) (Nat.le_of_ble_eq_true rfl) (Nat.le_of_ble_eq_true rfl) ?_
  exact z_vret X d_Rdr_init_50 ⟨rfl, rfl, hP, hF⟩
theorem d_Rul_init_0 : decode prog_5_method_1_code 0 = .ok (.aload_n 0, 1) := by decide +kernel
theorem d_Rul_init_1 : decode prog_5_method_1_code 1 = .ok (.invokespecial 3, 3) := by decide +kernel
theorem d_Rul_init_4 : decode prog_5_method_1_code 4 = .ok (.aload_n 0, 1) := by decide +kernel
theorem d_Rul_init_5 : decode prog_5_method_1_code 5 = .ok (.iconst 0, 1) := by decide +kernel
theorem d_Rul_init_6 : decode prog_5_method_1_code 6 = .ok (.putfield 9, 3) := by decide +kernel
theorem d_Rul_init_9 : decode prog_5_method_1_code 9 = .ok (.aload_n 0, 1) := by decide +kernel
theorem d_Rul_init_10 : decode prog_5_method_1_code 10 = .ok (.iconst 1, 1) := by decide +kernel
theorem d_Rul_init_11 : decode prog_5_method_1_code 11 = .ok (.putfield 15, 3) := by decide +kernel
theorem d_Rul_init_14 : decode prog_5_method_1_code 14 = .ok (.aload_n 0, 1) := by decide +kernel
theorem d_Rul_init_15 : decode prog_5_method_1_code 15 = .ok (.iconst 0, 1) := by decide +kernel
theorem d_Rul_init_16 : decode prog_5_method_1_code 16 = .ok (.putfield 19, 3) := by decide +kernel
theorem d_Rul_init_19 : decode prog_5_method_1_code 19 = .ok (.aload_n 0, 1) := by decide +kernel
theorem d_Rul_init_20 : decode prog_5_method_1_code 20 = .ok (.iconst (-1), 1) := by decide +kernel
theorem d_Rul_init_21 : decode prog_5_method_1_code 21 = .ok (.putfield 22, 3) := by decide +kernel
theorem d_Rul_init_24 : decode prog_5_method_1_code 24 = .ok (.aload_n 0, 1) := by decide +kernel
theorem d_Rul_init_25 : decode prog_5_method_1_code 25 = .ok (.iconst 0, 1) := by decide +kernel
theorem d_Rul_init_26 : decode prog_5_method_1_code 26 = .ok (.putfield 25, 3) := by decide +kernel
theorem d_Rul_init_29 : decode prog_5_method_1_code 29 = .ok (.aload_n 0, 1) := by decide +kernel
theorem d_Rul_init_30 : decode prog_5_method_1_code 30 = .ok (.iconst 0, 1) := by decide +kernel
theorem d_Rul_init_31 : decode prog_5_method_1_code 31 = .ok (.putfield 28, 3) := by decide +kernel
theorem d_Rul_init_34 : decode prog_5_method_1_code 34 = .ok (.aload_n 0, 1) := by decide +kernel
theorem d_Rul_init_35 : decode prog_5_method_1_code 35 = .ok (.iconst 0, 1) := by decide +kernel
theorem d_Rul_init_36 : decode prog_5_method_1_code 36 = .ok (.putfield 31, 3) := by decide +kernel
theorem d_Rul_init_39 : decode prog_5_method_1_code 39 = .ok (.aload_n 0, 1) := by decide +kernel
theorem d_Rul_init_40 : decode prog_5_method_1_code 40 = .ok (.aload_n 1, 1) := by decide +kernel
theorem d_Rul_init_41 : decode prog_5_method_1_code 41 = .ok (.putfield 34, 3) := by decide +kernel
theorem d_Rul_init_44 : decode prog_5_method_1_code 44 = .ok (.return_, 1) := by decide +kernel
set_option maxHeartbeats 4000000 in
set_option maxRecDepth 100000 in
theorem c_Rul_init {a : Nat} (hP : zP b0 N f [(a, .inr (3, df_Rul))]) {tr : Nat} : zK l D ck ad b0 y_Rul_init prog_5_method_1_code 2 (none) 1 0 0 [.ref a, .ref tr] N f (fun r N' f' => r = none ∧ N' = N ∧ f' = va_up f a (.inr (3, [.ref tr, .int 0, .int 1, .int 0, .int (-1), .int 0, .int 0, .int 0]))) := by
  refine zM.of zG_w (by decide) (Nat.le_of_ble_eq_true rfl) ?_
  intro zp ze zst zm zar zbe zme zc X hnm hb0
  refine z_aload_n X d_Rul_init_0 rfl ?_
  refine z_objInit X d_Rul_init_1 ml_Rul_3 im_Object_init mc_objInit (Nat.le_of_ble_eq_true rfl) (Nat.le_of_ble_eq_true rfl) ?_
  refine z_aload_n X d_Rul_init_4 rfl ?_
  refine z_iconst X d_Rul_init_5 (v := 0) (by decide) ?_
  refine z_putP X t_Rul ty_Rul n_Rul d_Rul_init_6 hP 0 rfl cl_Rul in_Rul 1 (by decide) fl_Rul_9 rfl rfl rfl rfl rfl (Nat.le_of_ble_eq_true rfl) (fun hP => ?_)
  refine z_aload_n X d_Rul_init_9 rfl ?_
  refine z_iconst X d_Rul_init_10 (v := 1) (by decide) ?_
  refine z_putP X t_Rul ty_Rul n_Rul d_Rul_init_11 hP 0 rfl cl_Rul in_Rul 2 (by decide) fl_Rul_15 rfl rfl rfl rfl rfl (Nat.le_of_ble_eq_true rfl) (fun hP => ?_)
  refine z_aload_n X d_Rul_init_14 rfl ?_
  refine z_iconst X d_Rul_init_15 (v := 0) (by decide) ?_
  refine z_putP X t_Rul ty_Rul n_Rul d_Rul_init_16 hP 0 rfl cl_Rul in_Rul 3 (by decide) fl_Rul_19 rfl rfl rfl rfl rfl (Nat.le_of_ble_eq_true rfl) (fun hP => ?_)
  refine z_aload_n X d_Rul_init_19 rfl ?_
  refine z_iconst X d_Rul_init_20 (v := -1) (by decide) ?_
  refine z_putP X t_Rul ty_Rul n_Rul d_Rul_init_21 hP 0 rfl cl_Rul in_Rul 4 (by decide) fl_Rul_22 rfl rfl rfl rfl rfl (Nat.le_of_ble_eq_true rfl) (fun hP => ?_)
  refine z_aload_n X d_Rul_init_24 rfl ?_
  refine z_iconst X d_Rul_init_25 (v := 0) (by decide) ?_
  refine z_putP X t_Rul ty_Rul n_Rul d_Rul_init_26 hP 0 rfl cl_Rul in_Rul 5 (by decide) fl_Rul_25 rfl rfl rfl rfl rfl (Nat.le_of_ble_eq_true rfl) (fun hP => ?_)
  refine z_aload_n X d_Rul_init_29 rfl ?_
  refine z_iconst X d_Rul_init_30 (v := 0) (by decide) ?_
  refine z_putP X t_Rul ty_Rul n_Rul d_Rul_init_31 hP 0 rfl cl_Rul in_Rul 6 (by decide) fl_Rul_28 rfl rfl rfl rfl rfl (Nat.le_of_ble_eq_true rfl) (fun hP => ?_)
  refine z_aload_n X d_Rul_init_34 rfl ?_
  refine z_iconst X d_Rul_init_35 (v := 0) (by decide) ?_
  refine z_putP X t_Rul ty_Rul n_Rul d_Rul_init_36 hP 0 rfl cl_Rul in_Rul 7 (by decide) fl_Rul_31 rfl rfl rfl rfl rfl (Nat.le_of_ble_eq_true rfl) (fun hP => ?_)
  refine z_aload_n X d_Rul_init_39 rfl ?_
  refine z_aload_n X d_Rul_init_40 rfl ?_
  refine z_putFP X t_Rul ty_Rul n_Rul d_Rul_init_41 hP 0 rfl cl_Rul in_Rul 0 (by decide) fl_Rul_34 rfl rfl hnm rfl rfl rfl rfl (Nat.le_of_ble_eq_true rfl) (fun hP => ?_)
  exact z_vret X d_Rul_init_44 ⟨rfl, rfl, by simp only [va_up_up]; rfl⟩
theorem mx0 {u : Nat} (h : u ≤ 40) : (if (0 : Int32) < nI u then nI u else 0) = nI u := by
  by_cases q : u = 0
  · subst q; rfl
  · exact if_pos (nI_lt (a := 0) (by omega) (by omega))
theorem mn40 {u : Nat} (h : u ≤ 40) : (if (40 : Int32) < nI u then 40 else nI u) = nI u := if_neg (Int32.not_lt.mpr (nI_le (a := u) (b := 40) h (by decide)))
theorem d_Tre_init2_0 : decode prog_7_method_2_code 0 = .ok (.aload_n 0, 1) := by decide +kernel
theorem d_Tre_init2_1 : decode prog_7_method_2_code 1 = .ok (.invokespecial 3, 3) := by decide +kernel
theorem d_Tre_init2_4 : decode prog_7_method_2_code 4 = .ok (.aload_n 0, 1) := by decide +kernel
theorem d_Tre_init2_5 : decode prog_7_method_2_code 5 = .ok (.iconst 0, 1) := by decide +kernel
theorem d_Tre_init2_6 : decode prog_7_method_2_code 6 = .ok (.aload_n 1, 1) := by decide +kernel
theorem d_Tre_init2_7 : decode prog_7_method_2_code 7 = .ok (.getfield 21, 3) := by decide +kernel
theorem d_Tre_init2_10 : decode prog_7_method_2_code 10 = .ok (.bipush 40, 2) := by decide +kernel
theorem d_Tre_init2_12 : decode prog_7_method_2_code 12 = .ok (.invokestatic 25, 3) := by decide +kernel
theorem d_Tre_init2_15 : decode prog_7_method_2_code 15 = .ok (.invokestatic 31, 3) := by decide +kernel
theorem d_Tre_init2_18 : decode prog_7_method_2_code 18 = .ok (.putfield 21, 3) := by decide +kernel
theorem d_Tre_init2_21 : decode prog_7_method_2_code 21 = .ok (.aload_n 0, 1) := by decide +kernel
theorem d_Tre_init2_22 : decode prog_7_method_2_code 22 = .ok (.aload_n 1, 1) := by decide +kernel
theorem d_Tre_init2_23 : decode prog_7_method_2_code 23 = .ok (.getfield 9, 3) := by decide +kernel
theorem d_Tre_init2_26 : decode prog_7_method_2_code 26 = .ok (.aload_n 0, 1) := by decide +kernel
theorem d_Tre_init2_27 : decode prog_7_method_2_code 27 = .ok (.getfield 21, 3) := by decide +kernel
theorem d_Tre_init2_30 : decode prog_7_method_2_code 30 = .ok (.invokestatic 34, 3) := by decide +kernel
theorem d_Tre_init2_33 : decode prog_7_method_2_code 33 = .ok (.putfield 9, 3) := by decide +kernel
theorem d_Tre_init2_36 : decode prog_7_method_2_code 36 = .ok (.aload_n 0, 1) := by decide +kernel
theorem d_Tre_init2_37 : decode prog_7_method_2_code 37 = .ok (.aload_n 1, 1) := by decide +kernel
theorem d_Tre_init2_38 : decode prog_7_method_2_code 38 = .ok (.getfield 15, 3) := by decide +kernel
theorem d_Tre_init2_41 : decode prog_7_method_2_code 41 = .ok (.aload_n 0, 1) := by decide +kernel
theorem d_Tre_init2_42 : decode prog_7_method_2_code 42 = .ok (.getfield 21, 3) := by decide +kernel
theorem d_Tre_init2_45 : decode prog_7_method_2_code 45 = .ok (.invokestatic 34, 3) := by decide +kernel
theorem d_Tre_init2_48 : decode prog_7_method_2_code 48 = .ok (.putfield 15, 3) := by decide +kernel
theorem d_Tre_init2_51 : decode prog_7_method_2_code 51 = .ok (.aload_n 0, 1) := by decide +kernel
theorem d_Tre_init2_52 : decode prog_7_method_2_code 52 = .ok (.aload_n 1, 1) := by decide +kernel
theorem d_Tre_init2_53 : decode prog_7_method_2_code 53 = .ok (.getfield 18, 3) := by decide +kernel
theorem d_Tre_init2_56 : decode prog_7_method_2_code 56 = .ok (.aload_n 0, 1) := by decide +kernel
theorem d_Tre_init2_57 : decode prog_7_method_2_code 57 = .ok (.getfield 21, 3) := by decide +kernel
theorem d_Tre_init2_60 : decode prog_7_method_2_code 60 = .ok (.invokestatic 34, 3) := by decide +kernel
theorem d_Tre_init2_63 : decode prog_7_method_2_code 63 = .ok (.putfield 18, 3) := by decide +kernel
theorem d_Tre_init2_66 : decode prog_7_method_2_code 66 = .ok (.return_, 1) := by decide +kernel
set_option maxHeartbeats 4000000 in
set_option maxRecDepth 100000 in
theorem c_Tre_init2 {a tr ka va ra n u : Nat} {K V R : Nat → Int32} (hP : zP b0 N f ((a, .inr (5, df_Tre)) :: wTre ck tr ka va ra n K V R u)) (hu : u ≤ n) (hn : n ≤ 40) : zK l D ck ad b0 y_Tre_init2 prog_7_method_2_code 2 (none) 2 3 120 [.ref a, .ref tr] N f (fun r N' f' => r = none ∧ N' = N + 3 ∧ zP b0 (N + 3) f' ((a, oTre N (N + 1) (N + 2) u) :: wTre ck tr ka va ra n K V R u ++ [(N, aI ck u K), (N + 1, aI ck u V), (N + 2, aI ck u R)]) ∧ zF N f f' [a]) := by
  refine zM.of zG_w (by decide) (Nat.le_of_ble_eq_true rfl) ?_
  intro zp ze zst zm zar zbe zme zc X hnm hb0
  have hF : zF N f f [a] := zF.rf
  refine z_aload_n X d_Tre_init2_0 rfl ?_
  refine z_objInit X d_Tre_init2_1 ml_Tre_3 im_Object_init mc_objInit (Nat.le_of_ble_eq_true rfl) (Nat.le_of_ble_eq_true rfl) ?_
  refine z_aload_n X d_Tre_init2_4 rfl ?_
  refine z_iconst X d_Tre_init2_5 (v := 0) (by decide) ?_
  refine z_aload_n X d_Tre_init2_6 rfl ?_
  refine z_get X d_Tre_init2_7 (hP.lo 1 rfl) (hP.at 1 rfl) cl_Tre in_Tre 3 (by decide) fl_Tre_21 rfl rfl ?_
  refine z_bipush X d_Tre_init2_10 (v := 40) (by decide) ?_
  refine z_mmin X d_Tre_init2_12 ml_Tre_25 st_Math_min ini_Math mc_lib_min (Nat.le_of_ble_eq_true rfl) (Nat.le_of_ble_eq_true rfl) (Nat.zero_le _) (Nat.zero_le _) ?_
  rw [mn40 (by omega)]
  refine z_mmax X d_Tre_init2_15 ml_Tre_31 st_Math_max ini_Math mc_lib_max (Nat.le_of_ble_eq_true rfl) (Nat.le_of_ble_eq_true rfl) (Nat.zero_le _) (Nat.zero_le _) ?_
  rw [mx0 (by omega)]
  refine z_putP X t_Tre ty_Tre n_Tre d_Tre_init2_18 hP 0 rfl cl_Tre in_Tre 3 (by decide) fl_Tre_21 rfl rfl rfl rfl rfl (Nat.le_of_ble_eq_true rfl) (fun hP => ?_)
  have hF := hF.by (by simp) hP
  refine z_aload_n X d_Tre_init2_21 rfl ?_
  refine z_aload_n X d_Tre_init2_22 rfl ?_
  refine z_get X d_Tre_init2_23 (hP.lo 1 rfl) (hP.at 1 rfl) cl_Tre in_Tre 0 (by decide) fl_Tre_9 rfl rfl ?_
  refine z_aload_n X d_Tre_init2_26 rfl ?_
  refine z_get X d_Tre_init2_27 (hP.lo 0 rfl) (hP.at 0 rfl) cl_Tre in_Tre 3 (by decide) fl_Tre_21 rfl rfl ?_
  refine z_callS X zG_ok (c_Arrays_copyOf (hP.sub [2] (by decide) rfl) hu hn) d_Tre_init2_30 ⟨(z_cb (n := 2) X.2.2.2.2.1 ml_Tre_34 mc_Arrays_copyOf ini_Arrays (by decide +kernel) rfl rfl ⟨Nat.le_of_ble_eq_true rfl, Nat.le_of_ble_eq_true rfl⟩), X.2.2.2.2.1 _ st_Arrays_copyOf⟩ rfl rfl (Nat.le_of_ble_eq_true rfl) ⟨Nat.le_of_ble_eq_true rfl, Nat.le_of_ble_eq_true rfl⟩ (fun r N1 f1 hp hN1 => ?_)
  obtain ⟨rfl, rfl, rfl⟩ := hp
  have hP := hP.push (by omega) (aI ck u K)
  have hF := hF.by2 (by omega) hP
  refine z_putFP X t_Tre ty_Tre n_Tre d_Tre_init2_33 hP 0 rfl cl_Tre in_Tre 0 (by decide) fl_Tre_9 rfl rfl hnm rfl rfl rfl rfl (Nat.le_of_ble_eq_true rfl) (fun hP => ?_)
  have hF := hF.by (by simp) hP
  refine z_aload_n X d_Tre_init2_36 rfl ?_
  refine z_aload_n X d_Tre_init2_37 rfl ?_
  refine z_get X d_Tre_init2_38 (hP.lo 1 rfl) (hP.at 1 rfl) cl_Tre in_Tre 1 (by decide) fl_Tre_15 rfl rfl ?_
  refine z_aload_n X d_Tre_init2_41 rfl ?_
  refine z_get X d_Tre_init2_42 (hP.lo 0 rfl) (hP.at 0 rfl) cl_Tre in_Tre 3 (by decide) fl_Tre_21 rfl rfl ?_
  refine z_callS X zG_ok (c_Arrays_copyOf (hP.sub [3] (by decide) rfl) hu hn) d_Tre_init2_45 ⟨(z_cb (n := 2) X.2.2.2.2.1 ml_Tre_34 mc_Arrays_copyOf ini_Arrays (by decide +kernel) rfl rfl ⟨Nat.le_of_ble_eq_true rfl, Nat.le_of_ble_eq_true rfl⟩), X.2.2.2.2.1 _ st_Arrays_copyOf⟩ rfl rfl (Nat.le_of_ble_eq_true rfl) ⟨Nat.le_of_ble_eq_true rfl, Nat.le_of_ble_eq_true rfl⟩ (fun r N1 f1 hp hN1 => ?_)
  obtain ⟨rfl, rfl, rfl⟩ := hp
  have hP := hP.push (by omega) (aI ck u V)
  have hF := hF.by2 (by omega) hP
  refine z_putFP X t_Tre ty_Tre n_Tre d_Tre_init2_48 hP 0 rfl cl_Tre in_Tre 1 (by decide) fl_Tre_15 rfl rfl hnm rfl rfl rfl rfl (Nat.le_of_ble_eq_true rfl) (fun hP => ?_)
  have hF := hF.by (by simp) hP
  refine z_aload_n X d_Tre_init2_51 rfl ?_
  refine z_aload_n X d_Tre_init2_52 rfl ?_
  refine z_get X d_Tre_init2_53 (hP.lo 1 rfl) (hP.at 1 rfl) cl_Tre in_Tre 2 (by decide) fl_Tre_18 rfl rfl ?_
  refine z_aload_n X d_Tre_init2_56 rfl ?_
  refine z_get X d_Tre_init2_57 (hP.lo 0 rfl) (hP.at 0 rfl) cl_Tre in_Tre 3 (by decide) fl_Tre_21 rfl rfl ?_
  refine z_callS X zG_ok (c_Arrays_copyOf (hP.sub [4] (by decide) rfl) hu hn) d_Tre_init2_60 ⟨(z_cb (n := 2) X.2.2.2.2.1 ml_Tre_34 mc_Arrays_copyOf ini_Arrays (by decide +kernel) rfl rfl ⟨Nat.le_of_ble_eq_true rfl, Nat.le_of_ble_eq_true rfl⟩), X.2.2.2.2.1 _ st_Arrays_copyOf⟩ rfl rfl (Nat.le_of_ble_eq_true rfl) ⟨Nat.le_of_ble_eq_true rfl, Nat.le_of_ble_eq_true rfl⟩ (fun r N1 f1 hp hN1 => ?_)
  obtain ⟨rfl, rfl, rfl⟩ := hp
  have hP := hP.push (by omega) (aI ck u R)
  have hF := hF.by2 (by omega) hP
  refine z_putFP X t_Tre ty_Tre n_Tre d_Tre_init2_63 hP 0 rfl cl_Tre in_Tre 2 (by decide) fl_Tre_18 rfl rfl hnm rfl rfl rfl rfl (Nat.le_of_ble_eq_true rfl) (fun hP => ?_)
  have hF := hF.by (by simp) hP
  refine zW.widen (k := 3) (n := 120) (Nat.le_of_ble_eq_true rfl) (Nat.le_of_ble_eq_true rfl) ?_
  exact z_vret X d_Tre_init2_66 ⟨rfl, rfl, hP, hF⟩
theorem d_Tre_copy_0 : decode prog_7_method_3_code 0 = .ok (.new 10, 3) := by decide +kernel
theorem d_Tre_copy_3 : decode prog_7_method_3_code 3 = .ok (.dup, 1) := by decide +kernel
theorem d_Tre_copy_4 : decode prog_7_method_3_code 4 = .ok (.aload_n 0, 1) := by decide +kernel
theorem d_Tre_copy_5 : decode prog_7_method_3_code 5 = .ok (.invokespecial 40, 3) := by decide +kernel
theorem d_Tre_copy_8 : decode prog_7_method_3_code 8 = .ok (.areturn, 1) := by decide +kernel
set_option maxHeartbeats 4000000 in
set_option maxRecDepth 100000 in
theorem c_Tre_copy {tr ka va ra n u : Nat} {K V R : Nat → Int32} (hP : zP b0 N f (wTre ck tr ka va ra n K V R u)) (hu : u ≤ n) (hn : n ≤ 40) : zK l D ck ad b0 y_Tre_copy prog_7_method_3_code 1 ((some (FieldType.object "CheckRules$Tree"))) 3 4 124 [.ref tr] N f (fun r N' f' => r = some (.ref N) ∧ N' = N + 4 ∧ zP b0 (N + 4) f' (wTre ck tr ka va ra n K V R u ++ wTre ck N (N + 1) (N + 2) (N + 3) u K V R u) ∧ zF N f f' []) := by
  refine zM.of zG_w (by decide) (Nat.le_of_ble_eq_true rfl) ?_
  intro zp ze zst zm zar zbe zme zc X hnm hb0
  have hF : zF N f f [] := zF.rf
  refine z_newP X t_Tre ty_Tre d_Tre_copy_0 cl_Tre in_Tre kl_Tre_10 ins_Tre ini_Tre nf_Tre (Nat.le_of_ble_eq_true rfl) (Nat.le_of_ble_eq_true rfl) hP (by omega) (fun hP => ?_)
  have hF := hF.by2 (by omega) hP
  refine z_dup X d_Tre_copy_3 rfl ?_
  refine z_aload_n X d_Tre_copy_4 rfl ?_
  refine z_callI (ret' := none) X zG_ok (c_Tre_init2 (tr := tr) (ka := ka) (va := va) (ra := ra) (K := K) (V := V) (R := R) (hP.sub [4, 0, 1, 2, 3] (by decide) rfl) hu hn) d_Tre_copy_5 ⟨(z_cb (n := 1) X.2.2.2.2.1 ml_Tre_40 mc_Tre_init2 ini_Tre (by decide +kernel) rfl rfl ⟨Nat.le_of_ble_eq_true rfl, Nat.le_of_ble_eq_true rfl⟩), rfl, X.2.2.2.2.1 _ im_Tre_init2⟩ rfl rfl (Nat.le_of_ble_eq_true rfl) ⟨Nat.le_of_ble_eq_true rfl, Nat.le_of_ble_eq_true rfl⟩ (fun r N1 f1 hp hN1 => ?_)
  obtain ⟨rfl, rfl, hP1, hF1⟩ := hp
  have hP := hP1.sub (wc := wTre ck tr ka va ra n K V R u ++ wTre ck N (N + 1) (N + 2) (N + 3) u K V R u) [1, 2, 3, 4, 0, 5, 6, 7] (by decide) rfl
  have hF := hF.join hF1 (by omega) (fun b hb => by simp at hb ⊢; omega)
  refine zW.widen (k := 4) (n := 124) (Nat.le_of_ble_eq_true rfl) (Nat.le_of_ble_eq_true rfl) ?_
  exact z_aret X d_Tre_copy_8 (Or.inr ⟨_, rfl⟩) ⟨rfl, rfl, hP, hF⟩
end
