section
variable {l : Launch} {D : va_G} {ck : Nat → ClassId} {ad : (Nat → Nat) × (Nat → Nat)} {b0 N : Nat} {f : Nat → va_E}
theorem d_Mod_thrown_0 : decode prog_10_method_2_code 0 = .ok (.aload_n 0, 1) := by decide +kernel
theorem d_Mod_thrown_1 : decode prog_10_method_2_code 1 = .ok (.getfield 93, 3) := by decide +kernel
theorem d_Mod_thrown_4 : decode prog_10_method_2_code 4 = .ok (.ireturn, 1) := by decide +kernel
def m_thrown (μ : MS) : Option (Int32 × MS) := some ((μ.1 0), μ)
set_option maxHeartbeats 4000000 in
set_option maxRecDepth 100000 in
theorem c_Mod_thrown {A : Nat → Nat} {f0 : Nat → va_E} {μ : MS} {res : (Int32 × MS)} (hM : zMf ck b0 N A f0 f μ) (h : m_thrown μ = some res) : zK l D ck ad b0 y_Mod_thrown prog_10_method_2_code 1 ((some FieldType.int)) 0 0 0 [.ref (A 38)] N f (fun r N' f' => r = some (.int res.1) ∧ N = N' ∧ zMf ck b0 N A f0 f' res.2) := by
  refine zM.of zG_w (by decide) (Nat.le_of_ble_eq_true rfl) ?_
  intro zp ze zst zm zar zbe zme zc X hnm hb0
  rw [m_thrown] at h
  refine z_aload_n X d_Mod_thrown_0 rfl ?_
  refine z_get X (v := .int (μ.1 0)) d_Mod_thrown_1 (hM.lo 38 (by decide)) hM.ob cl_Mod in_Mod 0 (by decide) fl_Mod_93 rfl rfl ?_
  cases h
  exact z_iret X d_Mod_thrown_4 ⟨rfl, rfl, hM⟩
theorem d_Mod_in_0 : decode prog_10_method_3_code 0 = .ok (.iload_n 0, 1) := by decide +kernel
theorem d_Mod_in_1 : decode prog_10_method_3_code 1 = .ok (.iload_n 1, 1) := by decide +kernel
theorem d_Mod_in_2 : decode prog_10_method_3_code 2 = .ok (.if_icmp .lt 12, 3) := by decide +kernel
theorem d_Mod_in_5 : decode prog_10_method_3_code 5 = .ok (.iload_n 0, 1) := by decide +kernel
theorem d_Mod_in_6 : decode prog_10_method_3_code 6 = .ok (.iload_n 2, 1) := by decide +kernel
theorem d_Mod_in_7 : decode prog_10_method_3_code 7 = .ok (.if_icmp .gt 7, 3) := by decide +kernel
theorem d_Mod_in_10 : decode prog_10_method_3_code 10 = .ok (.iconst 1, 1) := by decide +kernel
theorem d_Mod_in_11 : decode prog_10_method_3_code 11 = .ok (.goto 4, 3) := by decide +kernel
theorem d_Mod_in_14 : decode prog_10_method_3_code 14 = .ok (.iconst 0, 1) := by decide +kernel
theorem d_Mod_in_15 : decode prog_10_method_3_code 15 = .ok (.ireturn, 1) := by decide +kernel
def m_in (x0 x1 x2 : Int32) : Option Int32 := (if x0 < x1 then some 0 else (if x2 < x0 then some 0 else some 1))
set_option maxHeartbeats 4000000 in
set_option maxRecDepth 100000 in
theorem c_Mod_in {x0 x1 x2 : Int32} {res : Int32} (h : m_in x0 x1 x2 = some res) : zK l D ck ad b0 y_Mod_in prog_10_method_3_code 3 ((some FieldType.boolean)) 0 0 0 [.int x0, .int x1, .int x2] N f (fun r N' f' => r = some (.int res) ∧ N = N' ∧ f = f') := by
  refine zM.of zG_w (by decide) (Nat.le_of_ble_eq_true rfl) ?_
  intro zp ze zst zm zar zbe zme zc X hnm hb0
  rw [m_in] at h
  refine z_iload_n X d_Mod_in_0 rfl ?_
  refine z_iload_n X d_Mod_in_1 rfl ?_
  refine z_icmp_lt X 14 d_Mod_in_2 (by decide) (fun h2 => ?_) (fun h2 => ?_)
  · skip
    have h := (if_pos h2).symm.trans h
    refine z_iconst X d_Mod_in_14 (v := 0) (by decide) ?_
    cases h
    exact z_zret X d_Mod_in_15 rfl ⟨rfl, rfl, rfl⟩
  · skip
    have h := (if_neg h2).symm.trans h
    refine z_iload_n X d_Mod_in_5 rfl ?_
    refine z_iload_n X d_Mod_in_6 rfl ?_
    refine z_icmp_gt X 14 d_Mod_in_7 (by decide) (fun h7 => ?_) (fun h7 => ?_)
    · skip
      have h := (if_pos h7).symm.trans h
      refine z_iconst X d_Mod_in_14 (v := 0) (by decide) ?_
      cases h
      exact z_zret X d_Mod_in_15 rfl ⟨rfl, rfl, rfl⟩
    · skip
      have h := (if_neg h7).symm.trans h
      refine z_iconst X d_Mod_in_10 (v := 1) (by decide) ?_
      refine z_goto X 15 d_Mod_in_11 (by decide) ?_
      cases h
      exact z_zret X d_Mod_in_15 rfl ⟨rfl, rfl, rfl⟩
theorem d_Mod_isRule_0 : decode prog_10_method_4_code 0 = .ok (.iload_n 1, 1) := by decide +kernel
theorem d_Mod_isRule_1 : decode prog_10_method_4_code 1 = .ok (.ifCond .lt 15, 3) := by decide +kernel
theorem d_Mod_isRule_4 : decode prog_10_method_4_code 4 = .ok (.iload_n 1, 1) := by decide +kernel
theorem d_Mod_isRule_5 : decode prog_10_method_4_code 5 = .ok (.aload_n 0, 1) := by decide +kernel
theorem d_Mod_isRule_6 : decode prog_10_method_4_code 6 = .ok (.getfield 97, 3) := by decide +kernel
theorem d_Mod_isRule_9 : decode prog_10_method_4_code 9 = .ok (.if_icmp .ge 7, 3) := by decide +kernel
theorem d_Mod_isRule_12 : decode prog_10_method_4_code 12 = .ok (.iconst 1, 1) := by decide +kernel
theorem d_Mod_isRule_13 : decode prog_10_method_4_code 13 = .ok (.goto 4, 3) := by decide +kernel
theorem d_Mod_isRule_16 : decode prog_10_method_4_code 16 = .ok (.iconst 0, 1) := by decide +kernel
theorem d_Mod_isRule_17 : decode prog_10_method_4_code 17 = .ok (.ireturn, 1) := by decide +kernel
def m_isRule (x1 : Int32) (μ : MS) : Option (Int32 × MS) := (if x1 < 0 then some (0, μ) else (if (μ.1 3) ≤ x1 then some (0, μ) else some (1, μ)))
set_option maxHeartbeats 4000000 in
set_option maxRecDepth 100000 in
theorem c_Mod_isRule {A : Nat → Nat} {f0 : Nat → va_E} {μ : MS} {x1 : Int32} {res : (Int32 × MS)} (hM : zMf ck b0 N A f0 f μ) (h : m_isRule x1 μ = some res) : zK l D ck ad b0 y_Mod_isRule prog_10_method_4_code 2 ((some FieldType.boolean)) 0 0 0 [.ref (A 38), .int x1] N f (fun r N' f' => r = some (.int res.1) ∧ N = N' ∧ zMf ck b0 N A f0 f' res.2) := by
  refine zM.of zG_w (by decide) (Nat.le_of_ble_eq_true rfl) ?_
  intro zp ze zst zm zar zbe zme zc X hnm hb0
  rw [m_isRule] at h
  refine z_iload_n X d_Mod_isRule_0 rfl ?_
  refine z_if_lt X 16 d_Mod_isRule_1 (by decide) (fun h1 => ?_) (fun h1 => ?_)
  · skip
    have h := (if_pos h1).symm.trans h
    refine z_iconst X d_Mod_isRule_16 (v := 0) (by decide) ?_
    cases h
    exact z_zret X d_Mod_isRule_17 rfl ⟨rfl, rfl, hM⟩
  · skip
    have h := (if_neg h1).symm.trans h
    refine z_iload_n X d_Mod_isRule_4 rfl ?_
    refine z_aload_n X d_Mod_isRule_5 rfl ?_
    refine z_get X (v := .int (μ.1 3)) d_Mod_isRule_6 (hM.lo 38 (by decide)) hM.ob cl_Mod in_Mod 3 (by decide) fl_Mod_97 rfl rfl ?_
    refine z_icmp_ge X 16 d_Mod_isRule_9 (by decide) (fun h9 => ?_) (fun h9 => ?_)
    · skip
      have h := (if_pos h9).symm.trans h
      refine z_iconst X d_Mod_isRule_16 (v := 0) (by decide) ?_
      cases h
      exact z_zret X d_Mod_isRule_17 rfl ⟨rfl, rfl, hM⟩
    · skip
      have h := (if_neg h9).symm.trans h
      refine z_iconst X d_Mod_isRule_12 (v := 1) (by decide) ?_
      refine z_goto X 17 d_Mod_isRule_13 (by decide) ?_
      cases h
      exact z_zret X d_Mod_isRule_17 rfl ⟨rfl, rfl, hM⟩
theorem d_Mod_sign_0 : decode prog_10_method_5_code 0 = .ok (.aload_n 0, 1) := by decide +kernel
theorem d_Mod_sign_1 : decode prog_10_method_5_code 1 = .ok (.iconst 0, 1) := by decide +kernel
theorem d_Mod_sign_2 : decode prog_10_method_5_code 2 = .ok (.putfield 93, 3) := by decide +kernel
theorem d_Mod_sign_5 : decode prog_10_method_5_code 5 = .ok (.iload_n 1, 1) := by decide +kernel
theorem d_Mod_sign_6 : decode prog_10_method_5_code 6 = .ok (.bipush 32, 2) := by decide +kernel
theorem d_Mod_sign_8 : decode prog_10_method_5_code 8 = .ok (.bipush 126, 2) := by decide +kernel
theorem d_Mod_sign_10 : decode prog_10_method_5_code 10 = .ok (.invokestatic 100, 3) := by decide +kernel
theorem d_Mod_sign_13 : decode prog_10_method_5_code 13 = .ok (.ifCond .eq 13, 3) := by decide +kernel
theorem d_Mod_sign_16 : decode prog_10_method_5_code 16 = .ok (.aload_n 0, 1) := by decide +kernel
theorem d_Mod_sign_17 : decode prog_10_method_5_code 17 = .ok (.getfield 104, 3) := by decide +kernel
theorem d_Mod_sign_20 : decode prog_10_method_5_code 20 = .ok (.sipush 200, 3) := by decide +kernel
theorem d_Mod_sign_23 : decode prog_10_method_5_code 23 = .ok (.if_icmp .ne 5, 3) := by decide +kernel
theorem d_Mod_sign_26 : decode prog_10_method_5_code 26 = .ok (.iconst 0, 1) := by decide +kernel
theorem d_Mod_sign_27 : decode prog_10_method_5_code 27 = .ok (.ireturn, 1) := by decide +kernel
theorem d_Mod_sign_28 : decode prog_10_method_5_code 28 = .ok (.aload_n 0, 1) := by decide +kernel
theorem d_Mod_sign_29 : decode prog_10_method_5_code 29 = .ok (.getfield 7, 3) := by decide +kernel
theorem d_Mod_sign_32 : decode prog_10_method_5_code 32 = .ok (.aload_n 0, 1) := by decide +kernel
theorem d_Mod_sign_33 : decode prog_10_method_5_code 33 = .ok (.getfield 104, 3) := by decide +kernel
theorem d_Mod_sign_36 : decode prog_10_method_5_code 36 = .ok (.iload_n 1, 1) := by decide +kernel
theorem d_Mod_sign_37 : decode prog_10_method_5_code 37 = .ok (.iastore, 1) := by decide +kernel
theorem d_Mod_sign_38 : decode prog_10_method_5_code 38 = .ok (.aload_n 0, 1) := by decide +kernel
theorem d_Mod_sign_39 : decode prog_10_method_5_code 39 = .ok (.dup, 1) := by decide +kernel
theorem d_Mod_sign_40 : decode prog_10_method_5_code 40 = .ok (.getfield 104, 3) := by decide +kernel
theorem d_Mod_sign_43 : decode prog_10_method_5_code 43 = .ok (.iconst 1, 1) := by decide +kernel
theorem d_Mod_sign_44 : decode prog_10_method_5_code 44 = .ok (.iadd, 1) := by decide +kernel
theorem d_Mod_sign_45 : decode prog_10_method_5_code 45 = .ok (.putfield 104, 3) := by decide +kernel
theorem d_Mod_sign_48 : decode prog_10_method_5_code 48 = .ok (.iconst 1, 1) := by decide +kernel
theorem d_Mod_sign_49 : decode prog_10_method_5_code 49 = .ok (.ireturn, 1) := by decide +kernel
def m_sign (x1 : Int32) (μ : MS) : Option (Int32 × MS) := (m_in x1 32 126).bind (fun p10 => (if p10 = 0 then some (0, (sI 0 0 μ)) else (if (μ.1 2) = 200 then some (0, (sI 0 0 μ)) else (if inb (μ.1 2) 200 = true then some (1, (sI 2 ((μ.1 2) + 1) (sA 1 ((μ.1 2).toNatClampNeg) x1 (sI 0 0 μ)))) else none))))
set_option maxHeartbeats 4000000 in
set_option maxRecDepth 100000 in
theorem c_Mod_sign {A : Nat → Nat} {f0 : Nat → va_E} {μ : MS} {x1 : Int32} {res : (Int32 × MS)} (hM : zMf ck b0 N A f0 f μ) (h : m_sign x1 μ = some res) : zK l D ck ad b0 y_Mod_sign prog_10_method_5_code 2 ((some FieldType.boolean)) 1 0 0 [.ref (A 38), .int x1] N f (fun r N' f' => r = some (.int res.1) ∧ N = N' ∧ zMf ck b0 N A f0 f' res.2) := by
  refine zM.of zG_w (by decide) (Nat.le_of_ble_eq_true rfl) ?_
  intro zp ze zst zm zar zbe zme zc X hnm hb0
  rw [m_sign] at h
  refine z_aload_n X d_Mod_sign_0 rfl ?_
  refine z_iconst X d_Mod_sign_1 (v := 0) (by decide) ?_
  refine z_putM X t_Mod ty_Mod n_Mod d_Mod_sign_2 hM cl_Mod in_Mod 0 (by decide) fl_Mod_93 rfl rfl rfl (by decide) rfl (fun hM => ?_)
  refine z_iload_n X d_Mod_sign_5 rfl ?_
  refine z_bipush X d_Mod_sign_6 (v := 32) (by decide) ?_
  refine z_bipush X d_Mod_sign_8 (v := 126) (by decide) ?_
  obtain ⟨p10, q10, h⟩ := bd h
  refine z_callS X zG_ok (c_Mod_in q10) d_Mod_sign_10 ⟨(z_cb (n := 3) X.2.2.2.2.1 ml_Mod_100 mc_Mod_in ini_Mod (by decide +kernel) rfl rfl ⟨Nat.le_of_ble_eq_true rfl, Nat.le_of_ble_eq_true rfl⟩), X.2.2.2.2.1 _ st_Mod_in⟩ rfl rfl (Nat.le_of_ble_eq_true rfl) ⟨Nat.le_of_ble_eq_true rfl, Nat.le_of_ble_eq_true rfl⟩ (fun r N1 f1 hp hN1 => ?_)
  obtain ⟨rfl, rfl, rfl⟩ := hp
  refine z_if_eq X 26 d_Mod_sign_13 (by decide) (fun h13 => ?_) (fun h13 => ?_)
  · skip
    have h := (if_pos h13).symm.trans h
    refine z_iconst X d_Mod_sign_26 (v := 0) (by decide) ?_
    cases h
    exact z_zret X d_Mod_sign_27 rfl ⟨rfl, rfl, hM⟩
  · skip
    have h := (if_neg h13).symm.trans h
    refine z_aload_n X d_Mod_sign_16 rfl ?_
    refine z_get X (v := .int (μ.1 2)) d_Mod_sign_17 (hM.lo 38 (by decide)) hM.ob cl_Mod in_Mod 2 (by decide) fl_Mod_104 rfl rfl ?_
    refine z_sipush X d_Mod_sign_20 (v := 200) (by decide) ?_
    refine z_icmp_ne X 28 d_Mod_sign_23 (by decide) (fun h23 => ?_) (fun h23 => ?_)
    · skip
      have h := (if_neg h23).symm.trans h
      refine z_aload_n X d_Mod_sign_28 rfl ?_
      refine z_get X (v := .ref (A 1)) d_Mod_sign_29 (hM.lo 38 (by decide)) hM.ob cl_Mod in_Mod 1 (by decide) fl_Mod_7 rfl rfl ?_
      refine z_aload_n X d_Mod_sign_32 rfl ?_
      refine z_get X (v := .int (μ.1 2)) d_Mod_sign_33 (hM.lo 38 (by decide)) hM.ob cl_Mod in_Mod 2 (by decide) fl_Mod_104 rfl rfl ?_
      refine z_iload_n X d_Mod_sign_36 rfl ?_
      obtain ⟨b37, h⟩ := gd h
      refine z_iastM X d_Mod_sign_37 hM 1 200 rfl rfl (vp_of b37) (fun hM => ?_)
      refine z_aload_n X d_Mod_sign_38 rfl ?_
      refine z_dup X d_Mod_sign_39 rfl ?_
      refine z_get X (v := .int (μ.1 2)) d_Mod_sign_40 (hM.lo 38 (by decide)) hM.ob cl_Mod in_Mod 2 (by decide) fl_Mod_104 rfl rfl ?_
      refine z_iconst X d_Mod_sign_43 (v := 1) (by decide) ?_
      refine z_iadd X d_Mod_sign_44 ?_
      refine z_putM X t_Mod ty_Mod n_Mod d_Mod_sign_45 hM cl_Mod in_Mod 2 (by decide) fl_Mod_104 rfl rfl rfl (by decide) rfl (fun hM => ?_)
      refine z_iconst X d_Mod_sign_48 (v := 1) (by decide) ?_
      cases h
      exact z_zret X d_Mod_sign_49 rfl ⟨rfl, rfl, hM⟩
    · skip
      have h := (if_pos h23).symm.trans h
      refine z_iconst X d_Mod_sign_26 (v := 0) (by decide) ?_
      cases h
      exact z_zret X d_Mod_sign_27 rfl ⟨rfl, rfl, hM⟩
theorem d_Mod_look_0 : decode prog_10_method_6_code 0 = .ok (.aload_n 0, 1) := by decide +kernel
theorem d_Mod_look_1 : decode prog_10_method_6_code 1 = .ok (.getfield 107, 3) := by decide +kernel
theorem d_Mod_look_4 : decode prog_10_method_6_code 4 = .ok (.aload_n 0, 1) := by decide +kernel
theorem d_Mod_look_5 : decode prog_10_method_6_code 5 = .ok (.getfield 104, 3) := by decide +kernel
theorem d_Mod_look_8 : decode prog_10_method_6_code 8 = .ok (.if_icmp .ge 30, 3) := by decide +kernel
theorem d_Mod_look_11 : decode prog_10_method_6_code 11 = .ok (.aload_n 0, 1) := by decide +kernel
theorem d_Mod_look_12 : decode prog_10_method_6_code 12 = .ok (.getfield 7, 3) := by decide +kernel
theorem d_Mod_look_15 : decode prog_10_method_6_code 15 = .ok (.aload_n 0, 1) := by decide +kernel
theorem d_Mod_look_16 : decode prog_10_method_6_code 16 = .ok (.getfield 107, 3) := by decide +kernel
theorem d_Mod_look_19 : decode prog_10_method_6_code 19 = .ok (.iaload, 1) := by decide +kernel
theorem d_Mod_look_20 : decode prog_10_method_6_code 20 = .ok (.bipush 32, 2) := by decide +kernel
theorem d_Mod_look_22 : decode prog_10_method_6_code 22 = .ok (.if_icmp .ne 16, 3) := by decide +kernel
theorem d_Mod_look_25 : decode prog_10_method_6_code 25 = .ok (.aload_n 0, 1) := by decide +kernel
theorem d_Mod_look_26 : decode prog_10_method_6_code 26 = .ok (.dup, 1) := by decide +kernel
theorem d_Mod_look_27 : decode prog_10_method_6_code 27 = .ok (.getfield 107, 3) := by decide +kernel
theorem d_Mod_look_30 : decode prog_10_method_6_code 30 = .ok (.iconst 1, 1) := by decide +kernel
theorem d_Mod_look_31 : decode prog_10_method_6_code 31 = .ok (.iadd, 1) := by decide +kernel
theorem d_Mod_look_32 : decode prog_10_method_6_code 32 = .ok (.putfield 107, 3) := by decide +kernel
theorem d_Mod_look_35 : decode prog_10_method_6_code 35 = .ok (.goto (-35), 3) := by decide +kernel
theorem d_Mod_look_38 : decode prog_10_method_6_code 38 = .ok (.aload_n 0, 1) := by decide +kernel
theorem d_Mod_look_39 : decode prog_10_method_6_code 39 = .ok (.getfield 107, 3) := by decide +kernel
theorem d_Mod_look_42 : decode prog_10_method_6_code 42 = .ok (.aload_n 0, 1) := by decide +kernel
theorem d_Mod_look_43 : decode prog_10_method_6_code 43 = .ok (.getfield 104, 3) := by decide +kernel
theorem d_Mod_look_46 : decode prog_10_method_6_code 46 = .ok (.if_icmp .ge 15, 3) := by decide +kernel
theorem d_Mod_look_49 : decode prog_10_method_6_code 49 = .ok (.aload_n 0, 1) := by decide +kernel
theorem d_Mod_look_50 : decode prog_10_method_6_code 50 = .ok (.getfield 7, 3) := by decide +kernel
theorem d_Mod_look_53 : decode prog_10_method_6_code 53 = .ok (.aload_n 0, 1) := by decide +kernel
theorem d_Mod_look_54 : decode prog_10_method_6_code 54 = .ok (.getfield 107, 3) := by decide +kernel
theorem d_Mod_look_57 : decode prog_10_method_6_code 57 = .ok (.iaload, 1) := by decide +kernel
theorem d_Mod_look_58 : decode prog_10_method_6_code 58 = .ok (.goto 4, 3) := by decide +kernel
theorem d_Mod_look_61 : decode prog_10_method_6_code 61 = .ok (.iconst (-1), 1) := by decide +kernel
theorem d_Mod_look_62 : decode prog_10_method_6_code 62 = .ok (.ireturn, 1) := by decide +kernel
def m_look_B : Nat → Nat → MS → Option (Int32 × MS)
  | 0, _, _ => none
  | n + 1, _, μ => (if (μ.1 2) ≤ (μ.1 25) then some ((-1), μ) else (if inb (μ.1 25) 200 = true then (if ((μ.2.1 1) (μ.1 25).toNatClampNeg) = 32 then m_look_B n 0 (sI 25 ((μ.1 25) + 1) μ) else some (((μ.2.1 1) (μ.1 25).toNatClampNeg), μ)) else none))
def m_look (μ : MS) : Option (Int32 × MS) := m_look_B 4096 0 μ
set_option maxHeartbeats 4000000 in
set_option maxRecDepth 100000 in
theorem c_Mod_look {A : Nat → Nat} {f0 : Nat → va_E} {μ : MS} {res : (Int32 × MS)} (hM : zMf ck b0 N A f0 f μ) (h : m_look μ = some res) : zK l D ck ad b0 y_Mod_look prog_10_method_6_code 1 ((some FieldType.int)) 0 0 0 [.ref (A 38)] N f (fun r N' f' => r = some (.int res.1) ∧ N = N' ∧ zMf ck b0 N A f0 f' res.2) := by
  refine zM.of zG_w (by decide) (Nat.le_of_ble_eq_true rfl) ?_
  intro zp ze zst zm zar zbe zme zc X hnm hb0
  have L : ∀ n : Nat, (∀  (f1 : Nat → va_E) (μ : MS), zMf ck b0 N A f0 f1 μ → m_look_B n 0 μ = some res → zW zp l ze (zR 0 0 0) zst zm zar zbe zme zc D zcl b0 1 0 0 (MQ zbe (zQ D zcl b0 (fun r N' f' => r = some (.int res.1) ∧ N = N' ∧ zMf ck b0 N A f0 f' res.2)) zar zst 0 0 (zA b0)) N f1 0 [(0, .ref (A 38))] []) := by
    intro n
    induction n with
    | zero =>
      exact fun  _ _ _ h => (by rw [m_look_B] at h; cases h)
    | succ n ih =>
      · intro  f1 μ hM h
        rw [m_look_B] at h
        refine z_aload_n X d_Mod_look_0 rfl ?_
        refine z_get X (v := .int (μ.1 25)) d_Mod_look_1 (hM.lo 38 (by decide)) hM.ob cl_Mod in_Mod 25 (by decide) fl_Mod_107 rfl rfl ?_
        refine z_aload_n X d_Mod_look_4 rfl ?_
        refine z_get X (v := .int (μ.1 2)) d_Mod_look_5 (hM.lo 38 (by decide)) hM.ob cl_Mod in_Mod 2 (by decide) fl_Mod_104 rfl rfl ?_
        refine z_icmp_ge X 38 d_Mod_look_8 (by decide) (fun h8 => ?_) (fun h8 => ?_)
        · skip
          have h := (if_pos h8).symm.trans h
          refine z_aload_n X d_Mod_look_38 rfl ?_
          refine z_get X (v := .int (μ.1 25)) d_Mod_look_39 (hM.lo 38 (by decide)) hM.ob cl_Mod in_Mod 25 (by decide) fl_Mod_107 rfl rfl ?_
          refine z_aload_n X d_Mod_look_42 rfl ?_
          refine z_get X (v := .int (μ.1 2)) d_Mod_look_43 (hM.lo 38 (by decide)) hM.ob cl_Mod in_Mod 2 (by decide) fl_Mod_104 rfl rfl ?_
          refine z_icmp_ge X 61 d_Mod_look_46 (by decide) (fun h46 => ?_) (fun h46 => ?_)
          · skip
            refine z_iconst X d_Mod_look_61 (v := -1) (by decide) ?_
            cases h
            exact z_iret X d_Mod_look_62 ⟨rfl, rfl, hM⟩
          · skip
            exact absurd h8 h46
        · skip
          have h := (if_neg h8).symm.trans h
          refine z_aload_n X d_Mod_look_11 rfl ?_
          refine z_get X (v := .ref (A 1)) d_Mod_look_12 (hM.lo 38 (by decide)) hM.ob cl_Mod in_Mod 1 (by decide) fl_Mod_7 rfl rfl ?_
          refine z_aload_n X d_Mod_look_15 rfl ?_
          refine z_get X (v := .int (μ.1 25)) d_Mod_look_16 (hM.lo 38 (by decide)) hM.ob cl_Mod in_Mod 25 (by decide) fl_Mod_107 rfl rfl ?_
          obtain ⟨b19, h⟩ := gd h
          refine z_iald X (g := (μ.2.1 1)) d_Mod_look_19 (hM.lo 1 (by decide)) (hM.iA 1 200 rfl) (t0 := 0) rfl (vp_of b19) ?_
          refine z_bipush X d_Mod_look_20 (v := 32) (by decide) ?_
          refine z_icmp_ne X 38 d_Mod_look_22 (by decide) (fun h22 => ?_) (fun h22 => ?_)
          · skip
            have h := (if_neg h22).symm.trans h
            refine z_aload_n X d_Mod_look_38 rfl ?_
            refine z_get X (v := .int (μ.1 25)) d_Mod_look_39 (hM.lo 38 (by decide)) hM.ob cl_Mod in_Mod 25 (by decide) fl_Mod_107 rfl rfl ?_
            refine z_aload_n X d_Mod_look_42 rfl ?_
            refine z_get X (v := .int (μ.1 2)) d_Mod_look_43 (hM.lo 38 (by decide)) hM.ob cl_Mod in_Mod 2 (by decide) fl_Mod_104 rfl rfl ?_
            refine z_icmp_ge X 61 d_Mod_look_46 (by decide) (fun h46 => ?_) (fun h46 => ?_)
            · skip
              exact absurd h46 h8
            · skip
              refine z_aload_n X d_Mod_look_49 rfl ?_
              refine z_get X (v := .ref (A 1)) d_Mod_look_50 (hM.lo 38 (by decide)) hM.ob cl_Mod in_Mod 1 (by decide) fl_Mod_7 rfl rfl ?_
              refine z_aload_n X d_Mod_look_53 rfl ?_
              refine z_get X (v := .int (μ.1 25)) d_Mod_look_54 (hM.lo 38 (by decide)) hM.ob cl_Mod in_Mod 25 (by decide) fl_Mod_107 rfl rfl ?_
              refine z_iald X (g := (μ.2.1 1)) d_Mod_look_57 (hM.lo 1 (by decide)) (hM.iA 1 200 rfl) (t0 := 0) rfl (vp_of b19) ?_
              refine z_goto X 62 d_Mod_look_58 (by decide) ?_
              cases h
              exact z_iret X d_Mod_look_62 ⟨rfl, rfl, hM⟩
          · skip
            have h := (if_pos h22).symm.trans h
            refine z_aload_n X d_Mod_look_25 rfl ?_
            refine z_dup X d_Mod_look_26 rfl ?_
            refine z_get X (v := .int (μ.1 25)) d_Mod_look_27 (hM.lo 38 (by decide)) hM.ob cl_Mod in_Mod 25 (by decide) fl_Mod_107 rfl rfl ?_
            refine z_iconst X d_Mod_look_30 (v := 1) (by decide) ?_
            refine z_iadd X d_Mod_look_31 ?_
            refine z_putM X t_Mod ty_Mod n_Mod d_Mod_look_32 hM cl_Mod in_Mod 25 (by decide) fl_Mod_107 rfl rfl rfl (by decide) rfl (fun hM => ?_)
            refine z_goto X 0 d_Mod_look_35 (by decide) ?_
            refine zW.pick [0] (lv' := [(0, .ref (A 38))]) rfl ?_
            exact (ih) _ _ hM h
  rw [m_look] at h
  refine zW.pick [0] (lv' := [(0, .ref (A 38))]) rfl ?_
  exact (L 4096) _ _ hM h
theorem d_Mod_isDigit_0 : decode prog_10_method_7_code 0 = .ok (.iload_n 0, 1) := by decide +kernel
theorem d_Mod_isDigit_1 : decode prog_10_method_7_code 1 = .ok (.bipush 48, 2) := by decide +kernel
theorem d_Mod_isDigit_3 : decode prog_10_method_7_code 3 = .ok (.bipush 57, 2) := by decide +kernel
theorem d_Mod_isDigit_5 : decode prog_10_method_7_code 5 = .ok (.invokestatic 100, 3) := by decide +kernel
theorem d_Mod_isDigit_8 : decode prog_10_method_7_code 8 = .ok (.ireturn, 1) := by decide +kernel
def m_isDigit (x0 : Int32) : Option Int32 := (m_in x0 48 57).bind (fun p5 => (if is01 p5 = true then some p5 else none))
set_option maxHeartbeats 4000000 in
set_option maxRecDepth 100000 in
theorem c_Mod_isDigit {x0 : Int32} {res : Int32} (h : m_isDigit x0 = some res) : zK l D ck ad b0 y_Mod_isDigit prog_10_method_7_code 1 ((some FieldType.boolean)) 1 0 0 [.int x0] N f (fun r N' f' => r = some (.int res) ∧ N = N' ∧ f = f') := by
  refine zM.of zG_w (by decide) (Nat.le_of_ble_eq_true rfl) ?_
  intro zp ze zst zm zar zbe zme zc X hnm hb0
  rw [m_isDigit] at h
  refine z_iload_n X d_Mod_isDigit_0 rfl ?_
  refine z_bipush X d_Mod_isDigit_1 (v := 48) (by decide) ?_
  refine z_bipush X d_Mod_isDigit_3 (v := 57) (by decide) ?_
  obtain ⟨p5, q5, h⟩ := bd h
  refine z_callS X zG_ok (c_Mod_in q5) d_Mod_isDigit_5 ⟨(z_cb (n := 3) X.2.2.2.2.1 ml_Mod_100 mc_Mod_in ini_Mod (by decide +kernel) rfl rfl ⟨Nat.le_of_ble_eq_true rfl, Nat.le_of_ble_eq_true rfl⟩), X.2.2.2.2.1 _ st_Mod_in⟩ rfl rfl (Nat.le_of_ble_eq_true rfl) ⟨Nat.le_of_ble_eq_true rfl, Nat.le_of_ble_eq_true rfl⟩ (fun r N1 f1 hp hN1 => ?_)
  obtain ⟨rfl, rfl, rfl⟩ := hp
  obtain ⟨z8, h⟩ := gd h
  cases h
  exact z_zret X d_Mod_isDigit_8 (n01 z8) ⟨rfl, rfl, rfl⟩
theorem d_Mod_isSmall_0 : decode prog_10_method_8_code 0 = .ok (.iload_n 0, 1) := by decide +kernel
theorem d_Mod_isSmall_1 : decode prog_10_method_8_code 1 = .ok (.bipush 97, 2) := by decide +kernel
theorem d_Mod_isSmall_3 : decode prog_10_method_8_code 3 = .ok (.bipush 122, 2) := by decide +kernel
theorem d_Mod_isSmall_5 : decode prog_10_method_8_code 5 = .ok (.invokestatic 100, 3) := by decide +kernel
theorem d_Mod_isSmall_8 : decode prog_10_method_8_code 8 = .ok (.ireturn, 1) := by decide +kernel
def m_isSmall (x0 : Int32) : Option Int32 := (m_in x0 97 122).bind (fun p5 => (if is01 p5 = true then some p5 else none))
set_option maxHeartbeats 4000000 in
set_option maxRecDepth 100000 in
theorem c_Mod_isSmall {x0 : Int32} {res : Int32} (h : m_isSmall x0 = some res) : zK l D ck ad b0 y_Mod_isSmall prog_10_method_8_code 1 ((some FieldType.boolean)) 1 0 0 [.int x0] N f (fun r N' f' => r = some (.int res) ∧ N = N' ∧ f = f') := by
  refine zM.of zG_w (by decide) (Nat.le_of_ble_eq_true rfl) ?_
  intro zp ze zst zm zar zbe zme zc X hnm hb0
  rw [m_isSmall] at h
  refine z_iload_n X d_Mod_isSmall_0 rfl ?_
  refine z_bipush X d_Mod_isSmall_1 (v := 97) (by decide) ?_
  refine z_bipush X d_Mod_isSmall_3 (v := 122) (by decide) ?_
  obtain ⟨p5, q5, h⟩ := bd h
  refine z_callS X zG_ok (c_Mod_in q5) d_Mod_isSmall_5 ⟨(z_cb (n := 3) X.2.2.2.2.1 ml_Mod_100 mc_Mod_in ini_Mod (by decide +kernel) rfl rfl ⟨Nat.le_of_ble_eq_true rfl, Nat.le_of_ble_eq_true rfl⟩), X.2.2.2.2.1 _ st_Mod_in⟩ rfl rfl (Nat.le_of_ble_eq_true rfl) ⟨Nat.le_of_ble_eq_true rfl, Nat.le_of_ble_eq_true rfl⟩ (fun r N1 f1 hp hN1 => ?_)
  obtain ⟨rfl, rfl, rfl⟩ := hp
  obtain ⟨z8, h⟩ := gd h
  cases h
  exact z_zret X d_Mod_isSmall_8 (n01 z8) ⟨rfl, rfl, rfl⟩
theorem d_Mod_word_0 : decode prog_10_method_9_code 0 = .ok (.iconst 0, 1) := by decide +kernel
theorem d_Mod_word_1 : decode prog_10_method_9_code 1 = .ok (.istore_n 1, 1) := by decide +kernel
theorem d_Mod_word_2 : decode prog_10_method_9_code 2 = .ok (.lconst 0, 1) := by decide +kernel
theorem d_Mod_word_3 : decode prog_10_method_9_code 3 = .ok (.lstore_n 2, 1) := by decide +kernel
theorem d_Mod_word_4 : decode prog_10_method_9_code 4 = .ok (.aload_n 0, 1) := by decide +kernel
theorem d_Mod_word_5 : decode prog_10_method_9_code 5 = .ok (.getfield 107, 3) := by decide +kernel
theorem d_Mod_word_8 : decode prog_10_method_9_code 8 = .ok (.iload_n 1, 1) := by decide +kernel
theorem d_Mod_word_9 : decode prog_10_method_9_code 9 = .ok (.iadd, 1) := by decide +kernel
theorem d_Mod_word_10 : decode prog_10_method_9_code 10 = .ok (.aload_n 0, 1) := by decide +kernel
theorem d_Mod_word_11 : decode prog_10_method_9_code 11 = .ok (.getfield 104, 3) := by decide +kernel
theorem d_Mod_word_14 : decode prog_10_method_9_code 14 = .ok (.if_icmp .ge 61, 3) := by decide +kernel
theorem d_Mod_word_17 : decode prog_10_method_9_code 17 = .ok (.aload_n 0, 1) := by decide +kernel
theorem d_Mod_word_18 : decode prog_10_method_9_code 18 = .ok (.getfield 7, 3) := by decide +kernel
theorem d_Mod_word_21 : decode prog_10_method_9_code 21 = .ok (.aload_n 0, 1) := by decide +kernel
theorem d_Mod_word_22 : decode prog_10_method_9_code 22 = .ok (.getfield 107, 3) := by decide +kernel
theorem d_Mod_word_25 : decode prog_10_method_9_code 25 = .ok (.iload_n 1, 1) := by decide +kernel
theorem d_Mod_word_26 : decode prog_10_method_9_code 26 = .ok (.iadd, 1) := by decide +kernel
theorem d_Mod_word_27 : decode prog_10_method_9_code 27 = .ok (.iaload, 1) := by decide +kernel
theorem d_Mod_word_28 : decode prog_10_method_9_code 28 = .ok (.invokestatic 110, 3) := by decide +kernel
theorem d_Mod_word_31 : decode prog_10_method_9_code 31 = .ok (.ifCond .eq 44, 3) := by decide +kernel
theorem d_Mod_word_34 : decode prog_10_method_9_code 34 = .ok (.iload_n 1, 1) := by decide +kernel
theorem d_Mod_word_35 : decode prog_10_method_9_code 35 = .ok (.bipush 8, 2) := by decide +kernel
theorem d_Mod_word_37 : decode prog_10_method_9_code 37 = .ok (.if_icmp .ge 30, 3) := by decide +kernel
theorem d_Mod_word_40 : decode prog_10_method_9_code 40 = .ok (.ldc2_w 114, 3) := by decide +kernel
theorem d_Mod_word_43 : decode prog_10_method_9_code 43 = .ok (.lload_n 2, 1) := by decide +kernel
theorem d_Mod_word_44 : decode prog_10_method_9_code 44 = .ok (.lmul, 1) := by decide +kernel
theorem d_Mod_word_45 : decode prog_10_method_9_code 45 = .ok (.aload_n 0, 1) := by decide +kernel
theorem d_Mod_word_46 : decode prog_10_method_9_code 46 = .ok (.getfield 7, 3) := by decide +kernel
theorem d_Mod_word_49 : decode prog_10_method_9_code 49 = .ok (.aload_n 0, 1) := by decide +kernel
theorem d_Mod_word_50 : decode prog_10_method_9_code 50 = .ok (.getfield 107, 3) := by decide +kernel
theorem d_Mod_word_53 : decode prog_10_method_9_code 53 = .ok (.iload_n 1, 1) := by decide +kernel
theorem d_Mod_word_54 : decode prog_10_method_9_code 54 = .ok (.iadd, 1) := by decide +kernel
theorem d_Mod_word_55 : decode prog_10_method_9_code 55 = .ok (.iaload, 1) := by decide +kernel
theorem d_Mod_word_56 : decode prog_10_method_9_code 56 = .ok (.i2l, 1) := by decide +kernel
theorem d_Mod_word_57 : decode prog_10_method_9_code 57 = .ok (.ladd, 1) := by decide +kernel
theorem d_Mod_word_58 : decode prog_10_method_9_code 58 = .ok (.ldc2_w 116, 3) := by decide +kernel
theorem d_Mod_word_61 : decode prog_10_method_9_code 61 = .ok (.lsub, 1) := by decide +kernel
theorem d_Mod_word_62 : decode prog_10_method_9_code 62 = .ok (.lconst 1, 1) := by decide +kernel
theorem d_Mod_word_63 : decode prog_10_method_9_code 63 = .ok (.ladd, 1) := by decide +kernel
theorem d_Mod_word_64 : decode prog_10_method_9_code 64 = .ok (.goto 4, 3) := by decide +kernel
theorem d_Mod_word_67 : decode prog_10_method_9_code 67 = .ok (.lconst 1, 1) := by decide +kernel
theorem d_Mod_word_68 : decode prog_10_method_9_code 68 = .ok (.lstore_n 2, 1) := by decide +kernel
theorem d_Mod_word_69 : decode prog_10_method_9_code 69 = .ok (.iinc 1 1, 3) := by decide +kernel
theorem d_Mod_word_72 : decode prog_10_method_9_code 72 = .ok (.goto (-68), 3) := by decide +kernel
theorem d_Mod_word_75 : decode prog_10_method_9_code 75 = .ok (.lload_n 2, 1) := by decide +kernel
theorem d_Mod_word_76 : decode prog_10_method_9_code 76 = .ok (.ldc2_w 118, 3) := by decide +kernel
theorem d_Mod_word_79 : decode prog_10_method_9_code 79 = .ok (.lcmp, 1) := by decide +kernel
theorem d_Mod_word_80 : decode prog_10_method_9_code 80 = .ok (.ifCond .ne 7, 3) := by decide +kernel
theorem d_Mod_word_83 : decode prog_10_method_9_code 83 = .ok (.iconst 1, 1) := by decide +kernel
theorem d_Mod_word_84 : decode prog_10_method_9_code 84 = .ok (.goto 52, 3) := by decide +kernel
theorem d_Mod_word_87 : decode prog_10_method_9_code 87 = .ok (.lload_n 2, 1) := by decide +kernel
theorem d_Mod_word_88 : decode prog_10_method_9_code 88 = .ok (.ldc2_w 120, 3) := by decide +kernel
theorem d_Mod_word_91 : decode prog_10_method_9_code 91 = .ok (.lcmp, 1) := by decide +kernel
theorem d_Mod_word_92 : decode prog_10_method_9_code 92 = .ok (.ifCond .ne 7, 3) := by decide +kernel
theorem d_Mod_word_95 : decode prog_10_method_9_code 95 = .ok (.iconst 2, 1) := by decide +kernel
theorem d_Mod_word_96 : decode prog_10_method_9_code 96 = .ok (.goto 40, 3) := by decide +kernel
theorem d_Mod_word_99 : decode prog_10_method_9_code 99 = .ok (.lload_n 2, 1) := by decide +kernel
theorem d_Mod_word_100 : decode prog_10_method_9_code 100 = .ok (.ldc2_w 122, 3) := by decide +kernel
theorem d_Mod_word_103 : decode prog_10_method_9_code 103 = .ok (.lcmp, 1) := by decide +kernel
theorem d_Mod_word_104 : decode prog_10_method_9_code 104 = .ok (.ifCond .ne 7, 3) := by decide +kernel
theorem d_Mod_word_107 : decode prog_10_method_9_code 107 = .ok (.iconst 3, 1) := by decide +kernel
theorem d_Mod_word_108 : decode prog_10_method_9_code 108 = .ok (.goto 28, 3) := by decide +kernel
theorem d_Mod_word_111 : decode prog_10_method_9_code 111 = .ok (.lload_n 2, 1) := by decide +kernel
theorem d_Mod_word_112 : decode prog_10_method_9_code 112 = .ok (.ldc2_w 124, 3) := by decide +kernel
theorem d_Mod_word_115 : decode prog_10_method_9_code 115 = .ok (.lcmp, 1) := by decide +kernel
theorem d_Mod_word_116 : decode prog_10_method_9_code 116 = .ok (.ifCond .ne 7, 3) := by decide +kernel
theorem d_Mod_word_119 : decode prog_10_method_9_code 119 = .ok (.iconst 4, 1) := by decide +kernel
theorem d_Mod_word_120 : decode prog_10_method_9_code 120 = .ok (.goto 16, 3) := by decide +kernel
theorem d_Mod_word_123 : decode prog_10_method_9_code 123 = .ok (.lload_n 2, 1) := by decide +kernel
theorem d_Mod_word_124 : decode prog_10_method_9_code 124 = .ok (.ldc2_w 126, 3) := by decide +kernel
theorem d_Mod_word_127 : decode prog_10_method_9_code 127 = .ok (.lcmp, 1) := by decide +kernel
theorem d_Mod_word_128 : decode prog_10_method_9_code 128 = .ok (.ifCond .ne 7, 3) := by decide +kernel
theorem d_Mod_word_131 : decode prog_10_method_9_code 131 = .ok (.iconst 5, 1) := by decide +kernel
theorem d_Mod_word_132 : decode prog_10_method_9_code 132 = .ok (.goto 4, 3) := by decide +kernel
theorem d_Mod_word_135 : decode prog_10_method_9_code 135 = .ok (.iconst 0, 1) := by decide +kernel
theorem d_Mod_word_136 : decode prog_10_method_9_code 136 = .ok (.ireturn, 1) := by decide +kernel
def m_word_B : Nat → Nat → Int32 → Int64 → MS → Option (Int32 × MS)
  | 0, _, _, _, _ => none
  | n + 1, _, x1, x2, μ => (if (μ.1 2) ≤ ((μ.1 25) + x1) then (if (lg_cmp x2 6) = 0 then some (1, μ) else (if (lg_cmp x2 192113) = 0 then some (2, μ) else (if (lg_cmp x2 315211420) = 0 then some (3, μ) else (if (lg_cmp x2 11212) = 0 then some (4, μ) else (if (lg_cmp x2 11425) = 0 then some (5, μ) else some (0, μ)))))) else (if inb ((μ.1 25) + x1) 200 = true then (m_isSmall ((μ.2.1 1) ((μ.1 25) + x1).toNatClampNeg)).bind (fun p28 => (if p28 = 0 then (if (lg_cmp x2 6) = 0 then some (1, μ) else (if (lg_cmp x2 192113) = 0 then some (2, μ) else (if (lg_cmp x2 315211420) = 0 then some (3, μ) else (if (lg_cmp x2 11212) = 0 then some (4, μ) else (if (lg_cmp x2 11425) = 0 then some (5, μ) else some (0, μ)))))) else (if 8 ≤ x1 then m_word_B n 0 (x1 + 1) 1 μ else m_word_B n 0 (x1 + 1) ((((100 * x2) + ((μ.2.1 1) ((μ.1 25) + x1).toNatClampNeg).toInt64) - 97) + 1) μ))) else none))
def m_word (μ : MS) : Option (Int32 × MS) := m_word_B 4096 0 0 0 μ
set_option maxHeartbeats 4000000 in
set_option maxRecDepth 100000 in
theorem c_Mod_word {A : Nat → Nat} {f0 : Nat → va_E} {μ : MS} {res : (Int32 × MS)} (hM : zMf ck b0 N A f0 f μ) (h : m_word μ = some res) : zK l D ck ad b0 y_Mod_word prog_10_method_9_code 4 ((some FieldType.int)) 2 0 0 [.ref (A 38)] N f (fun r N' f' => r = some (.int res.1) ∧ N = N' ∧ zMf ck b0 N A f0 f' res.2) := by
  refine zM.of zG_w (by decide) (Nat.le_of_ble_eq_true rfl) ?_
  intro zp ze zst zm zar zbe zme zc X hnm hb0
  have L : ∀ n : Nat, (∀ (x1 : Int32) (x2 : Int64) (f1 : Nat → va_E) (μ : MS), zMf ck b0 N A f0 f1 μ → m_word_B n 0 x1 x2 μ = some res → zW zp l ze (zR 2 0 0) zst zm zar zbe zme zc D zcl b0 4 0 0 (MQ zbe (zQ D zcl b0 (fun r N' f' => r = some (.int res.1) ∧ N = N' ∧ zMf ck b0 N A f0 f' res.2)) zar zst 0 0 (zA b0)) N f1 4 [(0, .ref (A 38)), (1, .int x1), (2, .long x2)] []) := by
    intro n
    induction n with
    | zero =>
      exact fun _ _ _ _ _ h => (by rw [m_word_B] at h; cases h)
    | succ n ih =>
      · intro x1 x2 f1 μ hM h
        rw [m_word_B] at h
        refine z_aload_n X d_Mod_word_4 rfl ?_
        refine z_get X (v := .int (μ.1 25)) d_Mod_word_5 (hM.lo 38 (by decide)) hM.ob cl_Mod in_Mod 25 (by decide) fl_Mod_107 rfl rfl ?_
        refine z_iload_n X d_Mod_word_8 rfl ?_
        refine z_iadd X d_Mod_word_9 ?_
        refine z_aload_n X d_Mod_word_10 rfl ?_
        refine z_get X (v := .int (μ.1 2)) d_Mod_word_11 (hM.lo 38 (by decide)) hM.ob cl_Mod in_Mod 2 (by decide) fl_Mod_104 rfl rfl ?_
        refine z_icmp_ge X 75 d_Mod_word_14 (by decide) (fun h14 => ?_) (fun h14 => ?_)
        · skip
          have h := (if_pos h14).symm.trans h
          refine z_lload_n X d_Mod_word_75 rfl ?_
          refine z_ldc2 X d_Mod_word_76 k_Mod_118 ?_
          refine z_lcmp X d_Mod_word_79 ?_
          refine z_if_ne X 87 d_Mod_word_80 (by decide) (fun h80 => ?_) (fun h80 => ?_)
          · skip
            have h := (if_neg h80).symm.trans h
            refine z_lload_n X d_Mod_word_87 rfl ?_
            refine z_ldc2 X d_Mod_word_88 k_Mod_120 ?_
            refine z_lcmp X d_Mod_word_91 ?_
            refine z_if_ne X 99 d_Mod_word_92 (by decide) (fun h92 => ?_) (fun h92 => ?_)
            · skip
              have h := (if_neg h92).symm.trans h
              refine z_lload_n X d_Mod_word_99 rfl ?_
              refine z_ldc2 X d_Mod_word_100 k_Mod_122 ?_
              refine z_lcmp X d_Mod_word_103 ?_
              refine z_if_ne X 111 d_Mod_word_104 (by decide) (fun h104 => ?_) (fun h104 => ?_)
              · skip
                have h := (if_neg h104).symm.trans h
                refine z_lload_n X d_Mod_word_111 rfl ?_
                refine z_ldc2 X d_Mod_word_112 k_Mod_124 ?_
                refine z_lcmp X d_Mod_word_115 ?_
                refine z_if_ne X 123 d_Mod_word_116 (by decide) (fun h116 => ?_) (fun h116 => ?_)
                · skip
                  have h := (if_neg h116).symm.trans h
                  refine z_lload_n X d_Mod_word_123 rfl ?_
                  refine z_ldc2 X d_Mod_word_124 k_Mod_126 ?_
                  refine z_lcmp X d_Mod_word_127 ?_
                  refine z_if_ne X 135 d_Mod_word_128 (by decide) (fun h128 => ?_) (fun h128 => ?_)
                  · skip
                    have h := (if_neg h128).symm.trans h
                    refine z_iconst X d_Mod_word_135 (v := 0) (by decide) ?_
                    cases h
                    exact z_iret X d_Mod_word_136 ⟨rfl, rfl, hM⟩
                  · skip
                    have h := (if_pos h128).symm.trans h
                    refine z_iconst X d_Mod_word_131 (v := 5) (by decide) ?_
                    refine z_goto X 136 d_Mod_word_132 (by decide) ?_
                    cases h
                    exact z_iret X d_Mod_word_136 ⟨rfl, rfl, hM⟩
                · skip
                  have h := (if_pos h116).symm.trans h
                  refine z_iconst X d_Mod_word_119 (v := 4) (by decide) ?_
                  refine z_goto X 136 d_Mod_word_120 (by decide) ?_
                  cases h
                  exact z_iret X d_Mod_word_136 ⟨rfl, rfl, hM⟩
              · skip
                have h := (if_pos h104).symm.trans h
                refine z_iconst X d_Mod_word_107 (v := 3) (by decide) ?_
                refine z_goto X 136 d_Mod_word_108 (by decide) ?_
                cases h
                exact z_iret X d_Mod_word_136 ⟨rfl, rfl, hM⟩
            · skip
              have h := (if_pos h92).symm.trans h
              refine z_iconst X d_Mod_word_95 (v := 2) (by decide) ?_
              refine z_goto X 136 d_Mod_word_96 (by decide) ?_
              cases h
              exact z_iret X d_Mod_word_136 ⟨rfl, rfl, hM⟩
          · skip
            have h := (if_pos h80).symm.trans h
            refine z_iconst X d_Mod_word_83 (v := 1) (by decide) ?_
            refine z_goto X 136 d_Mod_word_84 (by decide) ?_
            cases h
            exact z_iret X d_Mod_word_136 ⟨rfl, rfl, hM⟩
        · skip
          have h := (if_neg h14).symm.trans h
          refine z_aload_n X d_Mod_word_17 rfl ?_
          refine z_get X (v := .ref (A 1)) d_Mod_word_18 (hM.lo 38 (by decide)) hM.ob cl_Mod in_Mod 1 (by decide) fl_Mod_7 rfl rfl ?_
          refine z_aload_n X d_Mod_word_21 rfl ?_
          refine z_get X (v := .int (μ.1 25)) d_Mod_word_22 (hM.lo 38 (by decide)) hM.ob cl_Mod in_Mod 25 (by decide) fl_Mod_107 rfl rfl ?_
          refine z_iload_n X d_Mod_word_25 rfl ?_
          refine z_iadd X d_Mod_word_26 ?_
          obtain ⟨b27, h⟩ := gd h
          refine z_iald X (g := (μ.2.1 1)) d_Mod_word_27 (hM.lo 1 (by decide)) (hM.iA 1 200 rfl) (t0 := 0) rfl (vp_of b27) ?_
          obtain ⟨p28, q28, h⟩ := bd h
          refine z_callS X zG_ok (c_Mod_isSmall q28) d_Mod_word_28 ⟨(z_cb (n := 1) X.2.2.2.2.1 ml_Mod_110 mc_Mod_isSmall ini_Mod (by decide +kernel) rfl rfl ⟨Nat.le_of_ble_eq_true rfl, Nat.le_of_ble_eq_true rfl⟩), X.2.2.2.2.1 _ st_Mod_isSmall⟩ rfl rfl (Nat.le_of_ble_eq_true rfl) ⟨Nat.le_of_ble_eq_true rfl, Nat.le_of_ble_eq_true rfl⟩ (fun r N1 f1 hp hN1 => ?_)
          obtain ⟨rfl, rfl, rfl⟩ := hp
          refine z_if_eq X 75 d_Mod_word_31 (by decide) (fun h31 => ?_) (fun h31 => ?_)
          · skip
            have h := (if_pos h31).symm.trans h
            refine z_lload_n X d_Mod_word_75 rfl ?_
            refine z_ldc2 X d_Mod_word_76 k_Mod_118 ?_
            refine z_lcmp X d_Mod_word_79 ?_
            refine z_if_ne X 87 d_Mod_word_80 (by decide) (fun h80 => ?_) (fun h80 => ?_)
            · skip
              have h := (if_neg h80).symm.trans h
              refine z_lload_n X d_Mod_word_87 rfl ?_
              refine z_ldc2 X d_Mod_word_88 k_Mod_120 ?_
              refine z_lcmp X d_Mod_word_91 ?_
              refine z_if_ne X 99 d_Mod_word_92 (by decide) (fun h92 => ?_) (fun h92 => ?_)
              · skip
                have h := (if_neg h92).symm.trans h
                refine z_lload_n X d_Mod_word_99 rfl ?_
                refine z_ldc2 X d_Mod_word_100 k_Mod_122 ?_
                refine z_lcmp X d_Mod_word_103 ?_
                refine z_if_ne X 111 d_Mod_word_104 (by decide) (fun h104 => ?_) (fun h104 => ?_)
                · skip
                  have h := (if_neg h104).symm.trans h
                  refine z_lload_n X d_Mod_word_111 rfl ?_
                  refine z_ldc2 X d_Mod_word_112 k_Mod_124 ?_
                  refine z_lcmp X d_Mod_word_115 ?_
                  refine z_if_ne X 123 d_Mod_word_116 (by decide) (fun h116 => ?_) (fun h116 => ?_)
                  · skip
                    have h := (if_neg h116).symm.trans h
                    refine z_lload_n X d_Mod_word_123 rfl ?_
                    refine z_ldc2 X d_Mod_word_124 k_Mod_126 ?_
                    refine z_lcmp X d_Mod_word_127 ?_
                    refine z_if_ne X 135 d_Mod_word_128 (by decide) (fun h128 => ?_) (fun h128 => ?_)
                    · skip
                      have h := (if_neg h128).symm.trans h
                      refine z_iconst X d_Mod_word_135 (v := 0) (by decide) ?_
                      cases h
                      exact z_iret X d_Mod_word_136 ⟨rfl, rfl, hM⟩
                    · skip
                      have h := (if_pos h128).symm.trans h
                      refine z_iconst X d_Mod_word_131 (v := 5) (by decide) ?_
                      refine z_goto X 136 d_Mod_word_132 (by decide) ?_
                      cases h
                      exact z_iret X d_Mod_word_136 ⟨rfl, rfl, hM⟩
                  · skip
                    have h := (if_pos h116).symm.trans h
                    refine z_iconst X d_Mod_word_119 (v := 4) (by decide) ?_
                    refine z_goto X 136 d_Mod_word_120 (by decide) ?_
                    cases h
                    exact z_iret X d_Mod_word_136 ⟨rfl, rfl, hM⟩
                · skip
                  have h := (if_pos h104).symm.trans h
                  refine z_iconst X d_Mod_word_107 (v := 3) (by decide) ?_
                  refine z_goto X 136 d_Mod_word_108 (by decide) ?_
                  cases h
                  exact z_iret X d_Mod_word_136 ⟨rfl, rfl, hM⟩
              · skip
                have h := (if_pos h92).symm.trans h
                refine z_iconst X d_Mod_word_95 (v := 2) (by decide) ?_
                refine z_goto X 136 d_Mod_word_96 (by decide) ?_
                cases h
                exact z_iret X d_Mod_word_136 ⟨rfl, rfl, hM⟩
            · skip
              have h := (if_pos h80).symm.trans h
              refine z_iconst X d_Mod_word_83 (v := 1) (by decide) ?_
              refine z_goto X 136 d_Mod_word_84 (by decide) ?_
              cases h
              exact z_iret X d_Mod_word_136 ⟨rfl, rfl, hM⟩
          · skip
            have h := (if_neg h31).symm.trans h
            refine z_iload_n X d_Mod_word_34 rfl ?_
            refine z_bipush X d_Mod_word_35 (v := 8) (by decide) ?_
            refine z_icmp_ge X 67 d_Mod_word_37 (by decide) (fun h37 => ?_) (fun h37 => ?_)
            · skip
              have h := (if_pos h37).symm.trans h
              refine z_lconst X d_Mod_word_67 (v := 1) (by decide) ?_
              refine z_lstore_n X d_Mod_word_68 (by decide) rfl ?_
              refine z_iinc X d_Mod_word_69 rfl (iic 1 1 (by decide) _) (by decide) rfl ?_
              refine z_goto X 4 d_Mod_word_72 (by decide) ?_
              refine zW.pick [0, 1, 2] (lv' := [(0, .ref (A 38)), (1, .int (x1 + 1)), (2, .long 1)]) rfl ?_
              exact (ih) (x1 + 1) 1 _ _ hM h
            · skip
              have h := (if_neg h37).symm.trans h
              refine z_ldc2 X d_Mod_word_40 k_Mod_114 ?_
              refine z_lload_n X d_Mod_word_43 rfl ?_
              refine z_lmul X d_Mod_word_44 ?_
              refine z_aload_n X d_Mod_word_45 rfl ?_
              refine z_get X (v := .ref (A 1)) d_Mod_word_46 (hM.lo 38 (by decide)) hM.ob cl_Mod in_Mod 1 (by decide) fl_Mod_7 rfl rfl ?_
              refine z_aload_n X d_Mod_word_49 rfl ?_
              refine z_get X (v := .int (μ.1 25)) d_Mod_word_50 (hM.lo 38 (by decide)) hM.ob cl_Mod in_Mod 25 (by decide) fl_Mod_107 rfl rfl ?_
              refine z_iload_n X d_Mod_word_53 rfl ?_
              refine z_iadd X d_Mod_word_54 ?_
              refine z_iald X (g := (μ.2.1 1)) d_Mod_word_55 (hM.lo 1 (by decide)) (hM.iA 1 200 rfl) (t0 := 0) rfl (vp_of b27) ?_
              refine z_i2l X d_Mod_word_56 rfl ?_
              refine z_ladd X d_Mod_word_57 ?_
              refine z_ldc2 X d_Mod_word_58 k_Mod_116 ?_
              refine z_lsub X d_Mod_word_61 ?_
              refine z_lconst X d_Mod_word_62 (v := 1) (by decide) ?_
              refine z_ladd X d_Mod_word_63 ?_
              refine z_goto X 68 d_Mod_word_64 (by decide) ?_
              refine z_lstore_n X d_Mod_word_68 (by decide) rfl ?_
              refine z_iinc X d_Mod_word_69 rfl (iic 1 1 (by decide) _) (by decide) rfl ?_
              refine z_goto X 4 d_Mod_word_72 (by decide) ?_
              refine zW.pick [0, 1, 2] (lv' := [(0, .ref (A 38)), (1, .int (x1 + 1)), (2, .long ((((100 * x2) + ((μ.2.1 1) ((μ.1 25) + x1).toNatClampNeg).toInt64) - 97) + 1))]) rfl ?_
              exact (ih) (x1 + 1) ((((100 * x2) + ((μ.2.1 1) ((μ.1 25) + x1).toNatClampNeg).toInt64) - 97) + 1) _ _ hM h
  rw [m_word] at h
  refine z_iconst X d_Mod_word_0 (v := 0) (by decide) ?_
  refine z_istore_n X d_Mod_word_1 (by decide) rfl ?_
  refine z_lconst X d_Mod_word_2 (v := 0) (by decide) ?_
  refine z_lstore_n X d_Mod_word_3 (by decide) rfl ?_
  refine zW.pick [0, 1, 2] (lv' := [(0, .ref (A 38)), (1, .int 0), (2, .long 0)]) rfl ?_
  exact (L 4096) 0 0 _ _ hM h
theorem d_Mod_fail_0 : decode prog_10_method_10_code 0 = .ok (.aload_n 0, 1) := by decide +kernel
theorem d_Mod_fail_1 : decode prog_10_method_10_code 1 = .ok (.aload_n 0, 1) := by decide +kernel
theorem d_Mod_fail_2 : decode prog_10_method_10_code 2 = .ok (.getfield 128, 3) := by decide +kernel
theorem d_Mod_fail_5 : decode prog_10_method_10_code 5 = .ok (.ifCond .ge 7, 3) := by decide +kernel
theorem d_Mod_fail_8 : decode prog_10_method_10_code 8 = .ok (.iload_n 1, 1) := by decide +kernel
theorem d_Mod_fail_9 : decode prog_10_method_10_code 9 = .ok (.goto 7, 3) := by decide +kernel
theorem d_Mod_fail_12 : decode prog_10_method_10_code 12 = .ok (.aload_n 0, 1) := by decide +kernel
theorem d_Mod_fail_13 : decode prog_10_method_10_code 13 = .ok (.getfield 128, 3) := by decide +kernel
theorem d_Mod_fail_16 : decode prog_10_method_10_code 16 = .ok (.putfield 128, 3) := by decide +kernel
theorem d_Mod_fail_19 : decode prog_10_method_10_code 19 = .ok (.return_, 1) := by decide +kernel
def m_fail (x1 : Int32) (μ : MS) : Option MS := (if 0 ≤ (μ.1 27) then some (sI 27 (μ.1 27) μ) else some (sI 27 x1 μ))
set_option maxHeartbeats 4000000 in
set_option maxRecDepth 100000 in
theorem c_Mod_fail {A : Nat → Nat} {f0 : Nat → va_E} {μ : MS} {x1 : Int32} {res : MS} (hM : zMf ck b0 N A f0 f μ) (h : m_fail x1 μ = some res) : zK l D ck ad b0 y_Mod_fail prog_10_method_10_code 2 (none) 0 0 0 [.ref (A 38), .int x1] N f (fun r N' f' => r = none ∧ N = N' ∧ zMf ck b0 N A f0 f' res) := by
  refine zM.of zG_w (by decide) (Nat.le_of_ble_eq_true rfl) ?_
  intro zp ze zst zm zar zbe zme zc X hnm hb0
  rw [m_fail] at h
  refine z_aload_n X d_Mod_fail_0 rfl ?_
  refine z_aload_n X d_Mod_fail_1 rfl ?_
  refine z_get X (v := .int (μ.1 27)) d_Mod_fail_2 (hM.lo 38 (by decide)) hM.ob cl_Mod in_Mod 27 (by decide) fl_Mod_128 rfl rfl ?_
  refine z_if_ge X 12 d_Mod_fail_5 (by decide) (fun h5 => ?_) (fun h5 => ?_)
  · skip
    have h := (if_pos h5).symm.trans h
    refine z_aload_n X d_Mod_fail_12 rfl ?_
    refine z_get X (v := .int (μ.1 27)) d_Mod_fail_13 (hM.lo 38 (by decide)) hM.ob cl_Mod in_Mod 27 (by decide) fl_Mod_128 rfl rfl ?_
    refine z_putM X t_Mod ty_Mod n_Mod d_Mod_fail_16 hM cl_Mod in_Mod 27 (by decide) fl_Mod_128 rfl rfl rfl (by decide) rfl (fun hM => ?_)
    cases h
    exact z_vret X d_Mod_fail_19 ⟨rfl, rfl, hM⟩
  · skip
    have h := (if_neg h5).symm.trans h
    refine z_iload_n X d_Mod_fail_8 rfl ?_
    refine z_goto X 16 d_Mod_fail_9 (by decide) ?_
    refine z_putM X t_Mod ty_Mod n_Mod d_Mod_fail_16 hM cl_Mod in_Mod 27 (by decide) fl_Mod_128 rfl rfl rfl (by decide) rfl (fun hM => ?_)
    cases h
    exact z_vret X d_Mod_fail_19 ⟨rfl, rfl, hM⟩
theorem d_Mod_node_0 : decode prog_10_method_11_code 0 = .ok (.aload_n 0, 1) := by decide +kernel
theorem d_Mod_node_1 : decode prog_10_method_11_code 1 = .ok (.getfield 131, 3) := by decide +kernel
theorem d_Mod_node_4 : decode prog_10_method_11_code 4 = .ok (.bipush 40, 2) := by decide +kernel
theorem d_Mod_node_6 : decode prog_10_method_11_code 6 = .ok (.if_icmp .ne 10, 3) := by decide +kernel
theorem d_Mod_node_9 : decode prog_10_method_11_code 9 = .ok (.aload_n 0, 1) := by decide +kernel
theorem d_Mod_node_10 : decode prog_10_method_11_code 10 = .ok (.iload_n 2, 1) := by decide +kernel
theorem d_Mod_node_11 : decode prog_10_method_11_code 11 = .ok (.invokevirtual 134, 3) := by decide +kernel
theorem d_Mod_node_14 : decode prog_10_method_11_code 14 = .ok (.iconst 0, 1) := by decide +kernel
theorem d_Mod_node_15 : decode prog_10_method_11_code 15 = .ok (.ireturn, 1) := by decide +kernel
theorem d_Mod_node_16 : decode prog_10_method_11_code 16 = .ok (.aload_n 0, 1) := by decide +kernel
theorem d_Mod_node_17 : decode prog_10_method_11_code 17 = .ok (.getfield 56, 3) := by decide +kernel
theorem d_Mod_node_20 : decode prog_10_method_11_code 20 = .ok (.aload_n 0, 1) := by decide +kernel
theorem d_Mod_node_21 : decode prog_10_method_11_code 21 = .ok (.getfield 131, 3) := by decide +kernel
theorem d_Mod_node_24 : decode prog_10_method_11_code 24 = .ok (.iload_n 1, 1) := by decide +kernel
theorem d_Mod_node_25 : decode prog_10_method_11_code 25 = .ok (.iastore, 1) := by decide +kernel
theorem d_Mod_node_26 : decode prog_10_method_11_code 26 = .ok (.aload_n 0, 1) := by decide +kernel
theorem d_Mod_node_27 : decode prog_10_method_11_code 27 = .ok (.getfield 59, 3) := by decide +kernel
theorem d_Mod_node_30 : decode prog_10_method_11_code 30 = .ok (.aload_n 0, 1) := by decide +kernel
theorem d_Mod_node_31 : decode prog_10_method_11_code 31 = .ok (.getfield 131, 3) := by decide +kernel
theorem d_Mod_node_34 : decode prog_10_method_11_code 34 = .ok (.iconst (-1), 1) := by decide +kernel
theorem d_Mod_node_35 : decode prog_10_method_11_code 35 = .ok (.iastore, 1) := by decide +kernel
theorem d_Mod_node_36 : decode prog_10_method_11_code 36 = .ok (.aload_n 0, 1) := by decide +kernel
theorem d_Mod_node_37 : decode prog_10_method_11_code 37 = .ok (.getfield 62, 3) := by decide +kernel
theorem d_Mod_node_40 : decode prog_10_method_11_code 40 = .ok (.aload_n 0, 1) := by decide +kernel
theorem d_Mod_node_41 : decode prog_10_method_11_code 41 = .ok (.getfield 131, 3) := by decide +kernel
theorem d_Mod_node_44 : decode prog_10_method_11_code 44 = .ok (.iconst (-1), 1) := by decide +kernel
theorem d_Mod_node_45 : decode prog_10_method_11_code 45 = .ok (.iastore, 1) := by decide +kernel
theorem d_Mod_node_46 : decode prog_10_method_11_code 46 = .ok (.aload_n 0, 1) := by decide +kernel
theorem d_Mod_node_47 : decode prog_10_method_11_code 47 = .ok (.getfield 65, 3) := by decide +kernel
theorem d_Mod_node_50 : decode prog_10_method_11_code 50 = .ok (.aload_n 0, 1) := by decide +kernel
theorem d_Mod_node_51 : decode prog_10_method_11_code 51 = .ok (.getfield 131, 3) := by decide +kernel
theorem d_Mod_node_54 : decode prog_10_method_11_code 54 = .ok (.iconst (-1), 1) := by decide +kernel
theorem d_Mod_node_55 : decode prog_10_method_11_code 55 = .ok (.iastore, 1) := by decide +kernel
theorem d_Mod_node_56 : decode prog_10_method_11_code 56 = .ok (.aload_n 0, 1) := by decide +kernel
theorem d_Mod_node_57 : decode prog_10_method_11_code 57 = .ok (.dup, 1) := by decide +kernel
theorem d_Mod_node_58 : decode prog_10_method_11_code 58 = .ok (.getfield 131, 3) := by decide +kernel
theorem d_Mod_node_61 : decode prog_10_method_11_code 61 = .ok (.iconst 1, 1) := by decide +kernel
theorem d_Mod_node_62 : decode prog_10_method_11_code 62 = .ok (.iadd, 1) := by decide +kernel
theorem d_Mod_node_63 : decode prog_10_method_11_code 63 = .ok (.putfield 131, 3) := by decide +kernel
theorem d_Mod_node_66 : decode prog_10_method_11_code 66 = .ok (.aload_n 0, 1) := by decide +kernel
theorem d_Mod_node_67 : decode prog_10_method_11_code 67 = .ok (.getfield 131, 3) := by decide +kernel
theorem d_Mod_node_70 : decode prog_10_method_11_code 70 = .ok (.iconst 1, 1) := by decide +kernel
theorem d_Mod_node_71 : decode prog_10_method_11_code 71 = .ok (.isub, 1) := by decide +kernel
theorem d_Mod_node_72 : decode prog_10_method_11_code 72 = .ok (.ireturn, 1) := by decide +kernel
def m_node (x1 x2 : Int32) (μ : MS) : Option (Int32 × MS) := (if (μ.1 24) = 40 then (m_fail x2 μ).bind (fun p11 => some (0, p11)) else (if inb (μ.1 24) 40 = true then some ((((μ.1 24) + 1) - 1), (sI 24 ((μ.1 24) + 1) (sA 23 ((μ.1 24).toNatClampNeg) (-1) (sA 22 ((μ.1 24).toNatClampNeg) (-1) (sA 21 ((μ.1 24).toNatClampNeg) (-1) (sA 20 ((μ.1 24).toNatClampNeg) x1 μ)))))) else none))
set_option maxHeartbeats 4000000 in
set_option maxRecDepth 100000 in
theorem c_Mod_node {A : Nat → Nat} {f0 : Nat → va_E} {μ : MS} {x1 x2 : Int32} {res : (Int32 × MS)} (hM : zMf ck b0 N A f0 f μ) (h : m_node x1 x2 μ = some res) : zK l D ck ad b0 y_Mod_node prog_10_method_11_code 3 ((some FieldType.int)) 1 0 0 [.ref (A 38), .int x1, .int x2] N f (fun r N' f' => r = some (.int res.1) ∧ N = N' ∧ zMf ck b0 N A f0 f' res.2) := by
  refine zM.of zG_w (by decide) (Nat.le_of_ble_eq_true rfl) ?_
  intro zp ze zst zm zar zbe zme zc X hnm hb0
  rw [m_node] at h
  refine z_aload_n X d_Mod_node_0 rfl ?_
  refine z_get X (v := .int (μ.1 24)) d_Mod_node_1 (hM.lo 38 (by decide)) hM.ob cl_Mod in_Mod 24 (by decide) fl_Mod_131 rfl rfl ?_
  refine z_bipush X d_Mod_node_4 (v := 40) (by decide) ?_
  refine z_icmp_ne X 16 d_Mod_node_6 (by decide) (fun h6 => ?_) (fun h6 => ?_)
  · skip
    have h := (if_neg h6).symm.trans h
    refine z_aload_n X d_Mod_node_16 rfl ?_
    refine z_get X (v := .ref (A 20)) d_Mod_node_17 (hM.lo 38 (by decide)) hM.ob cl_Mod in_Mod 20 (by decide) fl_Mod_56 rfl rfl ?_
    refine z_aload_n X d_Mod_node_20 rfl ?_
    refine z_get X (v := .int (μ.1 24)) d_Mod_node_21 (hM.lo 38 (by decide)) hM.ob cl_Mod in_Mod 24 (by decide) fl_Mod_131 rfl rfl ?_
    refine z_iload_n X d_Mod_node_24 rfl ?_
    obtain ⟨b25, h⟩ := gd h
    refine z_iastM X d_Mod_node_25 hM 20 40 rfl rfl (vp_of b25) (fun hM => ?_)
    refine z_aload_n X d_Mod_node_26 rfl ?_
    refine z_get X (v := .ref (A 21)) d_Mod_node_27 (hM.lo 38 (by decide)) hM.ob cl_Mod in_Mod 21 (by decide) fl_Mod_59 rfl rfl ?_
    refine z_aload_n X d_Mod_node_30 rfl ?_
    refine z_get X (v := .int (μ.1 24)) d_Mod_node_31 (hM.lo 38 (by decide)) hM.ob cl_Mod in_Mod 24 (by decide) fl_Mod_131 rfl rfl ?_
    refine z_iconst X d_Mod_node_34 (v := -1) (by decide) ?_
    refine z_iastM X d_Mod_node_35 hM 21 40 rfl rfl (vp_of b25) (fun hM => ?_)
    refine z_aload_n X d_Mod_node_36 rfl ?_
    refine z_get X (v := .ref (A 22)) d_Mod_node_37 (hM.lo 38 (by decide)) hM.ob cl_Mod in_Mod 22 (by decide) fl_Mod_62 rfl rfl ?_
    refine z_aload_n X d_Mod_node_40 rfl ?_
    refine z_get X (v := .int (μ.1 24)) d_Mod_node_41 (hM.lo 38 (by decide)) hM.ob cl_Mod in_Mod 24 (by decide) fl_Mod_131 rfl rfl ?_
    refine z_iconst X d_Mod_node_44 (v := -1) (by decide) ?_
    refine z_iastM X d_Mod_node_45 hM 22 40 rfl rfl (vp_of b25) (fun hM => ?_)
    refine z_aload_n X d_Mod_node_46 rfl ?_
    refine z_get X (v := .ref (A 23)) d_Mod_node_47 (hM.lo 38 (by decide)) hM.ob cl_Mod in_Mod 23 (by decide) fl_Mod_65 rfl rfl ?_
    refine z_aload_n X d_Mod_node_50 rfl ?_
    refine z_get X (v := .int (μ.1 24)) d_Mod_node_51 (hM.lo 38 (by decide)) hM.ob cl_Mod in_Mod 24 (by decide) fl_Mod_131 rfl rfl ?_
    refine z_iconst X d_Mod_node_54 (v := -1) (by decide) ?_
    refine z_iastM X d_Mod_node_55 hM 23 40 rfl rfl (vp_of b25) (fun hM => ?_)
    refine z_aload_n X d_Mod_node_56 rfl ?_
    refine z_dup X d_Mod_node_57 rfl ?_
    refine z_get X (v := .int (μ.1 24)) d_Mod_node_58 (hM.lo 38 (by decide)) hM.ob cl_Mod in_Mod 24 (by decide) fl_Mod_131 rfl rfl ?_
    refine z_iconst X d_Mod_node_61 (v := 1) (by decide) ?_
    refine z_iadd X d_Mod_node_62 ?_
    refine z_putM X t_Mod ty_Mod n_Mod d_Mod_node_63 hM cl_Mod in_Mod 24 (by decide) fl_Mod_131 rfl rfl rfl (by decide) rfl (fun hM => ?_)
    refine z_aload_n X d_Mod_node_66 rfl ?_
    refine z_get X (v := .int ((μ.1 24) + 1)) d_Mod_node_67 (hM.lo 38 (by decide)) hM.ob cl_Mod in_Mod 24 (by decide) fl_Mod_131 rfl rfl ?_
    refine z_iconst X d_Mod_node_70 (v := 1) (by decide) ?_
    refine z_isub X d_Mod_node_71 ?_
    cases h
    exact z_iret X d_Mod_node_72 ⟨rfl, rfl, hM⟩
  · skip
    have h := (if_pos h6).symm.trans h
    refine z_aload_n X d_Mod_node_9 rfl ?_
    refine z_iload_n X d_Mod_node_10 rfl ?_
    obtain ⟨p11, q11, h⟩ := bd h
    refine z_callV X zG_ok (c_Mod_fail hM q11) d_Mod_node_11 ⟨(z_cb (n := 1) X.2.2.2.2.1 ml_Mod_134 mc_Mod_fail ini_Mod (by decide +kernel) rfl rfl ⟨Nat.le_of_ble_eq_true rfl, Nat.le_of_ble_eq_true rfl⟩), X.2.2.2.2.1 _ im_Mod_fail, X.2.2.2.2.1 _ sel_Mod_fail⟩ (hM.lo 38 (by decide)) hM.ob cl_Mod rfl rfl (Nat.le_of_ble_eq_true rfl) ⟨Nat.le_of_ble_eq_true rfl, Nat.le_of_ble_eq_true rfl⟩ (fun r N1 f1 hp hN1 => ?_)
    obtain ⟨rfl, rfl, hM⟩ := hp
    refine z_iconst X d_Mod_node_14 (v := 0) (by decide) ?_
    cases h
    exact z_iret X d_Mod_node_15 ⟨rfl, rfl, hM⟩
theorem d_Mod_push_0 : decode prog_10_method_12_code 0 = .ok (.aload_n 0, 1) := by decide +kernel
theorem d_Mod_push_1 : decode prog_10_method_12_code 1 = .ok (.getfield 68, 3) := by decide +kernel
theorem d_Mod_push_4 : decode prog_10_method_12_code 4 = .ok (.aload_n 0, 1) := by decide +kernel
theorem d_Mod_push_5 : decode prog_10_method_12_code 5 = .ok (.getfield 138, 3) := by decide +kernel
theorem d_Mod_push_8 : decode prog_10_method_12_code 8 = .ok (.iload_n 1, 1) := by decide +kernel
theorem d_Mod_push_9 : decode prog_10_method_12_code 9 = .ok (.iastore, 1) := by decide +kernel
theorem d_Mod_push_10 : decode prog_10_method_12_code 10 = .ok (.aload_n 0, 1) := by decide +kernel
theorem d_Mod_push_11 : decode prog_10_method_12_code 11 = .ok (.getfield 71, 3) := by decide +kernel
theorem d_Mod_push_14 : decode prog_10_method_12_code 14 = .ok (.aload_n 0, 1) := by decide +kernel
theorem d_Mod_push_15 : decode prog_10_method_12_code 15 = .ok (.getfield 138, 3) := by decide +kernel
theorem d_Mod_push_18 : decode prog_10_method_12_code 18 = .ok (.iload_n 2, 1) := by decide +kernel
theorem d_Mod_push_19 : decode prog_10_method_12_code 19 = .ok (.iastore, 1) := by decide +kernel
theorem d_Mod_push_20 : decode prog_10_method_12_code 20 = .ok (.aload_n 0, 1) := by decide +kernel
theorem d_Mod_push_21 : decode prog_10_method_12_code 21 = .ok (.dup, 1) := by decide +kernel
theorem d_Mod_push_22 : decode prog_10_method_12_code 22 = .ok (.getfield 138, 3) := by decide +kernel
theorem d_Mod_push_25 : decode prog_10_method_12_code 25 = .ok (.iconst 1, 1) := by decide +kernel
theorem d_Mod_push_26 : decode prog_10_method_12_code 26 = .ok (.iadd, 1) := by decide +kernel
theorem d_Mod_push_27 : decode prog_10_method_12_code 27 = .ok (.putfield 138, 3) := by decide +kernel
theorem d_Mod_push_30 : decode prog_10_method_12_code 30 = .ok (.return_, 1) := by decide +kernel
def m_push (x1 x2 : Int32) (μ : MS) : Option MS := (if inb (μ.1 30) 64 = true then some (sI 30 ((μ.1 30) + 1) (sA 29 ((μ.1 30).toNatClampNeg) x2 (sA 28 ((μ.1 30).toNatClampNeg) x1 μ))) else none)
set_option maxHeartbeats 4000000 in
set_option maxRecDepth 100000 in
theorem c_Mod_push {A : Nat → Nat} {f0 : Nat → va_E} {μ : MS} {x1 x2 : Int32} {res : MS} (hM : zMf ck b0 N A f0 f μ) (h : m_push x1 x2 μ = some res) : zK l D ck ad b0 y_Mod_push prog_10_method_12_code 3 (none) 0 0 0 [.ref (A 38), .int x1, .int x2] N f (fun r N' f' => r = none ∧ N = N' ∧ zMf ck b0 N A f0 f' res) := by
  refine zM.of zG_w (by decide) (Nat.le_of_ble_eq_true rfl) ?_
  intro zp ze zst zm zar zbe zme zc X hnm hb0
  rw [m_push] at h
  refine z_aload_n X d_Mod_push_0 rfl ?_
  refine z_get X (v := .ref (A 28)) d_Mod_push_1 (hM.lo 38 (by decide)) hM.ob cl_Mod in_Mod 28 (by decide) fl_Mod_68 rfl rfl ?_
  refine z_aload_n X d_Mod_push_4 rfl ?_
  refine z_get X (v := .int (μ.1 30)) d_Mod_push_5 (hM.lo 38 (by decide)) hM.ob cl_Mod in_Mod 30 (by decide) fl_Mod_138 rfl rfl ?_
  refine z_iload_n X d_Mod_push_8 rfl ?_
  obtain ⟨b9, h⟩ := gd h
  refine z_iastM X d_Mod_push_9 hM 28 64 rfl rfl (vp_of b9) (fun hM => ?_)
  refine z_aload_n X d_Mod_push_10 rfl ?_
  refine z_get X (v := .ref (A 29)) d_Mod_push_11 (hM.lo 38 (by decide)) hM.ob cl_Mod in_Mod 29 (by decide) fl_Mod_71 rfl rfl ?_
  refine z_aload_n X d_Mod_push_14 rfl ?_
  refine z_get X (v := .int (μ.1 30)) d_Mod_push_15 (hM.lo 38 (by decide)) hM.ob cl_Mod in_Mod 30 (by decide) fl_Mod_138 rfl rfl ?_
  refine z_iload_n X d_Mod_push_18 rfl ?_
  refine z_iastM X d_Mod_push_19 hM 29 64 rfl rfl (vp_of b9) (fun hM => ?_)
  refine z_aload_n X d_Mod_push_20 rfl ?_
  refine z_dup X d_Mod_push_21 rfl ?_
  refine z_get X (v := .int (μ.1 30)) d_Mod_push_22 (hM.lo 38 (by decide)) hM.ob cl_Mod in_Mod 30 (by decide) fl_Mod_138 rfl rfl ?_
  refine z_iconst X d_Mod_push_25 (v := 1) (by decide) ?_
  refine z_iadd X d_Mod_push_26 ?_
  refine z_putM X t_Mod ty_Mod n_Mod d_Mod_push_27 hM cl_Mod in_Mod 30 (by decide) fl_Mod_138 rfl rfl rfl (by decide) rfl (fun hM => ?_)
  cases h
  exact z_vret X d_Mod_push_30 ⟨rfl, rfl, hM⟩
theorem d_Mod_enter_0 : decode prog_10_method_13_code 0 = .ok (.aload_n 0, 1) := by decide +kernel
theorem d_Mod_enter_1 : decode prog_10_method_13_code 1 = .ok (.getfield 141, 3) := by decide +kernel
theorem d_Mod_enter_4 : decode prog_10_method_13_code 4 = .ok (.bipush 10, 2) := by decide +kernel
theorem d_Mod_enter_6 : decode prog_10_method_13_code 6 = .ok (.if_icmp .ne 8, 3) := by decide +kernel
theorem d_Mod_enter_9 : decode prog_10_method_13_code 9 = .ok (.aload_n 0, 1) := by decide +kernel
theorem d_Mod_enter_10 : decode prog_10_method_13_code 10 = .ok (.iload_n 1, 1) := by decide +kernel
theorem d_Mod_enter_11 : decode prog_10_method_13_code 11 = .ok (.invokevirtual 134, 3) := by decide +kernel
theorem d_Mod_enter_14 : decode prog_10_method_13_code 14 = .ok (.aload_n 0, 1) := by decide +kernel
theorem d_Mod_enter_15 : decode prog_10_method_13_code 15 = .ok (.dup, 1) := by decide +kernel
theorem d_Mod_enter_16 : decode prog_10_method_13_code 16 = .ok (.getfield 141, 3) := by decide +kernel
theorem d_Mod_enter_19 : decode prog_10_method_13_code 19 = .ok (.iconst 1, 1) := by decide +kernel
theorem d_Mod_enter_20 : decode prog_10_method_13_code 20 = .ok (.iadd, 1) := by decide +kernel
theorem d_Mod_enter_21 : decode prog_10_method_13_code 21 = .ok (.putfield 141, 3) := by decide +kernel
theorem d_Mod_enter_24 : decode prog_10_method_13_code 24 = .ok (.return_, 1) := by decide +kernel
def m_enter (x1 : Int32) (μ : MS) : Option MS := (if (μ.1 26) = 10 then (m_fail x1 μ).bind (fun p11 => some (sI 26 ((p11.1 26) + 1) p11)) else some (sI 26 ((μ.1 26) + 1) μ))
set_option maxHeartbeats 4000000 in
set_option maxRecDepth 100000 in
theorem c_Mod_enter {A : Nat → Nat} {f0 : Nat → va_E} {μ : MS} {x1 : Int32} {res : MS} (hM : zMf ck b0 N A f0 f μ) (h : m_enter x1 μ = some res) : zK l D ck ad b0 y_Mod_enter prog_10_method_13_code 2 (none) 1 0 0 [.ref (A 38), .int x1] N f (fun r N' f' => r = none ∧ N = N' ∧ zMf ck b0 N A f0 f' res) := by
  refine zM.of zG_w (by decide) (Nat.le_of_ble_eq_true rfl) ?_
  intro zp ze zst zm zar zbe zme zc X hnm hb0
  rw [m_enter] at h
  refine z_aload_n X d_Mod_enter_0 rfl ?_
  refine z_get X (v := .int (μ.1 26)) d_Mod_enter_1 (hM.lo 38 (by decide)) hM.ob cl_Mod in_Mod 26 (by decide) fl_Mod_141 rfl rfl ?_
  refine z_bipush X d_Mod_enter_4 (v := 10) (by decide) ?_
  refine z_icmp_ne X 14 d_Mod_enter_6 (by decide) (fun h6 => ?_) (fun h6 => ?_)
  · skip
    have h := (if_neg h6).symm.trans h
    refine z_aload_n X d_Mod_enter_14 rfl ?_
    refine z_dup X d_Mod_enter_15 rfl ?_
    refine z_get X (v := .int (μ.1 26)) d_Mod_enter_16 (hM.lo 38 (by decide)) hM.ob cl_Mod in_Mod 26 (by decide) fl_Mod_141 rfl rfl ?_
    refine z_iconst X d_Mod_enter_19 (v := 1) (by decide) ?_
    refine z_iadd X d_Mod_enter_20 ?_
    refine z_putM X t_Mod ty_Mod n_Mod d_Mod_enter_21 hM cl_Mod in_Mod 26 (by decide) fl_Mod_141 rfl rfl rfl (by decide) rfl (fun hM => ?_)
    cases h
    exact z_vret X d_Mod_enter_24 ⟨rfl, rfl, hM⟩
  · skip
    have h := (if_pos h6).symm.trans h
    refine z_aload_n X d_Mod_enter_9 rfl ?_
    refine z_iload_n X d_Mod_enter_10 rfl ?_
    obtain ⟨p11, q11, h⟩ := bd h
    refine z_callV X zG_ok (c_Mod_fail hM q11) d_Mod_enter_11 ⟨(z_cb (n := 1) X.2.2.2.2.1 ml_Mod_134 mc_Mod_fail ini_Mod (by decide +kernel) rfl rfl ⟨Nat.le_of_ble_eq_true rfl, Nat.le_of_ble_eq_true rfl⟩), X.2.2.2.2.1 _ im_Mod_fail, X.2.2.2.2.1 _ sel_Mod_fail⟩ (hM.lo 38 (by decide)) hM.ob cl_Mod rfl rfl (Nat.le_of_ble_eq_true rfl) ⟨Nat.le_of_ble_eq_true rfl, Nat.le_of_ble_eq_true rfl⟩ (fun r N1 f1 hp hN1 => ?_)
    obtain ⟨rfl, rfl, hM⟩ := hp
    refine z_aload_n X d_Mod_enter_14 rfl ?_
    refine z_dup X d_Mod_enter_15 rfl ?_
    refine z_get X (v := .int (p11.1 26)) d_Mod_enter_16 (hM.lo 38 (by decide)) hM.ob cl_Mod in_Mod 26 (by decide) fl_Mod_141 rfl rfl ?_
    refine z_iconst X d_Mod_enter_19 (v := 1) (by decide) ?_
    refine z_iadd X d_Mod_enter_20 ?_
    refine z_putM X t_Mod ty_Mod n_Mod d_Mod_enter_21 hM cl_Mod in_Mod 26 (by decide) fl_Mod_141 rfl rfl rfl (by decide) rfl (fun hM => ?_)
    cases h
    exact z_vret X d_Mod_enter_24 ⟨rfl, rfl, hM⟩
theorem d_Mod_digits_0 : decode prog_10_method_14_code 0 = .ok (.iconst 0, 1) := by decide +kernel
theorem d_Mod_digits_1 : decode prog_10_method_14_code 1 = .ok (.istore_n 3, 1) := by decide +kernel
theorem d_Mod_digits_2 : decode prog_10_method_14_code 2 = .ok (.iconst 0, 1) := by decide +kernel
theorem d_Mod_digits_3 : decode prog_10_method_14_code 3 = .ok (.istore 4, 2) := by decide +kernel
theorem d_Mod_digits_5 : decode prog_10_method_14_code 5 = .ok (.aload_n 0, 1) := by decide +kernel
theorem d_Mod_digits_6 : decode prog_10_method_14_code 6 = .ok (.getfield 107, 3) := by decide +kernel
theorem d_Mod_digits_9 : decode prog_10_method_14_code 9 = .ok (.aload_n 0, 1) := by decide +kernel
theorem d_Mod_digits_10 : decode prog_10_method_14_code 10 = .ok (.getfield 104, 3) := by decide +kernel
theorem d_Mod_digits_13 : decode prog_10_method_14_code 13 = .ok (.if_icmp .ge 59, 3) := by decide +kernel
theorem d_Mod_digits_16 : decode prog_10_method_14_code 16 = .ok (.aload_n 0, 1) := by decide +kernel
theorem d_Mod_digits_17 : decode prog_10_method_14_code 17 = .ok (.getfield 7, 3) := by decide +kernel
theorem d_Mod_digits_20 : decode prog_10_method_14_code 20 = .ok (.aload_n 0, 1) := by decide +kernel
theorem d_Mod_digits_21 : decode prog_10_method_14_code 21 = .ok (.getfield 107, 3) := by decide +kernel
theorem d_Mod_digits_24 : decode prog_10_method_14_code 24 = .ok (.iaload, 1) := by decide +kernel
theorem d_Mod_digits_25 : decode prog_10_method_14_code 25 = .ok (.invokestatic 144, 3) := by decide +kernel
theorem d_Mod_digits_28 : decode prog_10_method_14_code 28 = .ok (.ifCond .eq 44, 3) := by decide +kernel
theorem d_Mod_digits_31 : decode prog_10_method_14_code 31 = .ok (.iload_n 3, 1) := by decide +kernel
theorem d_Mod_digits_32 : decode prog_10_method_14_code 32 = .ok (.iload_n 1, 1) := by decide +kernel
theorem d_Mod_digits_33 : decode prog_10_method_14_code 33 = .ok (.if_icmp .gt 39, 3) := by decide +kernel
theorem d_Mod_digits_36 : decode prog_10_method_14_code 36 = .ok (.bipush 10, 2) := by decide +kernel
theorem d_Mod_digits_38 : decode prog_10_method_14_code 38 = .ok (.iload 4, 2) := by decide +kernel
theorem d_Mod_digits_40 : decode prog_10_method_14_code 40 = .ok (.imul, 1) := by decide +kernel
theorem d_Mod_digits_41 : decode prog_10_method_14_code 41 = .ok (.aload_n 0, 1) := by decide +kernel
theorem d_Mod_digits_42 : decode prog_10_method_14_code 42 = .ok (.getfield 7, 3) := by decide +kernel
theorem d_Mod_digits_45 : decode prog_10_method_14_code 45 = .ok (.aload_n 0, 1) := by decide +kernel
theorem d_Mod_digits_46 : decode prog_10_method_14_code 46 = .ok (.getfield 107, 3) := by decide +kernel
theorem d_Mod_digits_49 : decode prog_10_method_14_code 49 = .ok (.iaload, 1) := by decide +kernel
theorem d_Mod_digits_50 : decode prog_10_method_14_code 50 = .ok (.iadd, 1) := by decide +kernel
theorem d_Mod_digits_51 : decode prog_10_method_14_code 51 = .ok (.bipush 48, 2) := by decide +kernel
theorem d_Mod_digits_53 : decode prog_10_method_14_code 53 = .ok (.isub, 1) := by decide +kernel
theorem d_Mod_digits_54 : decode prog_10_method_14_code 54 = .ok (.istore 4, 2) := by decide +kernel
theorem d_Mod_digits_56 : decode prog_10_method_14_code 56 = .ok (.aload_n 0, 1) := by decide +kernel
theorem d_Mod_digits_57 : decode prog_10_method_14_code 57 = .ok (.dup, 1) := by decide +kernel
theorem d_Mod_digits_58 : decode prog_10_method_14_code 58 = .ok (.getfield 107, 3) := by decide +kernel
theorem d_Mod_digits_61 : decode prog_10_method_14_code 61 = .ok (.iconst 1, 1) := by decide +kernel
theorem d_Mod_digits_62 : decode prog_10_method_14_code 62 = .ok (.iadd, 1) := by decide +kernel
theorem d_Mod_digits_63 : decode prog_10_method_14_code 63 = .ok (.putfield 107, 3) := by decide +kernel
theorem d_Mod_digits_66 : decode prog_10_method_14_code 66 = .ok (.iinc 3 1, 3) := by decide +kernel
theorem d_Mod_digits_69 : decode prog_10_method_14_code 69 = .ok (.goto (-64), 3) := by decide +kernel
theorem d_Mod_digits_72 : decode prog_10_method_14_code 72 = .ok (.iload_n 3, 1) := by decide +kernel
theorem d_Mod_digits_73 : decode prog_10_method_14_code 73 = .ok (.ifCond .eq 8, 3) := by decide +kernel
theorem d_Mod_digits_76 : decode prog_10_method_14_code 76 = .ok (.iload_n 3, 1) := by decide +kernel
theorem d_Mod_digits_77 : decode prog_10_method_14_code 77 = .ok (.iload_n 1, 1) := by decide +kernel
theorem d_Mod_digits_78 : decode prog_10_method_14_code 78 = .ok (.if_icmp .le 8, 3) := by decide +kernel
theorem d_Mod_digits_81 : decode prog_10_method_14_code 81 = .ok (.aload_n 0, 1) := by decide +kernel
theorem d_Mod_digits_82 : decode prog_10_method_14_code 82 = .ok (.iload_n 2, 1) := by decide +kernel
theorem d_Mod_digits_83 : decode prog_10_method_14_code 83 = .ok (.invokevirtual 134, 3) := by decide +kernel
theorem d_Mod_digits_86 : decode prog_10_method_14_code 86 = .ok (.iload 4, 2) := by decide +kernel
theorem d_Mod_digits_88 : decode prog_10_method_14_code 88 = .ok (.ireturn, 1) := by decide +kernel
def m_digits_B : Nat → Nat → Int32 → Int32 → Int32 → Int32 → MS → Option (Int32 × MS)
  | 0, _, _, _, _, _, _ => none
  | n + 1, _, x1, x2, x3, x4, μ => (if (μ.1 2) ≤ (μ.1 25) then (if x3 = 0 then (m_fail x2 μ).bind (fun p83 => some (x4, p83)) else (if x3 ≤ x1 then some (x4, μ) else (m_fail x2 μ).bind (fun p83 => some (x4, p83)))) else (if inb (μ.1 25) 200 = true then (m_isDigit ((μ.2.1 1) (μ.1 25).toNatClampNeg)).bind (fun p25 => (if p25 = 0 then (if x3 = 0 then (m_fail x2 μ).bind (fun p83 => some (x4, p83)) else (if x3 ≤ x1 then some (x4, μ) else (m_fail x2 μ).bind (fun p83 => some (x4, p83)))) else (if x1 < x3 then (if x3 = 0 then (m_fail x2 μ).bind (fun p83 => some (x4, p83)) else (if x3 ≤ x1 then some (x4, μ) else (m_fail x2 μ).bind (fun p83 => some (x4, p83)))) else m_digits_B n 0 x1 x2 (x3 + 1) (((10 * x4) + ((μ.2.1 1) (μ.1 25).toNatClampNeg)) - 48) (sI 25 ((μ.1 25) + 1) μ)))) else none))
def m_digits (x1 x2 : Int32) (μ : MS) : Option (Int32 × MS) := m_digits_B 4096 0 x1 x2 0 0 μ
set_option maxHeartbeats 4000000 in
set_option maxRecDepth 100000 in
theorem c_Mod_digits {A : Nat → Nat} {f0 : Nat → va_E} {μ : MS} {x1 x2 : Int32} {res : (Int32 × MS)} (hM : zMf ck b0 N A f0 f μ) (h : m_digits x1 x2 μ = some res) : zK l D ck ad b0 y_Mod_digits prog_10_method_14_code 5 ((some FieldType.int)) 2 0 0 [.ref (A 38), .int x1, .int x2] N f (fun r N' f' => r = some (.int res.1) ∧ N = N' ∧ zMf ck b0 N A f0 f' res.2) := by
  refine zM.of zG_w (by decide) (Nat.le_of_ble_eq_true rfl) ?_
  intro zp ze zst zm zar zbe zme zc X hnm hb0
  have L : ∀ n : Nat, (∀ (x1 : Int32) (x2 : Int32) (x3 : Int32) (x4 : Int32) (f1 : Nat → va_E) (μ : MS), zMf ck b0 N A f0 f1 μ → m_digits_B n 0 x1 x2 x3 x4 μ = some res → zW zp l ze (zR 2 0 0) zst zm zar zbe zme zc D zcl b0 5 0 0 (MQ zbe (zQ D zcl b0 (fun r N' f' => r = some (.int res.1) ∧ N = N' ∧ zMf ck b0 N A f0 f' res.2)) zar zst 0 0 (zA b0)) N f1 5 [(0, .ref (A 38)), (1, .int x1), (2, .int x2), (3, .int x3), (4, .int x4)] []) := by
    intro n
    induction n with
    | zero =>
      exact fun _ _ _ _ _ _ _ h => (by rw [m_digits_B] at h; cases h)
    | succ n ih =>
      · intro x1 x2 x3 x4 f1 μ hM h
        rw [m_digits_B] at h
        refine z_aload_n X d_Mod_digits_5 rfl ?_
        refine z_get X (v := .int (μ.1 25)) d_Mod_digits_6 (hM.lo 38 (by decide)) hM.ob cl_Mod in_Mod 25 (by decide) fl_Mod_107 rfl rfl ?_
        refine z_aload_n X d_Mod_digits_9 rfl ?_
        refine z_get X (v := .int (μ.1 2)) d_Mod_digits_10 (hM.lo 38 (by decide)) hM.ob cl_Mod in_Mod 2 (by decide) fl_Mod_104 rfl rfl ?_
        refine z_icmp_ge X 72 d_Mod_digits_13 (by decide) (fun h13 => ?_) (fun h13 => ?_)
        · skip
          have h := (if_pos h13).symm.trans h
          refine z_iload_n X d_Mod_digits_72 rfl ?_
          refine z_if_eq X 81 d_Mod_digits_73 (by decide) (fun h73 => ?_) (fun h73 => ?_)
          · skip
            have h := (if_pos h73).symm.trans h
            refine z_aload_n X d_Mod_digits_81 rfl ?_
            refine z_iload_n X d_Mod_digits_82 rfl ?_
            obtain ⟨p83, q83, h⟩ := bd h
            refine z_callV X zG_ok (c_Mod_fail hM q83) d_Mod_digits_83 ⟨(z_cb (n := 1) X.2.2.2.2.1 ml_Mod_134 mc_Mod_fail ini_Mod (by decide +kernel) rfl rfl ⟨Nat.le_of_ble_eq_true rfl, Nat.le_of_ble_eq_true rfl⟩), X.2.2.2.2.1 _ im_Mod_fail, X.2.2.2.2.1 _ sel_Mod_fail⟩ (hM.lo 38 (by decide)) hM.ob cl_Mod rfl rfl (Nat.le_of_ble_eq_true rfl) ⟨Nat.le_of_ble_eq_true rfl, Nat.le_of_ble_eq_true rfl⟩ (fun r N1 f1 hp hN1 => ?_)
            obtain ⟨rfl, rfl, hM⟩ := hp
            refine z_iload X d_Mod_digits_86 rfl ?_
            cases h
            exact z_iret X d_Mod_digits_88 ⟨rfl, rfl, hM⟩
          · skip
            have h := (if_neg h73).symm.trans h
            refine z_iload_n X d_Mod_digits_76 rfl ?_
            refine z_iload_n X d_Mod_digits_77 rfl ?_
            refine z_icmp_le X 86 d_Mod_digits_78 (by decide) (fun h78 => ?_) (fun h78 => ?_)
            · skip
              have h := (if_pos h78).symm.trans h
              refine z_iload X d_Mod_digits_86 rfl ?_
              cases h
              exact z_iret X d_Mod_digits_88 ⟨rfl, rfl, hM⟩
            · skip
              have h := (if_neg h78).symm.trans h
              refine z_aload_n X d_Mod_digits_81 rfl ?_
              refine z_iload_n X d_Mod_digits_82 rfl ?_
              obtain ⟨p83, q83, h⟩ := bd h
              refine z_callV X zG_ok (c_Mod_fail hM q83) d_Mod_digits_83 ⟨(z_cb (n := 1) X.2.2.2.2.1 ml_Mod_134 mc_Mod_fail ini_Mod (by decide +kernel) rfl rfl ⟨Nat.le_of_ble_eq_true rfl, Nat.le_of_ble_eq_true rfl⟩), X.2.2.2.2.1 _ im_Mod_fail, X.2.2.2.2.1 _ sel_Mod_fail⟩ (hM.lo 38 (by decide)) hM.ob cl_Mod rfl rfl (Nat.le_of_ble_eq_true rfl) ⟨Nat.le_of_ble_eq_true rfl, Nat.le_of_ble_eq_true rfl⟩ (fun r N1 f1 hp hN1 => ?_)
              obtain ⟨rfl, rfl, hM⟩ := hp
              refine z_iload X d_Mod_digits_86 rfl ?_
              cases h
              exact z_iret X d_Mod_digits_88 ⟨rfl, rfl, hM⟩
        · skip
          have h := (if_neg h13).symm.trans h
          refine z_aload_n X d_Mod_digits_16 rfl ?_
          refine z_get X (v := .ref (A 1)) d_Mod_digits_17 (hM.lo 38 (by decide)) hM.ob cl_Mod in_Mod 1 (by decide) fl_Mod_7 rfl rfl ?_
          refine z_aload_n X d_Mod_digits_20 rfl ?_
          refine z_get X (v := .int (μ.1 25)) d_Mod_digits_21 (hM.lo 38 (by decide)) hM.ob cl_Mod in_Mod 25 (by decide) fl_Mod_107 rfl rfl ?_
          obtain ⟨b24, h⟩ := gd h
          refine z_iald X (g := (μ.2.1 1)) d_Mod_digits_24 (hM.lo 1 (by decide)) (hM.iA 1 200 rfl) (t0 := 0) rfl (vp_of b24) ?_
          obtain ⟨p25, q25, h⟩ := bd h
          refine z_callS X zG_ok (c_Mod_isDigit q25) d_Mod_digits_25 ⟨(z_cb (n := 1) X.2.2.2.2.1 ml_Mod_144 mc_Mod_isDigit ini_Mod (by decide +kernel) rfl rfl ⟨Nat.le_of_ble_eq_true rfl, Nat.le_of_ble_eq_true rfl⟩), X.2.2.2.2.1 _ st_Mod_isDigit⟩ rfl rfl (Nat.le_of_ble_eq_true rfl) ⟨Nat.le_of_ble_eq_true rfl, Nat.le_of_ble_eq_true rfl⟩ (fun r N1 f1 hp hN1 => ?_)
          obtain ⟨rfl, rfl, rfl⟩ := hp
          refine z_if_eq X 72 d_Mod_digits_28 (by decide) (fun h28 => ?_) (fun h28 => ?_)
          · skip
            have h := (if_pos h28).symm.trans h
            refine z_iload_n X d_Mod_digits_72 rfl ?_
            refine z_if_eq X 81 d_Mod_digits_73 (by decide) (fun h73 => ?_) (fun h73 => ?_)
            · skip
              have h := (if_pos h73).symm.trans h
              refine z_aload_n X d_Mod_digits_81 rfl ?_
              refine z_iload_n X d_Mod_digits_82 rfl ?_
              obtain ⟨p83, q83, h⟩ := bd h
              refine z_callV X zG_ok (c_Mod_fail hM q83) d_Mod_digits_83 ⟨(z_cb (n := 1) X.2.2.2.2.1 ml_Mod_134 mc_Mod_fail ini_Mod (by decide +kernel) rfl rfl ⟨Nat.le_of_ble_eq_true rfl, Nat.le_of_ble_eq_true rfl⟩), X.2.2.2.2.1 _ im_Mod_fail, X.2.2.2.2.1 _ sel_Mod_fail⟩ (hM.lo 38 (by decide)) hM.ob cl_Mod rfl rfl (Nat.le_of_ble_eq_true rfl) ⟨Nat.le_of_ble_eq_true rfl, Nat.le_of_ble_eq_true rfl⟩ (fun r N1 f1 hp hN1 => ?_)
              obtain ⟨rfl, rfl, hM⟩ := hp
              refine z_iload X d_Mod_digits_86 rfl ?_
              cases h
              exact z_iret X d_Mod_digits_88 ⟨rfl, rfl, hM⟩
            · skip
              have h := (if_neg h73).symm.trans h
              refine z_iload_n X d_Mod_digits_76 rfl ?_
              refine z_iload_n X d_Mod_digits_77 rfl ?_
              refine z_icmp_le X 86 d_Mod_digits_78 (by decide) (fun h78 => ?_) (fun h78 => ?_)
              · skip
                have h := (if_pos h78).symm.trans h
                refine z_iload X d_Mod_digits_86 rfl ?_
                cases h
                exact z_iret X d_Mod_digits_88 ⟨rfl, rfl, hM⟩
              · skip
                have h := (if_neg h78).symm.trans h
                refine z_aload_n X d_Mod_digits_81 rfl ?_
                refine z_iload_n X d_Mod_digits_82 rfl ?_
                obtain ⟨p83, q83, h⟩ := bd h
                refine z_callV X zG_ok (c_Mod_fail hM q83) d_Mod_digits_83 ⟨(z_cb (n := 1) X.2.2.2.2.1 ml_Mod_134 mc_Mod_fail ini_Mod (by decide +kernel) rfl rfl ⟨Nat.le_of_ble_eq_true rfl, Nat.le_of_ble_eq_true rfl⟩), X.2.2.2.2.1 _ im_Mod_fail, X.2.2.2.2.1 _ sel_Mod_fail⟩ (hM.lo 38 (by decide)) hM.ob cl_Mod rfl rfl (Nat.le_of_ble_eq_true rfl) ⟨Nat.le_of_ble_eq_true rfl, Nat.le_of_ble_eq_true rfl⟩ (fun r N1 f1 hp hN1 => ?_)
                obtain ⟨rfl, rfl, hM⟩ := hp
                refine z_iload X d_Mod_digits_86 rfl ?_
                cases h
                exact z_iret X d_Mod_digits_88 ⟨rfl, rfl, hM⟩
          · skip
            have h := (if_neg h28).symm.trans h
            refine z_iload_n X d_Mod_digits_31 rfl ?_
            refine z_iload_n X d_Mod_digits_32 rfl ?_
            refine z_icmp_gt X 72 d_Mod_digits_33 (by decide) (fun h33 => ?_) (fun h33 => ?_)
            · skip
              have h := (if_pos h33).symm.trans h
              refine z_iload_n X d_Mod_digits_72 rfl ?_
              refine z_if_eq X 81 d_Mod_digits_73 (by decide) (fun h73 => ?_) (fun h73 => ?_)
              · skip
                have h := (if_pos h73).symm.trans h
                refine z_aload_n X d_Mod_digits_81 rfl ?_
                refine z_iload_n X d_Mod_digits_82 rfl ?_
                obtain ⟨p83, q83, h⟩ := bd h
                refine z_callV X zG_ok (c_Mod_fail hM q83) d_Mod_digits_83 ⟨(z_cb (n := 1) X.2.2.2.2.1 ml_Mod_134 mc_Mod_fail ini_Mod (by decide +kernel) rfl rfl ⟨Nat.le_of_ble_eq_true rfl, Nat.le_of_ble_eq_true rfl⟩), X.2.2.2.2.1 _ im_Mod_fail, X.2.2.2.2.1 _ sel_Mod_fail⟩ (hM.lo 38 (by decide)) hM.ob cl_Mod rfl rfl (Nat.le_of_ble_eq_true rfl) ⟨Nat.le_of_ble_eq_true rfl, Nat.le_of_ble_eq_true rfl⟩ (fun r N1 f1 hp hN1 => ?_)
                obtain ⟨rfl, rfl, hM⟩ := hp
                refine z_iload X d_Mod_digits_86 rfl ?_
                cases h
                exact z_iret X d_Mod_digits_88 ⟨rfl, rfl, hM⟩
              · skip
                have h := (if_neg h73).symm.trans h
                refine z_iload_n X d_Mod_digits_76 rfl ?_
                refine z_iload_n X d_Mod_digits_77 rfl ?_
                refine z_icmp_le X 86 d_Mod_digits_78 (by decide) (fun h78 => ?_) (fun h78 => ?_)
                · skip
                  have h := (if_pos h78).symm.trans h
                  refine z_iload X d_Mod_digits_86 rfl ?_
                  cases h
                  exact z_iret X d_Mod_digits_88 ⟨rfl, rfl, hM⟩
                · skip
                  have h := (if_neg h78).symm.trans h
                  refine z_aload_n X d_Mod_digits_81 rfl ?_
                  refine z_iload_n X d_Mod_digits_82 rfl ?_
                  obtain ⟨p83, q83, h⟩ := bd h
                  refine z_callV X zG_ok (c_Mod_fail hM q83) d_Mod_digits_83 ⟨(z_cb (n := 1) X.2.2.2.2.1 ml_Mod_134 mc_Mod_fail ini_Mod (by decide +kernel) rfl rfl ⟨Nat.le_of_ble_eq_true rfl, Nat.le_of_ble_eq_true rfl⟩), X.2.2.2.2.1 _ im_Mod_fail, X.2.2.2.2.1 _ sel_Mod_fail⟩ (hM.lo 38 (by decide)) hM.ob cl_Mod rfl rfl (Nat.le_of_ble_eq_true rfl) ⟨Nat.le_of_ble_eq_true rfl, Nat.le_of_ble_eq_true rfl⟩ (fun r N1 f1 hp hN1 => ?_)
                  obtain ⟨rfl, rfl, hM⟩ := hp
                  refine z_iload X d_Mod_digits_86 rfl ?_
                  cases h
                  exact z_iret X d_Mod_digits_88 ⟨rfl, rfl, hM⟩
            · skip
              have h := (if_neg h33).symm.trans h
              refine z_bipush X d_Mod_digits_36 (v := 10) (by decide) ?_
              refine z_iload X d_Mod_digits_38 rfl ?_
              refine z_imul X d_Mod_digits_40 ?_
              refine z_aload_n X d_Mod_digits_41 rfl ?_
              refine z_get X (v := .ref (A 1)) d_Mod_digits_42 (hM.lo 38 (by decide)) hM.ob cl_Mod in_Mod 1 (by decide) fl_Mod_7 rfl rfl ?_
              refine z_aload_n X d_Mod_digits_45 rfl ?_
              refine z_get X (v := .int (μ.1 25)) d_Mod_digits_46 (hM.lo 38 (by decide)) hM.ob cl_Mod in_Mod 25 (by decide) fl_Mod_107 rfl rfl ?_
              refine z_iald X (g := (μ.2.1 1)) d_Mod_digits_49 (hM.lo 1 (by decide)) (hM.iA 1 200 rfl) (t0 := 0) rfl (vp_of b24) ?_
              refine z_iadd X d_Mod_digits_50 ?_
              refine z_bipush X d_Mod_digits_51 (v := 48) (by decide) ?_
              refine z_isub X d_Mod_digits_53 ?_
              refine z_istore X d_Mod_digits_54 (by decide) rfl ?_
              refine z_aload_n X d_Mod_digits_56 rfl ?_
              refine z_dup X d_Mod_digits_57 rfl ?_
              refine z_get X (v := .int (μ.1 25)) d_Mod_digits_58 (hM.lo 38 (by decide)) hM.ob cl_Mod in_Mod 25 (by decide) fl_Mod_107 rfl rfl ?_
              refine z_iconst X d_Mod_digits_61 (v := 1) (by decide) ?_
              refine z_iadd X d_Mod_digits_62 ?_
              refine z_putM X t_Mod ty_Mod n_Mod d_Mod_digits_63 hM cl_Mod in_Mod 25 (by decide) fl_Mod_107 rfl rfl rfl (by decide) rfl (fun hM => ?_)
              refine z_iinc X d_Mod_digits_66 rfl (iic 1 1 (by decide) _) (by decide) rfl ?_
              refine z_goto X 5 d_Mod_digits_69 (by decide) ?_
              refine zW.pick [0, 1, 2, 3, 4] (lv' := [(0, .ref (A 38)), (1, .int x1), (2, .int x2), (3, .int (x3 + 1)), (4, .int (((10 * x4) + ((μ.2.1 1) (μ.1 25).toNatClampNeg)) - 48))]) rfl ?_
              exact (ih) x1 x2 (x3 + 1) (((10 * x4) + ((μ.2.1 1) (μ.1 25).toNatClampNeg)) - 48) _ _ hM h
  rw [m_digits] at h
  refine z_iconst X d_Mod_digits_0 (v := 0) (by decide) ?_
  refine z_istore_n X d_Mod_digits_1 (by decide) rfl ?_
  refine z_iconst X d_Mod_digits_2 (v := 0) (by decide) ?_
  refine z_istore X d_Mod_digits_3 (by decide) rfl ?_
  refine zW.pick [0, 1, 2, 3, 4] (lv' := [(0, .ref (A 38)), (1, .int x1), (2, .int x2), (3, .int 0), (4, .int 0)]) rfl ?_
  exact (L 4096) x1 x2 0 0 _ _ hM h
theorem d_Mod_field_0 : decode prog_10_method_15_code 0 = .ok (.aload_n 0, 1) := by decide +kernel
theorem d_Mod_field_1 : decode prog_10_method_15_code 1 = .ok (.invokevirtual 147, 3) := by decide +kernel
theorem d_Mod_field_4 : decode prog_10_method_15_code 4 = .ok (.istore_n 1, 1) := by decide +kernel
theorem d_Mod_field_5 : decode prog_10_method_15_code 5 = .ok (.aload_n 0, 1) := by decide +kernel
theorem d_Mod_field_6 : decode prog_10_method_15_code 6 = .ok (.getfield 107, 3) := by decide +kernel
theorem d_Mod_field_9 : decode prog_10_method_15_code 9 = .ok (.istore_n 2, 1) := by decide +kernel
theorem d_Mod_field_10 : decode prog_10_method_15_code 10 = .ok (.iload_n 1, 1) := by decide +kernel
theorem d_Mod_field_11 : decode prog_10_method_15_code 11 = .ok (.bipush 102, 2) := by decide +kernel
theorem d_Mod_field_13 : decode prog_10_method_15_code 13 = .ok (.if_icmp .ne 11, 3) := by decide +kernel
theorem d_Mod_field_16 : decode prog_10_method_15_code 16 = .ok (.aload_n 0, 1) := by decide +kernel
theorem d_Mod_field_17 : decode prog_10_method_15_code 17 = .ok (.invokevirtual 151, 3) := by decide +kernel
theorem d_Mod_field_20 : decode prog_10_method_15_code 20 = .ok (.iconst 1, 1) := by decide +kernel
theorem d_Mod_field_21 : decode prog_10_method_15_code 21 = .ok (.if_icmp .eq 10, 3) := by decide +kernel
theorem d_Mod_field_24 : decode prog_10_method_15_code 24 = .ok (.aload_n 0, 1) := by decide +kernel
theorem d_Mod_field_25 : decode prog_10_method_15_code 25 = .ok (.iload_n 2, 1) := by decide +kernel
theorem d_Mod_field_26 : decode prog_10_method_15_code 26 = .ok (.invokevirtual 134, 3) := by decide +kernel
theorem d_Mod_field_29 : decode prog_10_method_15_code 29 = .ok (.iconst 0, 1) := by decide +kernel
theorem d_Mod_field_30 : decode prog_10_method_15_code 30 = .ok (.ireturn, 1) := by decide +kernel
theorem d_Mod_field_31 : decode prog_10_method_15_code 31 = .ok (.aload_n 0, 1) := by decide +kernel
theorem d_Mod_field_32 : decode prog_10_method_15_code 32 = .ok (.dup, 1) := by decide +kernel
theorem d_Mod_field_33 : decode prog_10_method_15_code 33 = .ok (.getfield 107, 3) := by decide +kernel
theorem d_Mod_field_36 : decode prog_10_method_15_code 36 = .ok (.iconst 1, 1) := by decide +kernel
theorem d_Mod_field_37 : decode prog_10_method_15_code 37 = .ok (.iadd, 1) := by decide +kernel
theorem d_Mod_field_38 : decode prog_10_method_15_code 38 = .ok (.putfield 107, 3) := by decide +kernel
theorem d_Mod_field_41 : decode prog_10_method_15_code 41 = .ok (.aload_n 0, 1) := by decide +kernel
theorem d_Mod_field_42 : decode prog_10_method_15_code 42 = .ok (.iconst 2, 1) := by decide +kernel
theorem d_Mod_field_43 : decode prog_10_method_15_code 43 = .ok (.iload_n 2, 1) := by decide +kernel
theorem d_Mod_field_44 : decode prog_10_method_15_code 44 = .ok (.invokevirtual 154, 3) := by decide +kernel
theorem d_Mod_field_47 : decode prog_10_method_15_code 47 = .ok (.istore_n 3, 1) := by decide +kernel
theorem d_Mod_field_48 : decode prog_10_method_15_code 48 = .ok (.iload_n 3, 1) := by decide +kernel
theorem d_Mod_field_49 : decode prog_10_method_15_code 49 = .ok (.bipush 19, 2) := by decide +kernel
theorem d_Mod_field_51 : decode prog_10_method_15_code 51 = .ok (.if_icmp .le 8, 3) := by decide +kernel
theorem d_Mod_field_54 : decode prog_10_method_15_code 54 = .ok (.aload_n 0, 1) := by decide +kernel
theorem d_Mod_field_55 : decode prog_10_method_15_code 55 = .ok (.iload_n 2, 1) := by decide +kernel
theorem d_Mod_field_56 : decode prog_10_method_15_code 56 = .ok (.invokevirtual 134, 3) := by decide +kernel
theorem d_Mod_field_59 : decode prog_10_method_15_code 59 = .ok (.iload_n 3, 1) := by decide +kernel
theorem d_Mod_field_60 : decode prog_10_method_15_code 60 = .ok (.ireturn, 1) := by decide +kernel
def m_field (μ : MS) : Option (Int32 × MS) := (m_look μ).bind (fun p1 => (if p1.1 = 102 then (m_word p1.2).bind (fun p17 => (if p17.1 = 1 then (m_digits 2 (p1.2.1 25) (sI 25 ((p17.2.1 25) + 1) p17.2)).bind (fun p44 => (if p44.1 ≤ 19 then some (p44.1, p44.2) else (m_fail (p1.2.1 25) p44.2).bind (fun p56 => some (p44.1, p56)))) else (m_fail (p1.2.1 25) p17.2).bind (fun p26 => some (0, p26)))) else (m_fail (p1.2.1 25) p1.2).bind (fun p26 => some (0, p26))))
set_option maxHeartbeats 4000000 in
set_option maxRecDepth 100000 in
theorem c_Mod_field {A : Nat → Nat} {f0 : Nat → va_E} {μ : MS} {res : (Int32 × MS)} (hM : zMf ck b0 N A f0 f μ) (h : m_field μ = some res) : zK l D ck ad b0 y_Mod_field prog_10_method_15_code 4 ((some FieldType.int)) 3 0 0 [.ref (A 38)] N f (fun r N' f' => r = some (.int res.1) ∧ N = N' ∧ zMf ck b0 N A f0 f' res.2) := by
  refine zM.of zG_w (by decide) (Nat.le_of_ble_eq_true rfl) ?_
  intro zp ze zst zm zar zbe zme zc X hnm hb0
  rw [m_field] at h
  refine z_aload_n X d_Mod_field_0 rfl ?_
  obtain ⟨p1, q1, h⟩ := bd h
  refine z_callV X zG_ok (c_Mod_look hM q1) d_Mod_field_1 ⟨(z_cb (n := 0) X.2.2.2.2.1 ml_Mod_147 mc_Mod_look ini_Mod (by decide +kernel) rfl rfl ⟨Nat.le_of_ble_eq_true rfl, Nat.le_of_ble_eq_true rfl⟩), X.2.2.2.2.1 _ im_Mod_look, X.2.2.2.2.1 _ sel_Mod_look⟩ (hM.lo 38 (by decide)) hM.ob cl_Mod rfl rfl (Nat.le_of_ble_eq_true rfl) ⟨Nat.le_of_ble_eq_true rfl, Nat.le_of_ble_eq_true rfl⟩ (fun r N1 f1 hp hN1 => ?_)
  obtain ⟨rfl, rfl, hM⟩ := hp
  refine z_istore_n X d_Mod_field_4 (by decide) rfl ?_
  refine z_aload_n X d_Mod_field_5 rfl ?_
  refine z_get X (v := .int (p1.2.1 25)) d_Mod_field_6 (hM.lo 38 (by decide)) hM.ob cl_Mod in_Mod 25 (by decide) fl_Mod_107 rfl rfl ?_
  refine z_istore_n X d_Mod_field_9 (by decide) rfl ?_
  refine z_iload_n X d_Mod_field_10 rfl ?_
  refine z_bipush X d_Mod_field_11 (v := 102) (by decide) ?_
  refine z_icmp_ne X 24 d_Mod_field_13 (by decide) (fun h13 => ?_) (fun h13 => ?_)
  · skip
    have h := (if_neg h13).symm.trans h
    refine z_aload_n X d_Mod_field_24 rfl ?_
    refine z_iload_n X d_Mod_field_25 rfl ?_
    obtain ⟨p26, q26, h⟩ := bd h
    refine z_callV X zG_ok (c_Mod_fail hM q26) d_Mod_field_26 ⟨(z_cb (n := 1) X.2.2.2.2.1 ml_Mod_134 mc_Mod_fail ini_Mod (by decide +kernel) rfl rfl ⟨Nat.le_of_ble_eq_true rfl, Nat.le_of_ble_eq_true rfl⟩), X.2.2.2.2.1 _ im_Mod_fail, X.2.2.2.2.1 _ sel_Mod_fail⟩ (hM.lo 38 (by decide)) hM.ob cl_Mod rfl rfl (Nat.le_of_ble_eq_true rfl) ⟨Nat.le_of_ble_eq_true rfl, Nat.le_of_ble_eq_true rfl⟩ (fun r N1 f1 hp hN1 => ?_)
    obtain ⟨rfl, rfl, hM⟩ := hp
    refine z_iconst X d_Mod_field_29 (v := 0) (by decide) ?_
    cases h
    exact z_iret X d_Mod_field_30 ⟨rfl, rfl, hM⟩
  · skip
    have h := (if_pos h13).symm.trans h
    refine z_aload_n X d_Mod_field_16 rfl ?_
    obtain ⟨p17, q17, h⟩ := bd h
    refine z_callV X zG_ok (c_Mod_word hM q17) d_Mod_field_17 ⟨(z_cb (n := 0) X.2.2.2.2.1 ml_Mod_151 mc_Mod_word ini_Mod (by decide +kernel) rfl rfl ⟨Nat.le_of_ble_eq_true rfl, Nat.le_of_ble_eq_true rfl⟩), X.2.2.2.2.1 _ im_Mod_word, X.2.2.2.2.1 _ sel_Mod_word⟩ (hM.lo 38 (by decide)) hM.ob cl_Mod rfl rfl (Nat.le_of_ble_eq_true rfl) ⟨Nat.le_of_ble_eq_true rfl, Nat.le_of_ble_eq_true rfl⟩ (fun r N1 f1 hp hN1 => ?_)
    obtain ⟨rfl, rfl, hM⟩ := hp
    refine z_iconst X d_Mod_field_20 (v := 1) (by decide) ?_
    refine z_icmp_eq X 31 d_Mod_field_21 (by decide) (fun h21 => ?_) (fun h21 => ?_)
    · skip
      have h := (if_pos h21).symm.trans h
      refine z_aload_n X d_Mod_field_31 rfl ?_
      refine z_dup X d_Mod_field_32 rfl ?_
      refine z_get X (v := .int (p17.2.1 25)) d_Mod_field_33 (hM.lo 38 (by decide)) hM.ob cl_Mod in_Mod 25 (by decide) fl_Mod_107 rfl rfl ?_
      refine z_iconst X d_Mod_field_36 (v := 1) (by decide) ?_
      refine z_iadd X d_Mod_field_37 ?_
      refine z_putM X t_Mod ty_Mod n_Mod d_Mod_field_38 hM cl_Mod in_Mod 25 (by decide) fl_Mod_107 rfl rfl rfl (by decide) rfl (fun hM => ?_)
      refine z_aload_n X d_Mod_field_41 rfl ?_
      refine z_iconst X d_Mod_field_42 (v := 2) (by decide) ?_
      refine z_iload_n X d_Mod_field_43 rfl ?_
      obtain ⟨p44, q44, h⟩ := bd h
      refine z_callV X zG_ok (c_Mod_digits hM q44) d_Mod_field_44 ⟨(z_cb (n := 2) X.2.2.2.2.1 ml_Mod_154 mc_Mod_digits ini_Mod (by decide +kernel) rfl rfl ⟨Nat.le_of_ble_eq_true rfl, Nat.le_of_ble_eq_true rfl⟩), X.2.2.2.2.1 _ im_Mod_digits, X.2.2.2.2.1 _ sel_Mod_digits⟩ (hM.lo 38 (by decide)) hM.ob cl_Mod rfl rfl (Nat.le_of_ble_eq_true rfl) ⟨Nat.le_of_ble_eq_true rfl, Nat.le_of_ble_eq_true rfl⟩ (fun r N1 f1 hp hN1 => ?_)
      obtain ⟨rfl, rfl, hM⟩ := hp
      refine z_istore_n X d_Mod_field_47 (by decide) rfl ?_
      refine z_iload_n X d_Mod_field_48 rfl ?_
      refine z_bipush X d_Mod_field_49 (v := 19) (by decide) ?_
      refine z_icmp_le X 59 d_Mod_field_51 (by decide) (fun h51 => ?_) (fun h51 => ?_)
      · skip
        have h := (if_pos h51).symm.trans h
        refine z_iload_n X d_Mod_field_59 rfl ?_
        cases h
        exact z_iret X d_Mod_field_60 ⟨rfl, rfl, hM⟩
      · skip
        have h := (if_neg h51).symm.trans h
        refine z_aload_n X d_Mod_field_54 rfl ?_
        refine z_iload_n X d_Mod_field_55 rfl ?_
        obtain ⟨p56, q56, h⟩ := bd h
        refine z_callV X zG_ok (c_Mod_fail hM q56) d_Mod_field_56 ⟨(z_cb (n := 1) X.2.2.2.2.1 ml_Mod_134 mc_Mod_fail ini_Mod (by decide +kernel) rfl rfl ⟨Nat.le_of_ble_eq_true rfl, Nat.le_of_ble_eq_true rfl⟩), X.2.2.2.2.1 _ im_Mod_fail, X.2.2.2.2.1 _ sel_Mod_fail⟩ (hM.lo 38 (by decide)) hM.ob cl_Mod rfl rfl (Nat.le_of_ble_eq_true rfl) ⟨Nat.le_of_ble_eq_true rfl, Nat.le_of_ble_eq_true rfl⟩ (fun r N1 f1 hp hN1 => ?_)
        obtain ⟨rfl, rfl, hM⟩ := hp
        refine z_iload_n X d_Mod_field_59 rfl ?_
        cases h
        exact z_iret X d_Mod_field_60 ⟨rfl, rfl, hM⟩
    · skip
      have h := (if_neg h21).symm.trans h
      refine z_aload_n X d_Mod_field_24 rfl ?_
      refine z_iload_n X d_Mod_field_25 rfl ?_
      obtain ⟨p26, q26, h⟩ := bd h
      refine z_callV X zG_ok (c_Mod_fail hM q26) d_Mod_field_26 ⟨(z_cb (n := 1) X.2.2.2.2.1 ml_Mod_134 mc_Mod_fail ini_Mod (by decide +kernel) rfl rfl ⟨Nat.le_of_ble_eq_true rfl, Nat.le_of_ble_eq_true rfl⟩), X.2.2.2.2.1 _ im_Mod_fail, X.2.2.2.2.1 _ sel_Mod_fail⟩ (hM.lo 38 (by decide)) hM.ob cl_Mod rfl rfl (Nat.le_of_ble_eq_true rfl) ⟨Nat.le_of_ble_eq_true rfl, Nat.le_of_ble_eq_true rfl⟩ (fun r N1 f1 hp hN1 => ?_)
      obtain ⟨rfl, rfl, hM⟩ := hp
      refine z_iconst X d_Mod_field_29 (v := 0) (by decide) ?_
      cases h
      exact z_iret X d_Mod_field_30 ⟨rfl, rfl, hM⟩
end
