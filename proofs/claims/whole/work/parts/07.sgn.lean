set_option maxRecDepth 100000 in
theorem mc_objInit : Cond.code Lib.objectInit ⟨#[0xb1]⟩ 1 none ∈ zTs := zT_in 92 rfl rfl
/-- the array classes -/
abbrev zty (ck : Nat → ClassId) : List (ClassId × FieldType) := [(ck 0, .int), (ck 1, .boolean), (ck 2, .long), (ck 3, .object "CheckRules$Rule"), (ck 4, .byte)]
/-- a contract over this system's tables: method, code, locals, answer's type, depth, cells, slots, arguments, heap, post -/
abbrev zK (l : Launch) (D : va_G) (ck : Nat → ClassId) (ad : (Nat → Nat) × (Nat → Nat)) (b0 : Nat) (y : MethodName) (c : ByteArray) (nL : Nat) (ret : Option FieldType) (d mc ms : Nat) (As : List Value) (N : Nat) (f : Nat → va_E) (P : Option Value → Nat → (Nat → va_E) → Prop) : Prop := zM l D zcl (zty ck) b0 (zG ad b0) y [Cond.code y c nL ret] (zR d mc ms) mc ms As N f P
abbrev aI (ck : Nat → ClassId) (n : Nat) (g : Nat → Int32) : va_E := .inl (ck 0, n, .inl g)
abbrev oSgn (ra : Nat) (u : Int32) : va_E := .inr (4, [.ref ra, .int u])
/-- Signs.get -/
def sgv (g : Nat → Int32) (u : Nat) (i : Int32) : Int32 := if i < 0 then -1 else if nI u ≤ i then -1 else g i.toNatClampNeg
section
variable {l : Launch} {D : va_G} {ck : Nat → ClassId} {ad : (Nat → Nat) × (Nat → Nat)} {b0 N : Nat} {f : Nat → va_E}
theorem d_Sgn_size_0 : decode prog_6_method_2_code 0 = .ok (.aload_n 0, 1) := by decide +kernel
theorem d_Sgn_size_1 : decode prog_6_method_2_code 1 = .ok (.getfield 15, 3) := by decide +kernel
theorem d_Sgn_size_4 : decode prog_6_method_2_code 4 = .ok (.ireturn, 1) := by decide +kernel
set_option maxHeartbeats 4000000 in
set_option maxRecDepth 100000 in
theorem c_Sgn_size {sg ra u : Nat} {g : Nat → Int32} (hP : zP b0 N f [(sg, oSgn ra (nI u)), (ra, aI ck 200 g)]) : zK l D ck ad b0 y_Sgn_size prog_6_method_2_code 1 ((some FieldType.int)) 0 0 0 [.ref sg] N f (fun r N' f' => r = some (.int (nI u)) ∧ N = N' ∧ f = f') := by
  refine zM.of zG_w (by decide) (Nat.le_of_ble_eq_true rfl) ?_
  intro p e s m args below meth c X hnm hb0
  refine z_aload_n X d_Sgn_size_0 rfl ?_
  refine z_get X d_Sgn_size_1 (hP.lo 0 rfl) (hP.at 0 rfl) cl_Sgn in_Sgn 1 (by decide) fl_Sgn_15 rfl rfl ?_
  exact z_iret X d_Sgn_size_4 ⟨rfl, rfl, rfl⟩
theorem d_Sgn_clear_0 : decode prog_6_method_3_code 0 = .ok (.aload_n 0, 1) := by decide +kernel
theorem d_Sgn_clear_1 : decode prog_6_method_3_code 1 = .ok (.iconst 0, 1) := by decide +kernel
theorem d_Sgn_clear_2 : decode prog_6_method_3_code 2 = .ok (.putfield 15, 3) := by decide +kernel
theorem d_Sgn_clear_5 : decode prog_6_method_3_code 5 = .ok (.return_, 1) := by decide +kernel
set_option maxHeartbeats 4000000 in
set_option maxRecDepth 100000 in
theorem c_Sgn_clear {sg ra u : Nat} {g : Nat → Int32} (hP : zP b0 N f [(sg, oSgn ra (nI u)), (ra, aI ck 200 g)]) : zK l D ck ad b0 y_Sgn_clear prog_6_method_3_code 1 (none) 0 0 0 [.ref sg] N f (fun r N' f' => r = none ∧ N = N' ∧ f' = va_up f sg (oSgn ra 0)) := by
  refine zM.of zG_w (by decide) (Nat.le_of_ble_eq_true rfl) ?_
  intro p e s m args below meth c X hnm hb0
  refine z_aload_n X d_Sgn_clear_0 rfl ?_
  refine z_iconst X d_Sgn_clear_1 (v := 0) (by decide) ?_
  refine z_putP X t_Sgn ty_Sgn n_Sgn d_Sgn_clear_2 hP 0 rfl cl_Sgn in_Sgn 1 (by decide) fl_Sgn_15 rfl rfl rfl rfl rfl (Nat.le_of_ble_eq_true rfl) (fun hP => ?_)
  exact z_vret X d_Sgn_clear_5 ⟨rfl, rfl, rfl⟩
theorem d_Sgn_get_0 : decode prog_6_method_5_code 0 = .ok (.iload_n 1, 1) := by decide +kernel
theorem d_Sgn_get_1 : decode prog_6_method_5_code 1 = .ok (.ifCond .lt 20, 3) := by decide +kernel
theorem d_Sgn_get_4 : decode prog_6_method_5_code 4 = .ok (.iload_n 1, 1) := by decide +kernel
theorem d_Sgn_get_5 : decode prog_6_method_5_code 5 = .ok (.aload_n 0, 1) := by decide +kernel
theorem d_Sgn_get_6 : decode prog_6_method_5_code 6 = .ok (.getfield 15, 3) := by decide +kernel
theorem d_Sgn_get_9 : decode prog_6_method_5_code 9 = .ok (.if_icmp .ge 12, 3) := by decide +kernel
theorem d_Sgn_get_12 : decode prog_6_method_5_code 12 = .ok (.iload_n 1, 1) := by decide +kernel
theorem d_Sgn_get_13 : decode prog_6_method_5_code 13 = .ok (.aload_n 0, 1) := by decide +kernel
theorem d_Sgn_get_14 : decode prog_6_method_5_code 14 = .ok (.getfield 9, 3) := by decide +kernel
theorem d_Sgn_get_17 : decode prog_6_method_5_code 17 = .ok (.arraylength, 1) := by decide +kernel
theorem d_Sgn_get_18 : decode prog_6_method_5_code 18 = .ok (.if_icmp .lt 5, 3) := by decide +kernel
theorem d_Sgn_get_21 : decode prog_6_method_5_code 21 = .ok (.iconst (-1), 1) := by decide +kernel
theorem d_Sgn_get_22 : decode prog_6_method_5_code 22 = .ok (.ireturn, 1) := by decide +kernel
theorem d_Sgn_get_23 : decode prog_6_method_5_code 23 = .ok (.aload_n 0, 1) := by decide +kernel
theorem d_Sgn_get_24 : decode prog_6_method_5_code 24 = .ok (.getfield 9, 3) := by decide +kernel
theorem d_Sgn_get_27 : decode prog_6_method_5_code 27 = .ok (.iload_n 1, 1) := by decide +kernel
theorem d_Sgn_get_28 : decode prog_6_method_5_code 28 = .ok (.iaload, 1) := by decide +kernel
theorem d_Sgn_get_29 : decode prog_6_method_5_code 29 = .ok (.ireturn, 1) := by decide +kernel
set_option maxHeartbeats 4000000 in
set_option maxRecDepth 100000 in
theorem c_Sgn_get {sg ra u : Nat} {g : Nat → Int32} (hP : zP b0 N f [(sg, oSgn ra (nI u)), (ra, aI ck 200 g)]) (hu : u ≤ 200) {i : Int32} : zK l D ck ad b0 y_Sgn_get prog_6_method_5_code 2 ((some FieldType.int)) 0 0 0 [.ref sg, .int i] N f (fun r N' f' => r = some (.int (sgv g u i)) ∧ N = N' ∧ f = f') := by
  refine zM.of zG_w (by decide) (Nat.le_of_ble_eq_true rfl) ?_
  intro p e s m args below meth c X hnm hb0
  refine z_iload_n X d_Sgn_get_0 rfl ?_
  refine z_if_lt X 21 d_Sgn_get_1 (by decide) (fun h1 => ?_) (fun h1 => ?_)
  · skip
    refine z_iconst X d_Sgn_get_21 (v := -1) (by decide) ?_
    exact z_iret X d_Sgn_get_22 ⟨by first | rw [sgv, if_pos h1] | rw [sgv, if_neg h1, if_pos h9], rfl, rfl⟩
  · skip
    refine z_iload_n X d_Sgn_get_4 rfl ?_
    refine z_aload_n X d_Sgn_get_5 rfl ?_
    refine z_get X d_Sgn_get_6 (hP.lo 0 rfl) (hP.at 0 rfl) cl_Sgn in_Sgn 1 (by decide) fl_Sgn_15 rfl rfl ?_
    refine z_icmp_ge X 21 d_Sgn_get_9 (by decide) (fun h9 => ?_) (fun h9 => ?_)
    · skip
      refine z_iconst X d_Sgn_get_21 (v := -1) (by decide) ?_
      exact z_iret X d_Sgn_get_22 ⟨by first | rw [sgv, if_pos h1] | rw [sgv, if_neg h1, if_pos h9], rfl, rfl⟩
    · skip
      refine z_iload_n X d_Sgn_get_12 rfl ?_
      refine z_aload_n X d_Sgn_get_13 rfl ?_
      refine z_get X d_Sgn_get_14 (hP.lo 0 rfl) (hP.at 0 rfl) cl_Sgn in_Sgn 0 (by decide) fl_Sgn_9 rfl rfl ?_
      refine z_alen X d_Sgn_get_17 (hP.lo 1 rfl) (hP.at 1 rfl) (t0 := 0) rfl rfl ?_
      refine z_icmp_lt X 23 d_Sgn_get_18 (by decide) (fun h18 => ?_) (fun h18 => ?_)
      · skip
        refine z_aload_n X d_Sgn_get_23 rfl ?_
        refine z_get X d_Sgn_get_24 (hP.lo 0 rfl) (hP.at 0 rfl) cl_Sgn in_Sgn 0 (by decide) fl_Sgn_9 rfl rfl ?_
        refine z_iload_n X d_Sgn_get_27 rfl ?_
        refine z_iald X d_Sgn_get_28 (hP.lo 1 rfl) (hP.at 1 rfl) (t0 := 0) rfl (by rw [vp_in_iff]; have a1 := Int32.not_lt.mp h1; rw [Int32.le_iff_toInt_le] at a1; have a2 := Int32.not_le.mp h9; rw [Int32.lt_iff_toInt_lt, nI_toInt (by omega)] at a2; simp at a1; omega) ?_
        exact z_iret X d_Sgn_get_29 ⟨by rw [sgv, if_neg h1, if_neg h9], rfl, rfl⟩
      · skip
        exact absurd (Int32.lt_of_lt_of_le (Int32.not_le.mp h9) (nI_le hu (by decide))) h18
theorem d_Sgn_add_0 : decode prog_6_method_4_code 0 = .ok (.aload_n 0, 1) := by decide +kernel
theorem d_Sgn_add_1 : decode prog_6_method_4_code 1 = .ok (.getfield 15, 3) := by decide +kernel
theorem d_Sgn_add_4 : decode prog_6_method_4_code 4 = .ok (.ifCond .lt 15, 3) := by decide +kernel
theorem d_Sgn_add_7 : decode prog_6_method_4_code 7 = .ok (.aload_n 0, 1) := by decide +kernel
theorem d_Sgn_add_8 : decode prog_6_method_4_code 8 = .ok (.getfield 15, 3) := by decide +kernel
theorem d_Sgn_add_11 : decode prog_6_method_4_code 11 = .ok (.aload_n 0, 1) := by decide +kernel
theorem d_Sgn_add_12 : decode prog_6_method_4_code 12 = .ok (.getfield 9, 3) := by decide +kernel
theorem d_Sgn_add_15 : decode prog_6_method_4_code 15 = .ok (.arraylength, 1) := by decide +kernel
theorem d_Sgn_add_16 : decode prog_6_method_4_code 16 = .ok (.if_icmp .lt 5, 3) := by decide +kernel
theorem d_Sgn_add_19 : decode prog_6_method_4_code 19 = .ok (.iconst 0, 1) := by decide +kernel
theorem d_Sgn_add_20 : decode prog_6_method_4_code 20 = .ok (.ireturn, 1) := by decide +kernel
theorem d_Sgn_add_21 : decode prog_6_method_4_code 21 = .ok (.aload_n 0, 1) := by decide +kernel
theorem d_Sgn_add_22 : decode prog_6_method_4_code 22 = .ok (.getfield 9, 3) := by decide +kernel
theorem d_Sgn_add_25 : decode prog_6_method_4_code 25 = .ok (.aload_n 0, 1) := by decide +kernel
theorem d_Sgn_add_26 : decode prog_6_method_4_code 26 = .ok (.getfield 15, 3) := by decide +kernel
theorem d_Sgn_add_29 : decode prog_6_method_4_code 29 = .ok (.iload_n 1, 1) := by decide +kernel
theorem d_Sgn_add_30 : decode prog_6_method_4_code 30 = .ok (.iastore, 1) := by decide +kernel
theorem d_Sgn_add_31 : decode prog_6_method_4_code 31 = .ok (.aload_n 0, 1) := by decide +kernel
theorem d_Sgn_add_32 : decode prog_6_method_4_code 32 = .ok (.dup, 1) := by decide +kernel
theorem d_Sgn_add_33 : decode prog_6_method_4_code 33 = .ok (.getfield 15, 3) := by decide +kernel
theorem d_Sgn_add_36 : decode prog_6_method_4_code 36 = .ok (.iconst 1, 1) := by decide +kernel
theorem d_Sgn_add_37 : decode prog_6_method_4_code 37 = .ok (.iadd, 1) := by decide +kernel
theorem d_Sgn_add_38 : decode prog_6_method_4_code 38 = .ok (.putfield 15, 3) := by decide +kernel
theorem d_Sgn_add_41 : decode prog_6_method_4_code 41 = .ok (.iconst 1, 1) := by decide +kernel
theorem d_Sgn_add_42 : decode prog_6_method_4_code 42 = .ok (.ireturn, 1) := by decide +kernel
set_option maxHeartbeats 4000000 in
set_option maxRecDepth 100000 in
theorem c_Sgn_add {sg ra u : Nat} {g : Nat → Int32} (hP : zP b0 N f [(sg, oSgn ra (nI u)), (ra, aI ck 200 g)]) (hu : u ≤ 200) {x : Int32} : zK l D ck ad b0 y_Sgn_add prog_6_method_4_code 2 ((some FieldType.boolean)) 0 0 0 [.ref sg, .int x] N f (fun r N' f' => if u < 200 then (r = some (.int 1) ∧ N = N' ∧ f' = va_up (va_up f ra (aI ck 200 (upd g u x))) sg (oSgn ra (nI (u + 1)))) else (r = some (.int 0) ∧ N = N' ∧ f = f')) := by
  refine zM.of zG_w (by decide) (Nat.le_of_ble_eq_true rfl) ?_
  intro p e s m args below meth c X hnm hb0
  refine z_aload_n X d_Sgn_add_0 rfl ?_
  refine z_get X d_Sgn_add_1 (hP.lo 0 rfl) (hP.at 0 rfl) cl_Sgn in_Sgn 1 (by decide) fl_Sgn_15 rfl rfl ?_
  refine z_if_lt X 19 d_Sgn_add_4 (by decide) (fun h4 => ?_) (fun h4 => ?_)
  · skip
    exact absurd h4 (nI_pos (by omega))
  · skip
    refine z_aload_n X d_Sgn_add_7 rfl ?_
    refine z_get X d_Sgn_add_8 (hP.lo 0 rfl) (hP.at 0 rfl) cl_Sgn in_Sgn 1 (by decide) fl_Sgn_15 rfl rfl ?_
    refine z_aload_n X d_Sgn_add_11 rfl ?_
    refine z_get X d_Sgn_add_12 (hP.lo 0 rfl) (hP.at 0 rfl) cl_Sgn in_Sgn 0 (by decide) fl_Sgn_9 rfl rfl ?_
    refine z_alen X d_Sgn_add_15 (hP.lo 1 rfl) (hP.at 1 rfl) (t0 := 0) rfl rfl ?_
    refine z_icmp_lt X 21 d_Sgn_add_16 (by decide) (fun h16 => ?_) (fun h16 => ?_)
    · skip
      have hu2 : u < 200 := (nI_ltI (b := 200) (by omega) (by decide)).mp h16
      refine z_aload_n X d_Sgn_add_21 rfl ?_
      refine z_get X d_Sgn_add_22 (hP.lo 0 rfl) (hP.at 0 rfl) cl_Sgn in_Sgn 0 (by decide) fl_Sgn_9 rfl rfl ?_
      refine z_aload_n X d_Sgn_add_25 rfl ?_
      refine z_get X d_Sgn_add_26 (hP.lo 0 rfl) (hP.at 0 rfl) cl_Sgn in_Sgn 1 (by decide) fl_Sgn_15 rfl rfl ?_
      refine z_iload_n X d_Sgn_add_29 rfl ?_
      refine z_iastP X d_Sgn_add_30 hP 1 rfl (t0 := 0) rfl (vp_in_nI hu2 (by decide)) (fun hP => ?_)
      refine z_aload_n X d_Sgn_add_31 rfl ?_
      refine z_dup X d_Sgn_add_32 rfl ?_
      refine z_get X d_Sgn_add_33 (hP.lo 0 rfl) (hP.at 0 rfl) cl_Sgn in_Sgn 1 (by decide) fl_Sgn_15 rfl rfl ?_
      refine z_iconst X d_Sgn_add_36 (v := 1) (by decide) ?_
      refine z_iadd X d_Sgn_add_37 ?_
      refine z_putP X t_Sgn ty_Sgn n_Sgn d_Sgn_add_38 hP 0 rfl cl_Sgn in_Sgn 1 (by decide) fl_Sgn_15 rfl rfl rfl rfl rfl (Nat.le_of_ble_eq_true rfl) (fun hP => ?_)
      refine z_iconst X d_Sgn_add_41 (v := 1) (by decide) ?_
      exact z_zret X d_Sgn_add_42 rfl (by rw [if_pos hu2]; refine ⟨rfl, rfl, ?_⟩; rw [nI_clamp (by omega), ← nI_succ]; rfl)
    · skip
      have hu2 : ¬ u < 200 := fun q => h16 (nI_lt (b := 200) q (by decide))
      refine z_iconst X d_Sgn_add_19 (v := 0) (by decide) ?_
      exact z_zret X d_Sgn_add_20 rfl (by rw [if_neg hu2]; exact ⟨rfl, rfl, rfl⟩)
end
