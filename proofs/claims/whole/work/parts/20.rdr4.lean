section
variable {l : Launch} {D : va_G} {ck : Nat → ClassId} {ad : (Nat → Nat) × (Nat → Nat)} {b0 N : Nat} {f : Nat → va_E}
variable {A : Nat → Nat} {g : Nat → Int32} {len : Nat} {st : RSt}
theorem d_Rdr_takeBehindPart_0 : decode prog_4_method_11_code 0 = .ok (.aload_n 0, 1) := by decide +kernel
theorem d_Rdr_takeBehindPart_1 : decode prog_4_method_11_code 1 = .ok (.getfield 72, 3) := by decide +kernel
theorem d_Rdr_takeBehindPart_4 : decode prog_4_method_11_code 4 = .ok (.ifCond .lt 15, 3) := by decide +kernel
theorem d_Rdr_takeBehindPart_7 : decode prog_4_method_11_code 7 = .ok (.aload_n 0, 1) := by decide +kernel
theorem d_Rdr_takeBehindPart_8 : decode prog_4_method_11_code 8 = .ok (.getfield 72, 3) := by decide +kernel
theorem d_Rdr_takeBehindPart_11 : decode prog_4_method_11_code 11 = .ok (.aload_n 0, 1) := by decide +kernel
theorem d_Rdr_takeBehindPart_12 : decode prog_4_method_11_code 12 = .ok (.getfield 32, 3) := by decide +kernel
theorem d_Rdr_takeBehindPart_15 : decode prog_4_method_11_code 15 = .ok (.arraylength, 1) := by decide +kernel
theorem d_Rdr_takeBehindPart_16 : decode prog_4_method_11_code 16 = .ok (.if_icmp .lt 5, 3) := by decide +kernel
theorem d_Rdr_takeBehindPart_19 : decode prog_4_method_11_code 19 = .ok (.iconst 0, 1) := by decide +kernel
theorem d_Rdr_takeBehindPart_20 : decode prog_4_method_11_code 20 = .ok (.ireturn, 1) := by decide +kernel
theorem d_Rdr_takeBehindPart_21 : decode prog_4_method_11_code 21 = .ok (.aload_n 0, 1) := by decide +kernel
theorem d_Rdr_takeBehindPart_22 : decode prog_4_method_11_code 22 = .ok (.aload_n 0, 1) := by decide +kernel
theorem d_Rdr_takeBehindPart_23 : decode prog_4_method_11_code 23 = .ok (.getfield 32, 3) := by decide +kernel
theorem d_Rdr_takeBehindPart_26 : decode prog_4_method_11_code 26 = .ok (.aload_n 0, 1) := by decide +kernel
theorem d_Rdr_takeBehindPart_27 : decode prog_4_method_11_code 27 = .ok (.getfield 72, 3) := by decide +kernel
theorem d_Rdr_takeBehindPart_30 : decode prog_4_method_11_code 30 = .ok (.iaload, 1) := by decide +kernel
theorem d_Rdr_takeBehindPart_31 : decode prog_4_method_11_code 31 = .ok (.putfield 46, 3) := by decide +kernel
theorem d_Rdr_takeBehindPart_34 : decode prog_4_method_11_code 34 = .ok (.aload_n 0, 1) := by decide +kernel
theorem d_Rdr_takeBehindPart_35 : decode prog_4_method_11_code 35 = .ok (.getfield 63, 3) := by decide +kernel
theorem d_Rdr_takeBehindPart_38 : decode prog_4_method_11_code 38 = .ok (.lookupswitch 103 #[(38, 34), (41, 98), (124, 57)], 34) := by decide +kernel
theorem d_Rdr_takeBehindPart_72 : decode prog_4_method_11_code 72 = .ok (.aload_n 0, 1) := by decide +kernel
theorem d_Rdr_takeBehindPart_73 : decode prog_4_method_11_code 73 = .ok (.iconst 0, 1) := by decide +kernel
theorem d_Rdr_takeBehindPart_74 : decode prog_4_method_11_code 74 = .ok (.putfield 66, 3) := by decide +kernel
theorem d_Rdr_takeBehindPart_77 : decode prog_4_method_11_code 77 = .ok (.aload_n 0, 1) := by decide +kernel
theorem d_Rdr_takeBehindPart_78 : decode prog_4_method_11_code 78 = .ok (.getfield 21, 3) := by decide +kernel
theorem d_Rdr_takeBehindPart_81 : decode prog_4_method_11_code 81 = .ok (.aload_n 0, 1) := by decide +kernel
theorem d_Rdr_takeBehindPart_82 : decode prog_4_method_11_code 82 = .ok (.getfield 29, 3) := by decide +kernel
theorem d_Rdr_takeBehindPart_85 : decode prog_4_method_11_code 85 = .ok (.aload_n 0, 1) := by decide +kernel
theorem d_Rdr_takeBehindPart_86 : decode prog_4_method_11_code 86 = .ok (.getfield 72, 3) := by decide +kernel
theorem d_Rdr_takeBehindPart_89 : decode prog_4_method_11_code 89 = .ok (.iaload, 1) := by decide +kernel
theorem d_Rdr_takeBehindPart_90 : decode prog_4_method_11_code 90 = .ok (.iconst 1, 1) := by decide +kernel
theorem d_Rdr_takeBehindPart_91 : decode prog_4_method_11_code 91 = .ok (.invokevirtual 115, 3) := by decide +kernel
theorem d_Rdr_takeBehindPart_94 : decode prog_4_method_11_code 94 = .ok (.ireturn, 1) := by decide +kernel
theorem d_Rdr_takeBehindPart_95 : decode prog_4_method_11_code 95 = .ok (.aload_n 0, 1) := by decide +kernel
theorem d_Rdr_takeBehindPart_96 : decode prog_4_method_11_code 96 = .ok (.iconst 0, 1) := by decide +kernel
theorem d_Rdr_takeBehindPart_97 : decode prog_4_method_11_code 97 = .ok (.putfield 66, 3) := by decide +kernel
theorem d_Rdr_takeBehindPart_100 : decode prog_4_method_11_code 100 = .ok (.aload_n 0, 1) := by decide +kernel
theorem d_Rdr_takeBehindPart_101 : decode prog_4_method_11_code 101 = .ok (.getfield 21, 3) := by decide +kernel
theorem d_Rdr_takeBehindPart_104 : decode prog_4_method_11_code 104 = .ok (.aload_n 0, 1) := by decide +kernel
theorem d_Rdr_takeBehindPart_105 : decode prog_4_method_11_code 105 = .ok (.getfield 25, 3) := by decide +kernel
theorem d_Rdr_takeBehindPart_108 : decode prog_4_method_11_code 108 = .ok (.aload_n 0, 1) := by decide +kernel
theorem d_Rdr_takeBehindPart_109 : decode prog_4_method_11_code 109 = .ok (.getfield 72, 3) := by decide +kernel
theorem d_Rdr_takeBehindPart_112 : decode prog_4_method_11_code 112 = .ok (.iaload, 1) := by decide +kernel
theorem d_Rdr_takeBehindPart_113 : decode prog_4_method_11_code 113 = .ok (.iconst 0, 1) := by decide +kernel
theorem d_Rdr_takeBehindPart_114 : decode prog_4_method_11_code 114 = .ok (.invokevirtual 115, 3) := by decide +kernel
theorem d_Rdr_takeBehindPart_117 : decode prog_4_method_11_code 117 = .ok (.istore_n 1, 1) := by decide +kernel
theorem d_Rdr_takeBehindPart_118 : decode prog_4_method_11_code 118 = .ok (.aload_n 0, 1) := by decide +kernel
theorem d_Rdr_takeBehindPart_119 : decode prog_4_method_11_code 119 = .ok (.getfield 29, 3) := by decide +kernel
theorem d_Rdr_takeBehindPart_122 : decode prog_4_method_11_code 122 = .ok (.aload_n 0, 1) := by decide +kernel
theorem d_Rdr_takeBehindPart_123 : decode prog_4_method_11_code 123 = .ok (.getfield 72, 3) := by decide +kernel
theorem d_Rdr_takeBehindPart_126 : decode prog_4_method_11_code 126 = .ok (.aload_n 0, 1) := by decide +kernel
theorem d_Rdr_takeBehindPart_127 : decode prog_4_method_11_code 127 = .ok (.getfield 21, 3) := by decide +kernel
theorem d_Rdr_takeBehindPart_130 : decode prog_4_method_11_code 130 = .ok (.invokevirtual 98, 3) := by decide +kernel
theorem d_Rdr_takeBehindPart_133 : decode prog_4_method_11_code 133 = .ok (.iastore, 1) := by decide +kernel
theorem d_Rdr_takeBehindPart_134 : decode prog_4_method_11_code 134 = .ok (.iload_n 1, 1) := by decide +kernel
theorem d_Rdr_takeBehindPart_135 : decode prog_4_method_11_code 135 = .ok (.ireturn, 1) := by decide +kernel
theorem d_Rdr_takeBehindPart_136 : decode prog_4_method_11_code 136 = .ok (.aload_n 0, 1) := by decide +kernel
theorem d_Rdr_takeBehindPart_137 : decode prog_4_method_11_code 137 = .ok (.invokevirtual 129, 3) := by decide +kernel
theorem d_Rdr_takeBehindPart_140 : decode prog_4_method_11_code 140 = .ok (.ireturn, 1) := by decide +kernel
theorem d_Rdr_takeBehindPart_141 : decode prog_4_method_11_code 141 = .ok (.aload_n 0, 1) := by decide +kernel
theorem d_Rdr_takeBehindPart_142 : decode prog_4_method_11_code 142 = .ok (.getfield 63, 3) := by decide +kernel
theorem d_Rdr_takeBehindPart_145 : decode prog_4_method_11_code 145 = .ok (.ifCond .ne 14, 3) := by decide +kernel
theorem d_Rdr_takeBehindPart_148 : decode prog_4_method_11_code 148 = .ok (.aload_n 0, 1) := by decide +kernel
theorem d_Rdr_takeBehindPart_149 : decode prog_4_method_11_code 149 = .ok (.getfield 72, 3) := by decide +kernel
theorem d_Rdr_takeBehindPart_152 : decode prog_4_method_11_code 152 = .ok (.ifCond .ne 7, 3) := by decide +kernel
theorem d_Rdr_takeBehindPart_155 : decode prog_4_method_11_code 155 = .ok (.iconst 1, 1) := by decide +kernel
theorem d_Rdr_takeBehindPart_156 : decode prog_4_method_11_code 156 = .ok (.goto 4, 3) := by decide +kernel
theorem d_Rdr_takeBehindPart_159 : decode prog_4_method_11_code 159 = .ok (.iconst 0, 1) := by decide +kernel
theorem d_Rdr_takeBehindPart_160 : decode prog_4_method_11_code 160 = .ok (.ireturn, 1) := by decide +kernel
set_option maxHeartbeats 4000000 in
set_option maxRecDepth 100000 in
theorem c_Rdr_takeBehindPart (hP : zP b0 N f (wRdr ck A g len st)) (hu : uok st) : zK l D ck ad b0 y_Rdr_takeBehindPart prog_4_method_11_code 2 ((some FieldType.boolean)) 2 0 0 [.ref (A 0)] N f (fun r N' f' => r = some (.int (zb (bBP st).1)) ∧ N = N' ∧ zP b0 N f' (wRdr ck A g len ((bBP st).2)) ∧ zF N f f' (AA A)) := by
  refine zM.of zG_w (by decide) (Nat.le_of_ble_eq_true rfl) ?_
  intro zp ze zst zm zar zbe zme zc X hnm hb0
  have hF : zF N f f (AA A) := zF.rf
  refine z_aload_n X d_Rdr_takeBehindPart_0 rfl ?_
  refine z_get X d_Rdr_takeBehindPart_1 (hP.lo 0 rfl) (hP.at 0 rfl) cl_Rdr in_Rdr 5 (by decide) fl_Rdr_72 rfl rfl ?_
  refine z_if_lt X 19 d_Rdr_takeBehindPart_4 (by decide) (fun h4 => ?_) (fun h4 => ?_)
  · skip
    have e9 : bBP st = (false, st) := by rw [bBP, if_pos h4]
    refine z_iconst X d_Rdr_takeBehindPart_19 (v := 0) (by decide) ?_
    exact z_zret X d_Rdr_takeBehindPart_20 rfl ⟨by rw [e9]; rfl, rfl, by rw [e9]; exact hP, hF⟩
  · skip
    refine z_aload_n X d_Rdr_takeBehindPart_7 rfl ?_
    refine z_get X d_Rdr_takeBehindPart_8 (hP.lo 0 rfl) (hP.at 0 rfl) cl_Rdr in_Rdr 5 (by decide) fl_Rdr_72 rfl rfl ?_
    refine z_aload_n X d_Rdr_takeBehindPart_11 rfl ?_
    refine z_get X d_Rdr_takeBehindPart_12 (hP.lo 0 rfl) (hP.at 0 rfl) cl_Rdr in_Rdr 4 (by decide) fl_Rdr_32 rfl rfl ?_
    refine z_alen X d_Rdr_takeBehindPart_15 (hP.lo 5 rfl) (hP.at 5 rfl) (t0 := 0) rfl rfl ?_
    refine z_icmp_lt X 21 d_Rdr_takeBehindPart_16 (by decide) (fun h16 => ?_) (fun h16 => ?_)
    · skip
      have h16 : st.1 5 < 11 := h16
      have hvp : vp_in (st.1 5) 11 := (by rw [vp_in_iff]; have a1 := Int32.not_lt.mp h4; rw [Int32.le_iff_toInt_le] at a1; have a2 := h16; rw [Int32.lt_iff_toInt_lt] at a2; simp at a1; exact ⟨a1, a2⟩)
      have e8 : bBP st = bBP1 (qs 6 (st.2.2.2.2 (st.1 5).toNatClampNeg) st) := by rw [bBP, if_neg h4, if_pos h16]
      refine z_aload_n X d_Rdr_takeBehindPart_21 rfl ?_
      refine z_aload_n X d_Rdr_takeBehindPart_22 rfl ?_
      refine z_get X d_Rdr_takeBehindPart_23 (hP.lo 0 rfl) (hP.at 0 rfl) cl_Rdr in_Rdr 4 (by decide) fl_Rdr_32 rfl rfl ?_
      refine z_aload_n X d_Rdr_takeBehindPart_26 rfl ?_
      refine z_get X d_Rdr_takeBehindPart_27 (hP.lo 0 rfl) (hP.at 0 rfl) cl_Rdr in_Rdr 5 (by decide) fl_Rdr_72 rfl rfl ?_
      refine z_iald X d_Rdr_takeBehindPart_30 (hP.lo 5 rfl) (hP.at 5 rfl) (t0 := 0) rfl hvp ?_
      refine z_putP X t_Rdr ty_Rdr n_Rdr d_Rdr_takeBehindPart_31 hP 0 rfl cl_Rdr in_Rdr 6 (by decide) fl_Rdr_46 rfl rfl rfl rfl rfl (Nat.le_of_ble_eq_true rfl) (fun hP => ?_)
      have hF := hF.by (by simp) hP
      refine z_aload_n X d_Rdr_takeBehindPart_34 rfl ?_
      refine z_get X d_Rdr_takeBehindPart_35 (hP.lo 0 rfl) (hP.at 0 rfl) cl_Rdr in_Rdr 11 (by decide) fl_Rdr_63 rfl rfl ?_
      refine z_lookS X 141 [(38, 72), (41, 136), (124, 95)] d_Rdr_takeBehindPart_38 (by decide) (by decide) (by decide) (fun i hi hx => ?_) (fun hd => ?_)
      · match i, hi, hx with
        | 0, _, hx =>
          have g38 : _ = (38 : Int32) := hx
          have g38 : st.1 11 = 38 := g38
          have e9 := e8.trans (if_pos g38)
          refine zW.topc (pc' := 72) rfl ?_
          refine z_aload_n X d_Rdr_takeBehindPart_72 rfl ?_
          refine z_iconst X d_Rdr_takeBehindPart_73 (v := 0) (by decide) ?_
          refine z_putP X t_Rdr ty_Rdr n_Rdr d_Rdr_takeBehindPart_74 hP 0 rfl cl_Rdr in_Rdr 9 (by decide) fl_Rdr_66 rfl rfl rfl rfl rfl (Nat.le_of_ble_eq_true rfl) (fun hP => ?_)
          have hF := hF.by (by simp) hP
          refine z_aload_n X d_Rdr_takeBehindPart_77 rfl ?_
          refine z_get X d_Rdr_takeBehindPart_78 (hP.lo 0 rfl) (hP.at 0 rfl) cl_Rdr in_Rdr 1 (by decide) fl_Rdr_21 rfl rfl ?_
          refine z_aload_n X d_Rdr_takeBehindPart_81 rfl ?_
          refine z_get X d_Rdr_takeBehindPart_82 (hP.lo 0 rfl) (hP.at 0 rfl) cl_Rdr in_Rdr 3 (by decide) fl_Rdr_29 rfl rfl ?_
          refine z_aload_n X d_Rdr_takeBehindPart_85 rfl ?_
          refine z_get X d_Rdr_takeBehindPart_86 (hP.lo 0 rfl) (hP.at 0 rfl) cl_Rdr in_Rdr 5 (by decide) fl_Rdr_72 rfl rfl ?_
          refine z_iald X d_Rdr_takeBehindPart_89 (hP.lo 4 rfl) (hP.at 4 rfl) (t0 := 0) rfl hvp ?_
          refine z_iconst X d_Rdr_takeBehindPart_90 (v := 1) (by decide) ?_
          refine z_callV X zG_ok (c_Tre_insertT (ts := (qs 9 0 (qs 6 (st.2.2.2.2 (st.1 5).toNatClampNeg) st)).2.1) (hP.sub [6, 7, 8, 9] (by decide) rfl) hu) d_Rdr_takeBehindPart_91 ⟨(z_cb (n := 2) X.2.2.2.2.1 ml_Rdr_115 mc_Tre_insert ini_Tre (by decide +kernel) rfl rfl ⟨Nat.le_of_ble_eq_true rfl, Nat.le_of_ble_eq_true rfl⟩), X.2.2.2.2.1 _ im_Tre_insert, X.2.2.2.2.1 _ sel_Tre_insert⟩ (hP.lo 6 rfl) (hP.at 6 rfl) cl_Tre rfl rfl (Nat.le_of_ble_eq_true rfl) ⟨Nat.le_of_ble_eq_true rfl, Nat.le_of_ble_eq_true rfl⟩ (fun r N1 f1 hp hN1 => ?_)
          obtain ⟨rfl, rfl, hT, hF1⟩ := hp
          have hP := zP.tre (g := g) (len := len) (st := qs 9 0 (qs 6 (st.2.2.2.2 (st.1 5).toNatClampNeg) st)) hP hT hF1
          have hF := hF.tre hF1
          exact z_zret X d_Rdr_takeBehindPart_94 (zb_n _) ⟨by rw [e9]; rfl, rfl, by rw [e9]; exact hP, hF⟩
        | 1, _, hx =>
          have g38 : _ = (41 : Int32) := hx
          have g38 : st.1 11 = 41 := g38
          have e9 := e8.trans ((if_neg (by show ¬ st.1 11 = 38; rw [g38]; decide)).trans (if_pos g38))
          refine zW.topc (pc' := 136) rfl ?_
          refine z_aload_n X d_Rdr_takeBehindPart_136 rfl ?_
          refine z_callV X zG_ok (c_Rdr_endLevelB (st := qs 6 (st.2.2.2.2 (st.1 5).toNatClampNeg) st) hP) d_Rdr_takeBehindPart_137 ⟨(z_cb (n := 0) X.2.2.2.2.1 ml_Rdr_129 mc_Rdr_endLevel ini_Rdr (by decide +kernel) rfl rfl ⟨Nat.le_of_ble_eq_true rfl, Nat.le_of_ble_eq_true rfl⟩), X.2.2.2.2.1 _ im_Rdr_endLevel, X.2.2.2.2.1 _ sel_Rdr_endLevel⟩ (hP.lo 0 rfl) (hP.at 0 rfl) cl_Rdr rfl rfl (Nat.le_of_ble_eq_true rfl) ⟨Nat.le_of_ble_eq_true rfl, Nat.le_of_ble_eq_true rfl⟩ (fun r N1 f1 hp hN1 => ?_)
          obtain ⟨rfl, rfl, hP, hF1⟩ := hp
          have hF := hF.join hF1 (Nat.le_refl _) (fun _ h => Or.inl h)
          exact z_zret X d_Rdr_takeBehindPart_140 (zb_n _) ⟨by rw [e9], rfl, by rw [e9]; exact hP, hF⟩
        | 2, _, hx =>
          have g38 : _ = (124 : Int32) := hx
          have g38 : st.1 11 = 124 := g38
          have e9 := e8.trans ((if_neg (by show ¬ st.1 11 = 38; rw [g38]; decide)).trans ((if_neg (by show ¬ st.1 11 = 41; rw [g38]; decide)).trans (if_pos g38)))
          refine zW.topc (pc' := 95) rfl ?_
          refine z_aload_n X d_Rdr_takeBehindPart_95 rfl ?_
          refine z_iconst X d_Rdr_takeBehindPart_96 (v := 0) (by decide) ?_
          refine z_putP X t_Rdr ty_Rdr n_Rdr d_Rdr_takeBehindPart_97 hP 0 rfl cl_Rdr in_Rdr 9 (by decide) fl_Rdr_66 rfl rfl rfl rfl rfl (Nat.le_of_ble_eq_true rfl) (fun hP => ?_)
          have hF := hF.by (by simp) hP
          refine z_aload_n X d_Rdr_takeBehindPart_100 rfl ?_
          refine z_get X d_Rdr_takeBehindPart_101 (hP.lo 0 rfl) (hP.at 0 rfl) cl_Rdr in_Rdr 1 (by decide) fl_Rdr_21 rfl rfl ?_
          refine z_aload_n X d_Rdr_takeBehindPart_104 rfl ?_
          refine z_get X d_Rdr_takeBehindPart_105 (hP.lo 0 rfl) (hP.at 0 rfl) cl_Rdr in_Rdr 2 (by decide) fl_Rdr_25 rfl rfl ?_
          refine z_aload_n X d_Rdr_takeBehindPart_108 rfl ?_
          refine z_get X d_Rdr_takeBehindPart_109 (hP.lo 0 rfl) (hP.at 0 rfl) cl_Rdr in_Rdr 5 (by decide) fl_Rdr_72 rfl rfl ?_
          refine z_iald X d_Rdr_takeBehindPart_112 (hP.lo 3 rfl) (hP.at 3 rfl) (t0 := 0) rfl hvp ?_
          refine z_iconst X d_Rdr_takeBehindPart_113 (v := 0) (by decide) ?_
          refine z_callV X zG_ok (c_Tre_insertT (ts := (qs 9 0 (qs 6 (st.2.2.2.2 (st.1 5).toNatClampNeg) st)).2.1) (hP.sub [6, 7, 8, 9] (by decide) rfl) hu) d_Rdr_takeBehindPart_114 ⟨(z_cb (n := 2) X.2.2.2.2.1 ml_Rdr_115 mc_Tre_insert ini_Tre (by decide +kernel) rfl rfl ⟨Nat.le_of_ble_eq_true rfl, Nat.le_of_ble_eq_true rfl⟩), X.2.2.2.2.1 _ im_Tre_insert, X.2.2.2.2.1 _ sel_Tre_insert⟩ (hP.lo 6 rfl) (hP.at 6 rfl) cl_Tre rfl rfl (Nat.le_of_ble_eq_true rfl) ⟨Nat.le_of_ble_eq_true rfl, Nat.le_of_ble_eq_true rfl⟩ (fun r N1 f1 hp hN1 => ?_)
          obtain ⟨rfl, rfl, hT, hF1⟩ := hp
          have hP := zP.tre (g := g) (len := len) (st := qs 9 0 (qs 6 (st.2.2.2.2 (st.1 5).toNatClampNeg) st)) hP hT hF1
          have hF := hF.tre hF1
          refine z_istore_n X d_Rdr_takeBehindPart_117 (by decide) rfl ?_
          refine z_aload_n X d_Rdr_takeBehindPart_118 rfl ?_
          refine z_get X d_Rdr_takeBehindPart_119 (hP.lo 0 rfl) (hP.at 0 rfl) cl_Rdr in_Rdr 3 (by decide) fl_Rdr_29 rfl rfl ?_
          refine z_aload_n X d_Rdr_takeBehindPart_122 rfl ?_
          refine z_get X d_Rdr_takeBehindPart_123 (hP.lo 0 rfl) (hP.at 0 rfl) cl_Rdr in_Rdr 5 (by decide) fl_Rdr_72 rfl rfl ?_
          refine z_aload_n X d_Rdr_takeBehindPart_126 rfl ?_
          refine z_get X d_Rdr_takeBehindPart_127 (hP.lo 0 rfl) (hP.at 0 rfl) cl_Rdr in_Rdr 1 (by decide) fl_Rdr_21 rfl rfl ?_
          refine z_callV X zG_ok (c_Tre_size (hP.sub [6, 7, 8, 9] (by decide) rfl)) d_Rdr_takeBehindPart_130 ⟨(z_cb (n := 0) X.2.2.2.2.1 ml_Rdr_98 mc_Tre_size ini_Tre (by decide +kernel) rfl rfl ⟨Nat.le_of_ble_eq_true rfl, Nat.le_of_ble_eq_true rfl⟩), X.2.2.2.2.1 _ im_Tre_size, X.2.2.2.2.1 _ sel_Tre_size⟩ (hP.lo 6 rfl) (hP.at 6 rfl) cl_Tre rfl rfl (Nat.le_of_ble_eq_true rfl) ⟨Nat.le_of_ble_eq_true rfl, Nat.le_of_ble_eq_true rfl⟩ (fun r N1 f1 hp hN1 => ?_)
          obtain ⟨rfl, rfl, rfl⟩ := hp
          refine z_iastP X d_Rdr_takeBehindPart_133 hP 4 rfl (t0 := 0) rfl hvp (fun hP => ?_)
          have hF := hF.by (by simp) hP
          refine z_iload_n X d_Rdr_takeBehindPart_134 rfl ?_
          exact z_zret X d_Rdr_takeBehindPart_135 (zb_n _) ⟨by rw [e9]; rfl, rfl, by rw [e9]; exact hP, hF⟩
        | j + 3, hi, _ => exact absurd hi (by simp)
      · skip
        have g38_0 : ¬ _ = (38 : Int32) := hd 0 (by decide)
        have g38_1 : ¬ _ = (41 : Int32) := hd 1 (by decide)
        have g38_2 : ¬ _ = (124 : Int32) := hd 2 (by decide)
        have e7 : bBP st = (decide (st.1 11 = 0) && decide (st.1 5 = 0), qs 6 (st.2.2.2.2 (st.1 5).toNatClampNeg) st) := e8.trans ((if_neg g38_0).trans ((if_neg g38_1).trans (if_neg g38_2)))
        refine z_aload_n X d_Rdr_takeBehindPart_141 rfl ?_
        refine z_get X d_Rdr_takeBehindPart_142 (hP.lo 0 rfl) (hP.at 0 rfl) cl_Rdr in_Rdr 11 (by decide) fl_Rdr_63 rfl rfl ?_
        refine z_if_ne X 159 d_Rdr_takeBehindPart_145 (by decide) (fun h145 => ?_) (fun h145 => ?_)
        · skip
          have e9 : bBP st = (false, qs 6 (st.2.2.2.2 (st.1 5).toNatClampNeg) st) := by rw [e7, decide_eq_false h145]; rfl
          refine z_iconst X d_Rdr_takeBehindPart_159 (v := 0) (by decide) ?_
          exact z_zret X d_Rdr_takeBehindPart_160 rfl ⟨by rw [e9]; rfl, rfl, by rw [e9]; exact hP, hF⟩
        · skip
          refine z_aload_n X d_Rdr_takeBehindPart_148 rfl ?_
          refine z_get X d_Rdr_takeBehindPart_149 (hP.lo 0 rfl) (hP.at 0 rfl) cl_Rdr in_Rdr 5 (by decide) fl_Rdr_72 rfl rfl ?_
          refine z_if_ne X 159 d_Rdr_takeBehindPart_152 (by decide) (fun h152 => ?_) (fun h152 => ?_)
          · skip
            have e9 : bBP st = (false, qs 6 (st.2.2.2.2 (st.1 5).toNatClampNeg) st) := by rw [e7, decide_eq_false h152, Bool.and_false]
            refine z_iconst X d_Rdr_takeBehindPart_159 (v := 0) (by decide) ?_
            exact z_zret X d_Rdr_takeBehindPart_160 rfl ⟨by rw [e9]; rfl, rfl, by rw [e9]; exact hP, hF⟩
          · skip
            have e9 : bBP st = (true, qs 6 (st.2.2.2.2 (st.1 5).toNatClampNeg) st) := by rw [e7, decide_eq_true h152, decide_eq_true h145]; rfl
            refine z_iconst X d_Rdr_takeBehindPart_155 (v := 1) (by decide) ?_
            refine z_goto X 160 d_Rdr_takeBehindPart_156 (by decide) ?_
            exact z_zret X d_Rdr_takeBehindPart_160 rfl ⟨by rw [e9]; rfl, rfl, by rw [e9]; exact hP, hF⟩
    · skip
      have h16 : ¬ st.1 5 < 11 := h16
      have e9 : bBP st = (false, st) := by rw [bBP, if_neg h4, if_neg h16]
      refine z_iconst X d_Rdr_takeBehindPart_19 (v := 0) (by decide) ?_
      exact z_zret X d_Rdr_takeBehindPart_20 rfl ⟨by rw [e9]; rfl, rfl, by rw [e9]; exact hP, hF⟩
theorem d_Rdr_takeBehindTerm_0 : decode prog_4_method_8_code 0 = .ok (.aload_n 0, 1) := by decide +kernel
theorem d_Rdr_takeBehindTerm_1 : decode prog_4_method_8_code 1 = .ok (.getfield 63, 3) := by decide +kernel
theorem d_Rdr_takeBehindTerm_4 : decode prog_4_method_8_code 4 = .ok (.lookupswitch 101 #[(35, 81), (43, 60), (45, 60), (60, 81), (61, 81), (62, 81)], 60) := by decide +kernel
theorem d_Rdr_takeBehindTerm_64 : decode prog_4_method_8_code 64 = .ok (.aload_n 0, 1) := by decide +kernel
theorem d_Rdr_takeBehindTerm_65 : decode prog_4_method_8_code 65 = .ok (.iconst 2, 1) := by decide +kernel
theorem d_Rdr_takeBehindTerm_66 : decode prog_4_method_8_code 66 = .ok (.putfield 66, 3) := by decide +kernel
theorem d_Rdr_takeBehindTerm_69 : decode prog_4_method_8_code 69 = .ok (.aload_n 0, 1) := by decide +kernel
theorem d_Rdr_takeBehindTerm_70 : decode prog_4_method_8_code 70 = .ok (.getfield 21, 3) := by decide +kernel
theorem d_Rdr_takeBehindTerm_73 : decode prog_4_method_8_code 73 = .ok (.aload_n 0, 1) := by decide +kernel
theorem d_Rdr_takeBehindTerm_74 : decode prog_4_method_8_code 74 = .ok (.getfield 102, 3) := by decide +kernel
theorem d_Rdr_takeBehindTerm_77 : decode prog_4_method_8_code 77 = .ok (.aload_n 0, 1) := by decide +kernel
theorem d_Rdr_takeBehindTerm_78 : decode prog_4_method_8_code 78 = .ok (.invokevirtual 112, 3) := by decide +kernel
theorem d_Rdr_takeBehindTerm_81 : decode prog_4_method_8_code 81 = .ok (.invokevirtual 115, 3) := by decide +kernel
theorem d_Rdr_takeBehindTerm_84 : decode prog_4_method_8_code 84 = .ok (.ireturn, 1) := by decide +kernel
theorem d_Rdr_takeBehindTerm_85 : decode prog_4_method_8_code 85 = .ok (.aload_n 0, 1) := by decide +kernel
theorem d_Rdr_takeBehindTerm_86 : decode prog_4_method_8_code 86 = .ok (.getfield 94, 3) := by decide +kernel
theorem d_Rdr_takeBehindTerm_89 : decode prog_4_method_8_code 89 = .ok (.ifCond .ne 14, 3) := by decide +kernel
theorem d_Rdr_takeBehindTerm_92 : decode prog_4_method_8_code 92 = .ok (.aload_n 0, 1) := by decide +kernel
theorem d_Rdr_takeBehindTerm_93 : decode prog_4_method_8_code 93 = .ok (.invokevirtual 118, 3) := by decide +kernel
theorem d_Rdr_takeBehindTerm_96 : decode prog_4_method_8_code 96 = .ok (.ifCond .eq 7, 3) := by decide +kernel
theorem d_Rdr_takeBehindTerm_99 : decode prog_4_method_8_code 99 = .ok (.iconst 1, 1) := by decide +kernel
theorem d_Rdr_takeBehindTerm_100 : decode prog_4_method_8_code 100 = .ok (.goto 4, 3) := by decide +kernel
theorem d_Rdr_takeBehindTerm_103 : decode prog_4_method_8_code 103 = .ok (.iconst 0, 1) := by decide +kernel
theorem d_Rdr_takeBehindTerm_104 : decode prog_4_method_8_code 104 = .ok (.ireturn, 1) := by decide +kernel
theorem d_Rdr_takeBehindTerm_105 : decode prog_4_method_8_code 105 = .ok (.aload_n 0, 1) := by decide +kernel
theorem d_Rdr_takeBehindTerm_106 : decode prog_4_method_8_code 106 = .ok (.getfield 94, 3) := by decide +kernel
theorem d_Rdr_takeBehindTerm_109 : decode prog_4_method_8_code 109 = .ok (.ifCond .eq 14, 3) := by decide +kernel
theorem d_Rdr_takeBehindTerm_112 : decode prog_4_method_8_code 112 = .ok (.aload_n 0, 1) := by decide +kernel
theorem d_Rdr_takeBehindTerm_113 : decode prog_4_method_8_code 113 = .ok (.invokevirtual 84, 3) := by decide +kernel
theorem d_Rdr_takeBehindTerm_116 : decode prog_4_method_8_code 116 = .ok (.ifCond .eq 7, 3) := by decide +kernel
theorem d_Rdr_takeBehindTerm_119 : decode prog_4_method_8_code 119 = .ok (.iconst 1, 1) := by decide +kernel
theorem d_Rdr_takeBehindTerm_120 : decode prog_4_method_8_code 120 = .ok (.goto 4, 3) := by decide +kernel
theorem d_Rdr_takeBehindTerm_123 : decode prog_4_method_8_code 123 = .ok (.iconst 0, 1) := by decide +kernel
theorem d_Rdr_takeBehindTerm_124 : decode prog_4_method_8_code 124 = .ok (.ireturn, 1) := by decide +kernel
set_option maxHeartbeats 4000000 in
set_option maxRecDepth 100000 in
theorem c_Rdr_takeBehindTerm (hP : zP b0 N f (wRdr ck A g len st)) (hu : uok st) : zK l D ck ad b0 y_Rdr_takeBehindTerm prog_4_method_8_code 1 ((some FieldType.boolean)) 6 0 0 [.ref (A 0)] N f (fun r N' f' => r = some (.int (zb (bBT st).1)) ∧ N = N' ∧ zP b0 N f' (wRdr ck A g len ((bBT st).2)) ∧ zF N f f' (AA A)) := by
  refine zM.of zG_w (by decide) (Nat.le_of_ble_eq_true rfl) ?_
  intro zp ze zst zm zar zbe zme zc X hnm hb0
  have hF : zF N f f (AA A) := zF.rf
  refine z_aload_n X d_Rdr_takeBehindTerm_0 rfl ?_
  refine z_get X d_Rdr_takeBehindTerm_1 (hP.lo 0 rfl) (hP.at 0 rfl) cl_Rdr in_Rdr 11 (by decide) fl_Rdr_63 rfl rfl ?_
  refine z_lookS X 105 [(35, 85), (43, 64), (45, 64), (60, 85), (61, 85), (62, 85)] d_Rdr_takeBehindTerm_4 (by decide) (by decide) (by decide) (fun i hi hx => ?_) (fun hd => ?_)
  · match i, hi, hx with
    | 0, _, hx =>
      have g4 : _ = (35 : Int32) := hx
      have g4 : st.1 11 = 35 := g4
      have e8 : bBT st = (if st.1 8 = 0 then bCmp st else (false, st)) := (if_neg (by rw [g4]; decide)).trans (if_pos (Or.inl g4))
      refine zW.topc (pc' := 85) rfl ?_
      refine z_aload_n X d_Rdr_takeBehindTerm_85 rfl ?_
      refine z_get X d_Rdr_takeBehindTerm_86 (hP.lo 0 rfl) (hP.at 0 rfl) cl_Rdr in_Rdr 8 (by decide) fl_Rdr_94 rfl rfl ?_
      refine z_if_ne X 103 d_Rdr_takeBehindTerm_89 (by decide) (fun h89 => ?_) (fun h89 => ?_)
      · skip
        have e9 := e8.trans (if_neg h89)
        refine z_iconst X d_Rdr_takeBehindTerm_103 (v := 0) (by decide) ?_
        exact z_zret X d_Rdr_takeBehindTerm_104 rfl ⟨by rw [e9]; rfl, rfl, by rw [e9]; exact hP, hF⟩
      · skip
        have e7 := e8.trans (if_pos h89)
        refine z_aload_n X d_Rdr_takeBehindTerm_92 rfl ?_
        refine z_callV X zG_ok (c_Rdr_compare hP hu) d_Rdr_takeBehindTerm_93 ⟨(z_cb (n := 0) X.2.2.2.2.1 ml_Rdr_118 mc_Rdr_compare ini_Rdr (by decide +kernel) rfl rfl ⟨Nat.le_of_ble_eq_true rfl, Nat.le_of_ble_eq_true rfl⟩), X.2.2.2.2.1 _ im_Rdr_compare, X.2.2.2.2.1 _ sel_Rdr_compare⟩ (hP.lo 0 rfl) (hP.at 0 rfl) cl_Rdr rfl rfl (Nat.le_of_ble_eq_true rfl) ⟨Nat.le_of_ble_eq_true rfl, Nat.le_of_ble_eq_true rfl⟩ (fun r N1 f1 hp hN1 => ?_)
        obtain ⟨rfl, rfl, hP, hF1⟩ := hp
        have hF := hF.join hF1 (Nat.le_refl _) (fun _ h => Or.inl h)
        refine z_if_eq X 103 d_Rdr_takeBehindTerm_96 (by decide) (fun h96 => ?_) (fun h96 => ?_)
        · skip
          have e6 : (bCmp st).1 = false := zb_0.mp h96
          have e9 : bBT st = (false, (bCmp st).2) := by rw [e7, ← e6]
          refine z_iconst X d_Rdr_takeBehindTerm_103 (v := 0) (by decide) ?_
          exact z_zret X d_Rdr_takeBehindTerm_104 rfl ⟨by rw [e9]; rfl, rfl, by rw [e9]; exact hP, hF⟩
        · skip
          have e6 : (bCmp st).1 = true := by
            cases hq : (bCmp st).1
            · exact absurd (zb_0.mpr hq) h96
            · rfl
          have e9 : bBT st = (true, (bCmp st).2) := by rw [e7, ← e6]
          refine z_iconst X d_Rdr_takeBehindTerm_99 (v := 1) (by decide) ?_
          refine z_goto X 104 d_Rdr_takeBehindTerm_100 (by decide) ?_
          exact z_zret X d_Rdr_takeBehindTerm_104 rfl ⟨by rw [e9]; rfl, rfl, by rw [e9]; exact hP, hF⟩
    | 1, _, hx =>
      have g4 : _ = (43 : Int32) := hx
      have g4 : st.1 11 = 43 := g4
      have e9 := show bBT st = _ from if_pos (Or.inl g4)
      refine zW.topc (pc' := 64) rfl ?_
      refine z_aload_n X d_Rdr_takeBehindTerm_64 rfl ?_
      refine z_iconst X d_Rdr_takeBehindTerm_65 (v := 2) (by decide) ?_
      refine z_putP X t_Rdr ty_Rdr n_Rdr d_Rdr_takeBehindTerm_66 hP 0 rfl cl_Rdr in_Rdr 9 (by decide) fl_Rdr_66 rfl rfl rfl rfl rfl (Nat.le_of_ble_eq_true rfl) (fun hP => ?_)
      have hF := hF.by (by simp) hP
      refine z_aload_n X d_Rdr_takeBehindTerm_69 rfl ?_
      refine z_get X d_Rdr_takeBehindTerm_70 (hP.lo 0 rfl) (hP.at 0 rfl) cl_Rdr in_Rdr 1 (by decide) fl_Rdr_21 rfl rfl ?_
      refine z_aload_n X d_Rdr_takeBehindTerm_73 rfl ?_
      refine z_get X d_Rdr_takeBehindTerm_74 (hP.lo 0 rfl) (hP.at 0 rfl) cl_Rdr in_Rdr 7 (by decide) fl_Rdr_102 rfl rfl ?_
      refine z_aload_n X d_Rdr_takeBehindTerm_77 rfl ?_
      refine z_callV X zG_ok (c_Rdr_kindOfToken (st := qs 9 2 st) hP) d_Rdr_takeBehindTerm_78 ⟨(z_cb (n := 0) X.2.2.2.2.1 ml_Rdr_112 mc_Rdr_kindOfToken ini_Rdr (by decide +kernel) rfl rfl ⟨Nat.le_of_ble_eq_true rfl, Nat.le_of_ble_eq_true rfl⟩), X.2.2.2.2.1 _ im_Rdr_kindOfToken, X.2.2.2.2.1 _ sel_Rdr_kindOfToken⟩ (hP.lo 0 rfl) (hP.at 0 rfl) cl_Rdr rfl rfl (Nat.le_of_ble_eq_true rfl) ⟨Nat.le_of_ble_eq_true rfl, Nat.le_of_ble_eq_true rfl⟩ (fun r N1 f1 hp hN1 => ?_)
      obtain ⟨rfl, rfl, rfl⟩ := hp
      refine z_callV X zG_ok (c_Tre_insertT (ts := (qs 9 2 st).2.1) (hP.sub [6, 7, 8, 9] (by decide) rfl) hu) d_Rdr_takeBehindTerm_81 ⟨(z_cb (n := 2) X.2.2.2.2.1 ml_Rdr_115 mc_Tre_insert ini_Tre (by decide +kernel) rfl rfl ⟨Nat.le_of_ble_eq_true rfl, Nat.le_of_ble_eq_true rfl⟩), X.2.2.2.2.1 _ im_Tre_insert, X.2.2.2.2.1 _ sel_Tre_insert⟩ (hP.lo 6 rfl) (hP.at 6 rfl) cl_Tre rfl rfl (Nat.le_of_ble_eq_true rfl) ⟨Nat.le_of_ble_eq_true rfl, Nat.le_of_ble_eq_true rfl⟩ (fun r N1 f1 hp hN1 => ?_)
      obtain ⟨rfl, rfl, hT, hF1⟩ := hp
      have hP := zP.tre (g := g) (len := len) (st := qs 9 2 st) hP hT hF1
      have hF := hF.tre hF1
      exact z_zret X d_Rdr_takeBehindTerm_84 (zb_n _) ⟨by rw [e9]; rfl, rfl, by rw [e9]; exact hP, hF⟩
    | 2, _, hx =>
      have g4 : _ = (45 : Int32) := hx
      have g4 : st.1 11 = 45 := g4
      have e9 := show bBT st = _ from if_pos (Or.inr g4)
      refine zW.topc (pc' := 64) rfl ?_
      refine z_aload_n X d_Rdr_takeBehindTerm_64 rfl ?_
      refine z_iconst X d_Rdr_takeBehindTerm_65 (v := 2) (by decide) ?_
      refine z_putP X t_Rdr ty_Rdr n_Rdr d_Rdr_takeBehindTerm_66 hP 0 rfl cl_Rdr in_Rdr 9 (by decide) fl_Rdr_66 rfl rfl rfl rfl rfl (Nat.le_of_ble_eq_true rfl) (fun hP => ?_)
      have hF := hF.by (by simp) hP
      refine z_aload_n X d_Rdr_takeBehindTerm_69 rfl ?_
      refine z_get X d_Rdr_takeBehindTerm_70 (hP.lo 0 rfl) (hP.at 0 rfl) cl_Rdr in_Rdr 1 (by decide) fl_Rdr_21 rfl rfl ?_
      refine z_aload_n X d_Rdr_takeBehindTerm_73 rfl ?_
      refine z_get X d_Rdr_takeBehindTerm_74 (hP.lo 0 rfl) (hP.at 0 rfl) cl_Rdr in_Rdr 7 (by decide) fl_Rdr_102 rfl rfl ?_
      refine z_aload_n X d_Rdr_takeBehindTerm_77 rfl ?_
      refine z_callV X zG_ok (c_Rdr_kindOfToken (st := qs 9 2 st) hP) d_Rdr_takeBehindTerm_78 ⟨(z_cb (n := 0) X.2.2.2.2.1 ml_Rdr_112 mc_Rdr_kindOfToken ini_Rdr (by decide +kernel) rfl rfl ⟨Nat.le_of_ble_eq_true rfl, Nat.le_of_ble_eq_true rfl⟩), X.2.2.2.2.1 _ im_Rdr_kindOfToken, X.2.2.2.2.1 _ sel_Rdr_kindOfToken⟩ (hP.lo 0 rfl) (hP.at 0 rfl) cl_Rdr rfl rfl (Nat.le_of_ble_eq_true rfl) ⟨Nat.le_of_ble_eq_true rfl, Nat.le_of_ble_eq_true rfl⟩ (fun r N1 f1 hp hN1 => ?_)
      obtain ⟨rfl, rfl, rfl⟩ := hp
      refine z_callV X zG_ok (c_Tre_insertT (ts := (qs 9 2 st).2.1) (hP.sub [6, 7, 8, 9] (by decide) rfl) hu) d_Rdr_takeBehindTerm_81 ⟨(z_cb (n := 2) X.2.2.2.2.1 ml_Rdr_115 mc_Tre_insert ini_Tre (by decide +kernel) rfl rfl ⟨Nat.le_of_ble_eq_true rfl, Nat.le_of_ble_eq_true rfl⟩), X.2.2.2.2.1 _ im_Tre_insert, X.2.2.2.2.1 _ sel_Tre_insert⟩ (hP.lo 6 rfl) (hP.at 6 rfl) cl_Tre rfl rfl (Nat.le_of_ble_eq_true rfl) ⟨Nat.le_of_ble_eq_true rfl, Nat.le_of_ble_eq_true rfl⟩ (fun r N1 f1 hp hN1 => ?_)
      obtain ⟨rfl, rfl, hT, hF1⟩ := hp
      have hP := zP.tre (g := g) (len := len) (st := qs 9 2 st) hP hT hF1
      have hF := hF.tre hF1
      exact z_zret X d_Rdr_takeBehindTerm_84 (zb_n _) ⟨by rw [e9]; rfl, rfl, by rw [e9]; exact hP, hF⟩
    | 3, _, hx =>
      have g4 : _ = (60 : Int32) := hx
      have g4 : st.1 11 = 60 := g4
      have e8 : bBT st = (if st.1 8 = 0 then bCmp st else (false, st)) := (if_neg (by rw [g4]; decide)).trans (if_pos (Or.inr (Or.inl g4)))
      refine zW.topc (pc' := 85) rfl ?_
      refine z_aload_n X d_Rdr_takeBehindTerm_85 rfl ?_
      refine z_get X d_Rdr_takeBehindTerm_86 (hP.lo 0 rfl) (hP.at 0 rfl) cl_Rdr in_Rdr 8 (by decide) fl_Rdr_94 rfl rfl ?_
      refine z_if_ne X 103 d_Rdr_takeBehindTerm_89 (by decide) (fun h89 => ?_) (fun h89 => ?_)
      · skip
        have e9 := e8.trans (if_neg h89)
        refine z_iconst X d_Rdr_takeBehindTerm_103 (v := 0) (by decide) ?_
        exact z_zret X d_Rdr_takeBehindTerm_104 rfl ⟨by rw [e9]; rfl, rfl, by rw [e9]; exact hP, hF⟩
      · skip
        have e7 := e8.trans (if_pos h89)
        refine z_aload_n X d_Rdr_takeBehindTerm_92 rfl ?_
        refine z_callV X zG_ok (c_Rdr_compare hP hu) d_Rdr_takeBehindTerm_93 ⟨(z_cb (n := 0) X.2.2.2.2.1 ml_Rdr_118 mc_Rdr_compare ini_Rdr (by decide +kernel) rfl rfl ⟨Nat.le_of_ble_eq_true rfl, Nat.le_of_ble_eq_true rfl⟩), X.2.2.2.2.1 _ im_Rdr_compare, X.2.2.2.2.1 _ sel_Rdr_compare⟩ (hP.lo 0 rfl) (hP.at 0 rfl) cl_Rdr rfl rfl (Nat.le_of_ble_eq_true rfl) ⟨Nat.le_of_ble_eq_true rfl, Nat.le_of_ble_eq_true rfl⟩ (fun r N1 f1 hp hN1 => ?_)
        obtain ⟨rfl, rfl, hP, hF1⟩ := hp
        have hF := hF.join hF1 (Nat.le_refl _) (fun _ h => Or.inl h)
        refine z_if_eq X 103 d_Rdr_takeBehindTerm_96 (by decide) (fun h96 => ?_) (fun h96 => ?_)
        · skip
          have e6 : (bCmp st).1 = false := zb_0.mp h96
          have e9 : bBT st = (false, (bCmp st).2) := by rw [e7, ← e6]
          refine z_iconst X d_Rdr_takeBehindTerm_103 (v := 0) (by decide) ?_
          exact z_zret X d_Rdr_takeBehindTerm_104 rfl ⟨by rw [e9]; rfl, rfl, by rw [e9]; exact hP, hF⟩
        · skip
          have e6 : (bCmp st).1 = true := by
            cases hq : (bCmp st).1
            · exact absurd (zb_0.mpr hq) h96
            · rfl
          have e9 : bBT st = (true, (bCmp st).2) := by rw [e7, ← e6]
          refine z_iconst X d_Rdr_takeBehindTerm_99 (v := 1) (by decide) ?_
          refine z_goto X 104 d_Rdr_takeBehindTerm_100 (by decide) ?_
          exact z_zret X d_Rdr_takeBehindTerm_104 rfl ⟨by rw [e9]; rfl, rfl, by rw [e9]; exact hP, hF⟩
    | 4, _, hx =>
      have g4 : _ = (61 : Int32) := hx
      have g4 : st.1 11 = 61 := g4
      have e8 : bBT st = (if st.1 8 = 0 then bCmp st else (false, st)) := (if_neg (by rw [g4]; decide)).trans (if_pos (Or.inr (Or.inr (Or.inl g4))))
      refine zW.topc (pc' := 85) rfl ?_
      refine z_aload_n X d_Rdr_takeBehindTerm_85 rfl ?_
      refine z_get X d_Rdr_takeBehindTerm_86 (hP.lo 0 rfl) (hP.at 0 rfl) cl_Rdr in_Rdr 8 (by decide) fl_Rdr_94 rfl rfl ?_
      refine z_if_ne X 103 d_Rdr_takeBehindTerm_89 (by decide) (fun h89 => ?_) (fun h89 => ?_)
      · skip
        have e9 := e8.trans (if_neg h89)
        refine z_iconst X d_Rdr_takeBehindTerm_103 (v := 0) (by decide) ?_
        exact z_zret X d_Rdr_takeBehindTerm_104 rfl ⟨by rw [e9]; rfl, rfl, by rw [e9]; exact hP, hF⟩
      · skip
        have e7 := e8.trans (if_pos h89)
        refine z_aload_n X d_Rdr_takeBehindTerm_92 rfl ?_
        refine z_callV X zG_ok (c_Rdr_compare hP hu) d_Rdr_takeBehindTerm_93 ⟨(z_cb (n := 0) X.2.2.2.2.1 ml_Rdr_118 mc_Rdr_compare ini_Rdr (by decide +kernel) rfl rfl ⟨Nat.le_of_ble_eq_true rfl, Nat.le_of_ble_eq_true rfl⟩), X.2.2.2.2.1 _ im_Rdr_compare, X.2.2.2.2.1 _ sel_Rdr_compare⟩ (hP.lo 0 rfl) (hP.at 0 rfl) cl_Rdr rfl rfl (Nat.le_of_ble_eq_true rfl) ⟨Nat.le_of_ble_eq_true rfl, Nat.le_of_ble_eq_true rfl⟩ (fun r N1 f1 hp hN1 => ?_)
        obtain ⟨rfl, rfl, hP, hF1⟩ := hp
        have hF := hF.join hF1 (Nat.le_refl _) (fun _ h => Or.inl h)
        refine z_if_eq X 103 d_Rdr_takeBehindTerm_96 (by decide) (fun h96 => ?_) (fun h96 => ?_)
        · skip
          have e6 : (bCmp st).1 = false := zb_0.mp h96
          have e9 : bBT st = (false, (bCmp st).2) := by rw [e7, ← e6]
          refine z_iconst X d_Rdr_takeBehindTerm_103 (v := 0) (by decide) ?_
          exact z_zret X d_Rdr_takeBehindTerm_104 rfl ⟨by rw [e9]; rfl, rfl, by rw [e9]; exact hP, hF⟩
        · skip
          have e6 : (bCmp st).1 = true := by
            cases hq : (bCmp st).1
            · exact absurd (zb_0.mpr hq) h96
            · rfl
          have e9 : bBT st = (true, (bCmp st).2) := by rw [e7, ← e6]
          refine z_iconst X d_Rdr_takeBehindTerm_99 (v := 1) (by decide) ?_
          refine z_goto X 104 d_Rdr_takeBehindTerm_100 (by decide) ?_
          exact z_zret X d_Rdr_takeBehindTerm_104 rfl ⟨by rw [e9]; rfl, rfl, by rw [e9]; exact hP, hF⟩
    | 5, _, hx =>
      have g4 : _ = (62 : Int32) := hx
      have g4 : st.1 11 = 62 := g4
      have e8 : bBT st = (if st.1 8 = 0 then bCmp st else (false, st)) := (if_neg (by rw [g4]; decide)).trans (if_pos (Or.inr (Or.inr (Or.inr g4))))
      refine zW.topc (pc' := 85) rfl ?_
      refine z_aload_n X d_Rdr_takeBehindTerm_85 rfl ?_
      refine z_get X d_Rdr_takeBehindTerm_86 (hP.lo 0 rfl) (hP.at 0 rfl) cl_Rdr in_Rdr 8 (by decide) fl_Rdr_94 rfl rfl ?_
      refine z_if_ne X 103 d_Rdr_takeBehindTerm_89 (by decide) (fun h89 => ?_) (fun h89 => ?_)
      · skip
        have e9 := e8.trans (if_neg h89)
        refine z_iconst X d_Rdr_takeBehindTerm_103 (v := 0) (by decide) ?_
        exact z_zret X d_Rdr_takeBehindTerm_104 rfl ⟨by rw [e9]; rfl, rfl, by rw [e9]; exact hP, hF⟩
      · skip
        have e7 := e8.trans (if_pos h89)
        refine z_aload_n X d_Rdr_takeBehindTerm_92 rfl ?_
        refine z_callV X zG_ok (c_Rdr_compare hP hu) d_Rdr_takeBehindTerm_93 ⟨(z_cb (n := 0) X.2.2.2.2.1 ml_Rdr_118 mc_Rdr_compare ini_Rdr (by decide +kernel) rfl rfl ⟨Nat.le_of_ble_eq_true rfl, Nat.le_of_ble_eq_true rfl⟩), X.2.2.2.2.1 _ im_Rdr_compare, X.2.2.2.2.1 _ sel_Rdr_compare⟩ (hP.lo 0 rfl) (hP.at 0 rfl) cl_Rdr rfl rfl (Nat.le_of_ble_eq_true rfl) ⟨Nat.le_of_ble_eq_true rfl, Nat.le_of_ble_eq_true rfl⟩ (fun r N1 f1 hp hN1 => ?_)
        obtain ⟨rfl, rfl, hP, hF1⟩ := hp
        have hF := hF.join hF1 (Nat.le_refl _) (fun _ h => Or.inl h)
        refine z_if_eq X 103 d_Rdr_takeBehindTerm_96 (by decide) (fun h96 => ?_) (fun h96 => ?_)
        · skip
          have e6 : (bCmp st).1 = false := zb_0.mp h96
          have e9 : bBT st = (false, (bCmp st).2) := by rw [e7, ← e6]
          refine z_iconst X d_Rdr_takeBehindTerm_103 (v := 0) (by decide) ?_
          exact z_zret X d_Rdr_takeBehindTerm_104 rfl ⟨by rw [e9]; rfl, rfl, by rw [e9]; exact hP, hF⟩
        · skip
          have e6 : (bCmp st).1 = true := by
            cases hq : (bCmp st).1
            · exact absurd (zb_0.mpr hq) h96
            · rfl
          have e9 : bBT st = (true, (bCmp st).2) := by rw [e7, ← e6]
          refine z_iconst X d_Rdr_takeBehindTerm_99 (v := 1) (by decide) ?_
          refine z_goto X 104 d_Rdr_takeBehindTerm_100 (by decide) ?_
          exact z_zret X d_Rdr_takeBehindTerm_104 rfl ⟨by rw [e9]; rfl, rfl, by rw [e9]; exact hP, hF⟩
    | j + 6, hi, _ => exact absurd hi (by simp)
  · skip
    have g4_0 : ¬ _ = (35 : Int32) := hd 0 (by decide)
    have g4_1 : ¬ _ = (43 : Int32) := hd 1 (by decide)
    have g4_2 : ¬ _ = (45 : Int32) := hd 2 (by decide)
    have g4_3 : ¬ _ = (60 : Int32) := hd 3 (by decide)
    have g4_4 : ¬ _ = (61 : Int32) := hd 4 (by decide)
    have g4_5 : ¬ _ = (62 : Int32) := hd 5 (by decide)
    have e8 : bBT st = (if st.1 8 = 0 then (false, st) else bBP st) := (if_neg (fun z => z.elim g4_1 g4_2)).trans (if_neg (fun z => z.elim g4_0 (fun z => z.elim g4_3 (fun z => z.elim g4_4 g4_5))))
    refine z_aload_n X d_Rdr_takeBehindTerm_105 rfl ?_
    refine z_get X d_Rdr_takeBehindTerm_106 (hP.lo 0 rfl) (hP.at 0 rfl) cl_Rdr in_Rdr 8 (by decide) fl_Rdr_94 rfl rfl ?_
    refine z_if_eq X 123 d_Rdr_takeBehindTerm_109 (by decide) (fun h109 => ?_) (fun h109 => ?_)
    · skip
      have e9 := e8.trans (if_pos h109)
      refine z_iconst X d_Rdr_takeBehindTerm_123 (v := 0) (by decide) ?_
      exact z_zret X d_Rdr_takeBehindTerm_124 rfl ⟨by rw [e9]; rfl, rfl, by rw [e9]; exact hP, hF⟩
    · skip
      have e7 := e8.trans (if_neg h109)
      refine z_aload_n X d_Rdr_takeBehindTerm_112 rfl ?_
      refine z_callV X zG_ok (c_Rdr_takeBehindPart hP hu) d_Rdr_takeBehindTerm_113 ⟨(z_cb (n := 0) X.2.2.2.2.1 ml_Rdr_84 mc_Rdr_takeBehindPart ini_Rdr (by decide +kernel) rfl rfl ⟨Nat.le_of_ble_eq_true rfl, Nat.le_of_ble_eq_true rfl⟩), X.2.2.2.2.1 _ im_Rdr_takeBehindPart, X.2.2.2.2.1 _ sel_Rdr_takeBehindPart⟩ (hP.lo 0 rfl) (hP.at 0 rfl) cl_Rdr rfl rfl (Nat.le_of_ble_eq_true rfl) ⟨Nat.le_of_ble_eq_true rfl, Nat.le_of_ble_eq_true rfl⟩ (fun r N1 f1 hp hN1 => ?_)
      obtain ⟨rfl, rfl, hP, hF1⟩ := hp
      have hF := hF.join hF1 (Nat.le_refl _) (fun _ h => Or.inl h)
      refine z_if_eq X 123 d_Rdr_takeBehindTerm_116 (by decide) (fun h116 => ?_) (fun h116 => ?_)
      · skip
        have e6 : (bBP st).1 = false := zb_0.mp h116
        have e9 : bBT st = (false, (bBP st).2) := by rw [e7, ← e6]
        refine z_iconst X d_Rdr_takeBehindTerm_123 (v := 0) (by decide) ?_
        exact z_zret X d_Rdr_takeBehindTerm_124 rfl ⟨by rw [e9]; rfl, rfl, by rw [e9]; exact hP, hF⟩
      · skip
        have e6 : (bBP st).1 = true := by
          cases hq : (bBP st).1
          · exact absurd (zb_0.mpr hq) h116
          · rfl
        have e9 : bBT st = (true, (bBP st).2) := by rw [e7, ← e6]
        refine z_iconst X d_Rdr_takeBehindTerm_119 (v := 1) (by decide) ?_
        refine z_goto X 124 d_Rdr_takeBehindTerm_120 (by decide) ?_
        exact z_zret X d_Rdr_takeBehindTerm_124 rfl ⟨by rw [e9]; rfl, rfl, by rw [e9]; exact hP, hF⟩
theorem d_Rdr_takePart_0 : decode prog_4_method_5_code 0 = .ok (.aload_n 0, 1) := by decide +kernel
theorem d_Rdr_takePart_1 : decode prog_4_method_5_code 1 = .ok (.getfield 63, 3) := by decide +kernel
theorem d_Rdr_takePart_4 : decode prog_4_method_5_code 4 = .ok (.lookupswitch 155 #[(4, 95), (5, 125), (33, 44), (40, 69)], 44) := by decide +kernel
theorem d_Rdr_takePart_48 : decode prog_4_method_5_code 48 = .ok (.aload_n 0, 1) := by decide +kernel
theorem d_Rdr_takePart_49 : decode prog_4_method_5_code 49 = .ok (.invokevirtual 87, 3) := by decide +kernel
theorem d_Rdr_takePart_52 : decode prog_4_method_5_code 52 = .ok (.ifCond .eq 19, 3) := by decide +kernel
theorem d_Rdr_takePart_55 : decode prog_4_method_5_code 55 = .ok (.aload_n 0, 1) := by decide +kernel
theorem d_Rdr_takePart_56 : decode prog_4_method_5_code 56 = .ok (.getfield 21, 3) := by decide +kernel
theorem d_Rdr_takePart_59 : decode prog_4_method_5_code 59 = .ok (.iconst 2, 1) := by decide +kernel
theorem d_Rdr_takePart_60 : decode prog_4_method_5_code 60 = .ok (.iconst (-1), 1) := by decide +kernel
theorem d_Rdr_takePart_61 : decode prog_4_method_5_code 61 = .ok (.invokevirtual 90, 3) := by decide +kernel
theorem d_Rdr_takePart_64 : decode prog_4_method_5_code 64 = .ok (.ifCond .eq 7, 3) := by decide +kernel
theorem d_Rdr_takePart_67 : decode prog_4_method_5_code 67 = .ok (.iconst 1, 1) := by decide +kernel
theorem d_Rdr_takePart_68 : decode prog_4_method_5_code 68 = .ok (.goto 4, 3) := by decide +kernel
theorem d_Rdr_takePart_71 : decode prog_4_method_5_code 71 = .ok (.iconst 0, 1) := by decide +kernel
theorem d_Rdr_takePart_72 : decode prog_4_method_5_code 72 = .ok (.ireturn, 1) := by decide +kernel
theorem d_Rdr_takePart_73 : decode prog_4_method_5_code 73 = .ok (.aload_n 0, 1) := by decide +kernel
theorem d_Rdr_takePart_74 : decode prog_4_method_5_code 74 = .ok (.invokevirtual 87, 3) := by decide +kernel
theorem d_Rdr_takePart_77 : decode prog_4_method_5_code 77 = .ok (.ifCond .eq 20, 3) := by decide +kernel
theorem d_Rdr_takePart_80 : decode prog_4_method_5_code 80 = .ok (.aload_n 0, 1) := by decide +kernel
theorem d_Rdr_takePart_81 : decode prog_4_method_5_code 81 = .ok (.aload_n 0, 1) := by decide +kernel
theorem d_Rdr_takePart_82 : decode prog_4_method_5_code 82 = .ok (.getfield 72, 3) := by decide +kernel
theorem d_Rdr_takePart_85 : decode prog_4_method_5_code 85 = .ok (.iconst 1, 1) := by decide +kernel
theorem d_Rdr_takePart_86 : decode prog_4_method_5_code 86 = .ok (.iadd, 1) := by decide +kernel
theorem d_Rdr_takePart_87 : decode prog_4_method_5_code 87 = .ok (.invokevirtual 49, 3) := by decide +kernel
theorem d_Rdr_takePart_90 : decode prog_4_method_5_code 90 = .ok (.ifCond .eq 7, 3) := by decide +kernel
theorem d_Rdr_takePart_93 : decode prog_4_method_5_code 93 = .ok (.iconst 1, 1) := by decide +kernel
theorem d_Rdr_takePart_94 : decode prog_4_method_5_code 94 = .ok (.goto 4, 3) := by decide +kernel
theorem d_Rdr_takePart_97 : decode prog_4_method_5_code 97 = .ok (.iconst 0, 1) := by decide +kernel
theorem d_Rdr_takePart_98 : decode prog_4_method_5_code 98 = .ok (.ireturn, 1) := by decide +kernel
theorem d_Rdr_takePart_99 : decode prog_4_method_5_code 99 = .ok (.aload_n 0, 1) := by decide +kernel
theorem d_Rdr_takePart_100 : decode prog_4_method_5_code 100 = .ok (.iconst 1, 1) := by decide +kernel
theorem d_Rdr_takePart_101 : decode prog_4_method_5_code 101 = .ok (.putfield 66, 3) := by decide +kernel
theorem d_Rdr_takePart_104 : decode prog_4_method_5_code 104 = .ok (.aload_n 0, 1) := by decide +kernel
theorem d_Rdr_takePart_105 : decode prog_4_method_5_code 105 = .ok (.invokevirtual 87, 3) := by decide +kernel
theorem d_Rdr_takePart_108 : decode prog_4_method_5_code 108 = .ok (.ifCond .eq 19, 3) := by decide +kernel
theorem d_Rdr_takePart_111 : decode prog_4_method_5_code 111 = .ok (.aload_n 0, 1) := by decide +kernel
theorem d_Rdr_takePart_112 : decode prog_4_method_5_code 112 = .ok (.getfield 21, 3) := by decide +kernel
theorem d_Rdr_takePart_115 : decode prog_4_method_5_code 115 = .ok (.iconst 3, 1) := by decide +kernel
theorem d_Rdr_takePart_116 : decode prog_4_method_5_code 116 = .ok (.iconst (-1), 1) := by decide +kernel
theorem d_Rdr_takePart_117 : decode prog_4_method_5_code 117 = .ok (.invokevirtual 90, 3) := by decide +kernel
theorem d_Rdr_takePart_120 : decode prog_4_method_5_code 120 = .ok (.ifCond .eq 7, 3) := by decide +kernel
theorem d_Rdr_takePart_123 : decode prog_4_method_5_code 123 = .ok (.iconst 1, 1) := by decide +kernel
theorem d_Rdr_takePart_124 : decode prog_4_method_5_code 124 = .ok (.goto 4, 3) := by decide +kernel
theorem d_Rdr_takePart_127 : decode prog_4_method_5_code 127 = .ok (.iconst 0, 1) := by decide +kernel
theorem d_Rdr_takePart_128 : decode prog_4_method_5_code 128 = .ok (.ireturn, 1) := by decide +kernel
theorem d_Rdr_takePart_129 : decode prog_4_method_5_code 129 = .ok (.aload_n 0, 1) := by decide +kernel
theorem d_Rdr_takePart_130 : decode prog_4_method_5_code 130 = .ok (.iconst 1, 1) := by decide +kernel
theorem d_Rdr_takePart_131 : decode prog_4_method_5_code 131 = .ok (.putfield 66, 3) := by decide +kernel
theorem d_Rdr_takePart_134 : decode prog_4_method_5_code 134 = .ok (.aload_n 0, 1) := by decide +kernel
theorem d_Rdr_takePart_135 : decode prog_4_method_5_code 135 = .ok (.invokevirtual 87, 3) := by decide +kernel
theorem d_Rdr_takePart_138 : decode prog_4_method_5_code 138 = .ok (.ifCond .eq 19, 3) := by decide +kernel
theorem d_Rdr_takePart_141 : decode prog_4_method_5_code 141 = .ok (.aload_n 0, 1) := by decide +kernel
theorem d_Rdr_takePart_142 : decode prog_4_method_5_code 142 = .ok (.getfield 21, 3) := by decide +kernel
theorem d_Rdr_takePart_145 : decode prog_4_method_5_code 145 = .ok (.iconst 4, 1) := by decide +kernel
theorem d_Rdr_takePart_146 : decode prog_4_method_5_code 146 = .ok (.iconst (-1), 1) := by decide +kernel
theorem d_Rdr_takePart_147 : decode prog_4_method_5_code 147 = .ok (.invokevirtual 90, 3) := by decide +kernel
theorem d_Rdr_takePart_150 : decode prog_4_method_5_code 150 = .ok (.ifCond .eq 7, 3) := by decide +kernel
theorem d_Rdr_takePart_153 : decode prog_4_method_5_code 153 = .ok (.iconst 1, 1) := by decide +kernel
theorem d_Rdr_takePart_154 : decode prog_4_method_5_code 154 = .ok (.goto 4, 3) := by decide +kernel
theorem d_Rdr_takePart_157 : decode prog_4_method_5_code 157 = .ok (.iconst 0, 1) := by decide +kernel
theorem d_Rdr_takePart_158 : decode prog_4_method_5_code 158 = .ok (.ireturn, 1) := by decide +kernel
theorem d_Rdr_takePart_159 : decode prog_4_method_5_code 159 = .ok (.aload_n 0, 1) := by decide +kernel
theorem d_Rdr_takePart_160 : decode prog_4_method_5_code 160 = .ok (.iconst 0, 1) := by decide +kernel
theorem d_Rdr_takePart_161 : decode prog_4_method_5_code 161 = .ok (.putfield 94, 3) := by decide +kernel
theorem d_Rdr_takePart_164 : decode prog_4_method_5_code 164 = .ok (.aload_n 0, 1) := by decide +kernel
theorem d_Rdr_takePart_165 : decode prog_4_method_5_code 165 = .ok (.aload_n 0, 1) := by decide +kernel
theorem d_Rdr_takePart_166 : decode prog_4_method_5_code 166 = .ok (.getfield 21, 3) := by decide +kernel
theorem d_Rdr_takePart_169 : decode prog_4_method_5_code 169 = .ok (.invokevirtual 98, 3) := by decide +kernel
theorem d_Rdr_takePart_172 : decode prog_4_method_5_code 172 = .ok (.putfield 102, 3) := by decide +kernel
theorem d_Rdr_takePart_175 : decode prog_4_method_5_code 175 = .ok (.aload_n 0, 1) := by decide +kernel
theorem d_Rdr_takePart_176 : decode prog_4_method_5_code 176 = .ok (.invokevirtual 75, 3) := by decide +kernel
theorem d_Rdr_takePart_179 : decode prog_4_method_5_code 179 = .ok (.ireturn, 1) := by decide +kernel
set_option maxHeartbeats 4000000 in
set_option maxRecDepth 100000 in
theorem c_Rdr_takePart (hP : zP b0 N f (wRdr ck A g len st)) (hu : uok st) : zK l D ck ad b0 y_Rdr_takePart prog_4_method_5_code 1 ((some FieldType.boolean)) 2 0 0 [.ref (A 0)] N f (fun r N' f' => r = some (.int (zb (bPart st).1)) ∧ N = N' ∧ zP b0 N f' (wRdr ck A g len ((bPart st).2)) ∧ zF N f f' (AA A)) := by
  refine zM.of zG_w (by decide) (Nat.le_of_ble_eq_true rfl) ?_
  intro zp ze zst zm zar zbe zme zc X hnm hb0
  have hF : zF N f f (AA A) := zF.rf
  refine z_aload_n X d_Rdr_takePart_0 rfl ?_
  refine z_get X d_Rdr_takePart_1 (hP.lo 0 rfl) (hP.at 0 rfl) cl_Rdr in_Rdr 11 (by decide) fl_Rdr_63 rfl rfl ?_
  refine z_lookS X 159 [(4, 99), (5, 129), (33, 48), (40, 73)] d_Rdr_takePart_4 (by decide) (by decide) (by decide) (fun i hi hx => ?_) (fun hd => ?_)
  · match i, hi, hx with
    | 0, _, hx =>
      have g4 : _ = (4 : Int32) := hx
      have g4 : st.1 11 = 4 := g4
      have e8 := show bPart st = _ from (if_neg (by rw [g4]; decide)).trans ((if_neg (by rw [g4]; decide)).trans (if_pos g4))
      refine zW.topc (pc' := 99) rfl ?_
      refine z_aload_n X d_Rdr_takePart_99 rfl ?_
      refine z_iconst X d_Rdr_takePart_100 (v := 1) (by decide) ?_
      refine z_putP X t_Rdr ty_Rdr n_Rdr d_Rdr_takePart_101 hP 0 rfl cl_Rdr in_Rdr 9 (by decide) fl_Rdr_66 rfl rfl rfl rfl rfl (Nat.le_of_ble_eq_true rfl) (fun hP => ?_)
      have hF := hF.by (by simp) hP
      refine z_aload_n X d_Rdr_takePart_104 rfl ?_
      refine z_callV X zG_ok (c_Rdr_goDeeperB (st := qs 9 1 st) hP) d_Rdr_takePart_105 ⟨(z_cb (n := 0) X.2.2.2.2.1 ml_Rdr_87 mc_Rdr_goDeeper ini_Rdr (by decide +kernel) rfl rfl ⟨Nat.le_of_ble_eq_true rfl, Nat.le_of_ble_eq_true rfl⟩), X.2.2.2.2.1 _ im_Rdr_goDeeper, X.2.2.2.2.1 _ sel_Rdr_goDeeper⟩ (hP.lo 0 rfl) (hP.at 0 rfl) cl_Rdr rfl rfl (Nat.le_of_ble_eq_true rfl) ⟨Nat.le_of_ble_eq_true rfl, Nat.le_of_ble_eq_true rfl⟩ (fun r N1 f1 hp hN1 => ?_)
      obtain ⟨rfl, rfl, hP, hF1⟩ := hp
      have hF := hF.join hF1 (Nat.le_refl _) (fun _ h => Or.inl h)
      refine z_if_eq X 127 d_Rdr_takePart_108 (by decide) (fun h108 => ?_) (fun h108 => ?_)
      · skip
        have e6 : (bGo (qs 9 1 st)).1 = false := zb_0.mp h108
        have e9 : bPart st = (false, (bGo (qs 9 1 st)).2) := e8.trans (if_neg (by rw [e6]; decide))
        refine z_iconst X d_Rdr_takePart_127 (v := 0) (by decide) ?_
        exact z_zret X d_Rdr_takePart_128 rfl ⟨by rw [e9]; rfl, rfl, by rw [e9]; exact hP, hF⟩
      · skip
        have e6 : (bGo (qs 9 1 st)).1 = true := by
          cases hq : (bGo (qs 9 1 st)).1
          · exact absurd (zb_0.mpr hq) h108
          · rfl
        have e7 : bPart st = bTr (tApp 3 (-1) (bGo (qs 9 1 st)).2.2.1) (bGo (qs 9 1 st)).2 := e8.trans (if_pos e6)
        refine z_aload_n X d_Rdr_takePart_111 rfl ?_
        refine z_get X d_Rdr_takePart_112 (hP.lo 0 rfl) (hP.at 0 rfl) cl_Rdr in_Rdr 1 (by decide) fl_Rdr_21 rfl rfl ?_
        refine z_iconst X d_Rdr_takePart_115 (v := 3) (by decide) ?_
        refine z_iconst X d_Rdr_takePart_116 (v := -1) (by decide) ?_
        refine z_callV X zG_ok (c_Tre_appendT (ts := ((bGo (qs 9 1 st)).2).2.1) (hP.sub [6, 7, 8, 9] (by decide) rfl) (bGo_u (st := qs 9 1 st) hu)) d_Rdr_takePart_117 ⟨(z_cb (n := 2) X.2.2.2.2.1 ml_Rdr_90 mc_Tre_append ini_Tre (by decide +kernel) rfl rfl ⟨Nat.le_of_ble_eq_true rfl, Nat.le_of_ble_eq_true rfl⟩), X.2.2.2.2.1 _ im_Tre_append, X.2.2.2.2.1 _ sel_Tre_append⟩ (hP.lo 6 rfl) (hP.at 6 rfl) cl_Tre rfl rfl (Nat.le_of_ble_eq_true rfl) ⟨Nat.le_of_ble_eq_true rfl, Nat.le_of_ble_eq_true rfl⟩ (fun r N1 f1 hp hN1 => ?_)
        obtain ⟨rfl, rfl, hT, hF1⟩ := hp
        have hP := zP.tre (g := g) (len := len) (st := (bGo (qs 9 1 st)).2) hP hT hF1
        have hF := hF.tre hF1
        refine z_if_eq X 127 d_Rdr_takePart_120 (by decide) (fun h120 => ?_) (fun h120 => ?_)
        · skip
          have e5 : (bTr (tApp 3 (-1) (bGo (qs 9 1 st)).2.2.1) (bGo (qs 9 1 st)).2).1 = false := zb_0.mp h120
          have e9 : bPart st = (false, (bTr (tApp 3 (-1) (bGo (qs 9 1 st)).2.2.1) (bGo (qs 9 1 st)).2).2) := by rw [e7, ← e5]
          refine z_iconst X d_Rdr_takePart_127 (v := 0) (by decide) ?_
          exact z_zret X d_Rdr_takePart_128 rfl ⟨by rw [e9]; rfl, rfl, by rw [e9]; exact hP, hF⟩
        · skip
          have e5 : (bTr (tApp 3 (-1) (bGo (qs 9 1 st)).2.2.1) (bGo (qs 9 1 st)).2).1 = true := by
            cases hq : (bTr (tApp 3 (-1) (bGo (qs 9 1 st)).2.2.1) (bGo (qs 9 1 st)).2).1
            · exact absurd (zb_0.mpr hq) h120
            · rfl
          have e9 : bPart st = (true, (bTr (tApp 3 (-1) (bGo (qs 9 1 st)).2.2.1) (bGo (qs 9 1 st)).2).2) := by rw [e7, ← e5]
          refine z_iconst X d_Rdr_takePart_123 (v := 1) (by decide) ?_
          refine z_goto X 128 d_Rdr_takePart_124 (by decide) ?_
          exact z_zret X d_Rdr_takePart_128 rfl ⟨by rw [e9]; rfl, rfl, by rw [e9]; exact hP, hF⟩
    | 1, _, hx =>
      have g4 : _ = (5 : Int32) := hx
      have g4 : st.1 11 = 5 := g4
      have e8 := show bPart st = _ from (if_neg (by rw [g4]; decide)).trans ((if_neg (by rw [g4]; decide)).trans ((if_neg (by rw [g4]; decide)).trans (if_pos g4)))
      refine zW.topc (pc' := 129) rfl ?_
      refine z_aload_n X d_Rdr_takePart_129 rfl ?_
      refine z_iconst X d_Rdr_takePart_130 (v := 1) (by decide) ?_
      refine z_putP X t_Rdr ty_Rdr n_Rdr d_Rdr_takePart_131 hP 0 rfl cl_Rdr in_Rdr 9 (by decide) fl_Rdr_66 rfl rfl rfl rfl rfl (Nat.le_of_ble_eq_true rfl) (fun hP => ?_)
      have hF := hF.by (by simp) hP
      refine z_aload_n X d_Rdr_takePart_134 rfl ?_
      refine z_callV X zG_ok (c_Rdr_goDeeperB (st := qs 9 1 st) hP) d_Rdr_takePart_135 ⟨(z_cb (n := 0) X.2.2.2.2.1 ml_Rdr_87 mc_Rdr_goDeeper ini_Rdr (by decide +kernel) rfl rfl ⟨Nat.le_of_ble_eq_true rfl, Nat.le_of_ble_eq_true rfl⟩), X.2.2.2.2.1 _ im_Rdr_goDeeper, X.2.2.2.2.1 _ sel_Rdr_goDeeper⟩ (hP.lo 0 rfl) (hP.at 0 rfl) cl_Rdr rfl rfl (Nat.le_of_ble_eq_true rfl) ⟨Nat.le_of_ble_eq_true rfl, Nat.le_of_ble_eq_true rfl⟩ (fun r N1 f1 hp hN1 => ?_)
      obtain ⟨rfl, rfl, hP, hF1⟩ := hp
      have hF := hF.join hF1 (Nat.le_refl _) (fun _ h => Or.inl h)
      refine z_if_eq X 157 d_Rdr_takePart_138 (by decide) (fun h138 => ?_) (fun h138 => ?_)
      · skip
        have e6 : (bGo (qs 9 1 st)).1 = false := zb_0.mp h138
        have e9 : bPart st = (false, (bGo (qs 9 1 st)).2) := e8.trans (if_neg (by rw [e6]; decide))
        refine z_iconst X d_Rdr_takePart_157 (v := 0) (by decide) ?_
        exact z_zret X d_Rdr_takePart_158 rfl ⟨by rw [e9]; rfl, rfl, by rw [e9]; exact hP, hF⟩
      · skip
        have e6 : (bGo (qs 9 1 st)).1 = true := by
          cases hq : (bGo (qs 9 1 st)).1
          · exact absurd (zb_0.mpr hq) h138
          · rfl
        have e7 : bPart st = bTr (tApp 4 (-1) (bGo (qs 9 1 st)).2.2.1) (bGo (qs 9 1 st)).2 := e8.trans (if_pos e6)
        refine z_aload_n X d_Rdr_takePart_141 rfl ?_
        refine z_get X d_Rdr_takePart_142 (hP.lo 0 rfl) (hP.at 0 rfl) cl_Rdr in_Rdr 1 (by decide) fl_Rdr_21 rfl rfl ?_
        refine z_iconst X d_Rdr_takePart_145 (v := 4) (by decide) ?_
        refine z_iconst X d_Rdr_takePart_146 (v := -1) (by decide) ?_
        refine z_callV X zG_ok (c_Tre_appendT (ts := ((bGo (qs 9 1 st)).2).2.1) (hP.sub [6, 7, 8, 9] (by decide) rfl) (bGo_u (st := qs 9 1 st) hu)) d_Rdr_takePart_147 ⟨(z_cb (n := 2) X.2.2.2.2.1 ml_Rdr_90 mc_Tre_append ini_Tre (by decide +kernel) rfl rfl ⟨Nat.le_of_ble_eq_true rfl, Nat.le_of_ble_eq_true rfl⟩), X.2.2.2.2.1 _ im_Tre_append, X.2.2.2.2.1 _ sel_Tre_append⟩ (hP.lo 6 rfl) (hP.at 6 rfl) cl_Tre rfl rfl (Nat.le_of_ble_eq_true rfl) ⟨Nat.le_of_ble_eq_true rfl, Nat.le_of_ble_eq_true rfl⟩ (fun r N1 f1 hp hN1 => ?_)
        obtain ⟨rfl, rfl, hT, hF1⟩ := hp
        have hP := zP.tre (g := g) (len := len) (st := (bGo (qs 9 1 st)).2) hP hT hF1
        have hF := hF.tre hF1
        refine z_if_eq X 157 d_Rdr_takePart_150 (by decide) (fun h150 => ?_) (fun h150 => ?_)
        · skip
          have e5 : (bTr (tApp 4 (-1) (bGo (qs 9 1 st)).2.2.1) (bGo (qs 9 1 st)).2).1 = false := zb_0.mp h150
          have e9 : bPart st = (false, (bTr (tApp 4 (-1) (bGo (qs 9 1 st)).2.2.1) (bGo (qs 9 1 st)).2).2) := by rw [e7, ← e5]
          refine z_iconst X d_Rdr_takePart_157 (v := 0) (by decide) ?_
          exact z_zret X d_Rdr_takePart_158 rfl ⟨by rw [e9]; rfl, rfl, by rw [e9]; exact hP, hF⟩
        · skip
          have e5 : (bTr (tApp 4 (-1) (bGo (qs 9 1 st)).2.2.1) (bGo (qs 9 1 st)).2).1 = true := by
            cases hq : (bTr (tApp 4 (-1) (bGo (qs 9 1 st)).2.2.1) (bGo (qs 9 1 st)).2).1
            · exact absurd (zb_0.mpr hq) h150
            · rfl
          have e9 : bPart st = (true, (bTr (tApp 4 (-1) (bGo (qs 9 1 st)).2.2.1) (bGo (qs 9 1 st)).2).2) := by rw [e7, ← e5]
          refine z_iconst X d_Rdr_takePart_153 (v := 1) (by decide) ?_
          refine z_goto X 158 d_Rdr_takePart_154 (by decide) ?_
          exact z_zret X d_Rdr_takePart_158 rfl ⟨by rw [e9]; rfl, rfl, by rw [e9]; exact hP, hF⟩
    | 2, _, hx =>
      have g4 : _ = (33 : Int32) := hx
      have g4 : st.1 11 = 33 := g4
      have e8 := show bPart st = _ from if_pos g4
      refine zW.topc (pc' := 48) rfl ?_
      refine z_aload_n X d_Rdr_takePart_48 rfl ?_
      refine z_callV X zG_ok (c_Rdr_goDeeperB (st := st) hP) d_Rdr_takePart_49 ⟨(z_cb (n := 0) X.2.2.2.2.1 ml_Rdr_87 mc_Rdr_goDeeper ini_Rdr (by decide +kernel) rfl rfl ⟨Nat.le_of_ble_eq_true rfl, Nat.le_of_ble_eq_true rfl⟩), X.2.2.2.2.1 _ im_Rdr_goDeeper, X.2.2.2.2.1 _ sel_Rdr_goDeeper⟩ (hP.lo 0 rfl) (hP.at 0 rfl) cl_Rdr rfl rfl (Nat.le_of_ble_eq_true rfl) ⟨Nat.le_of_ble_eq_true rfl, Nat.le_of_ble_eq_true rfl⟩ (fun r N1 f1 hp hN1 => ?_)
      obtain ⟨rfl, rfl, hP, hF1⟩ := hp
      have hF := hF.join hF1 (Nat.le_refl _) (fun _ h => Or.inl h)
      refine z_if_eq X 71 d_Rdr_takePart_52 (by decide) (fun h52 => ?_) (fun h52 => ?_)
      · skip
        have e6 : (bGo (st)).1 = false := zb_0.mp h52
        have e9 : bPart st = (false, (bGo (st)).2) := e8.trans (if_neg (by rw [e6]; decide))
        refine z_iconst X d_Rdr_takePart_71 (v := 0) (by decide) ?_
        exact z_zret X d_Rdr_takePart_72 rfl ⟨by rw [e9]; rfl, rfl, by rw [e9]; exact hP, hF⟩
      · skip
        have e6 : (bGo (st)).1 = true := by
          cases hq : (bGo (st)).1
          · exact absurd (zb_0.mpr hq) h52
          · rfl
        have e7 : bPart st = bTr (tApp 2 (-1) (bGo st).2.2.1) (bGo st).2 := e8.trans (if_pos e6)
        refine z_aload_n X d_Rdr_takePart_55 rfl ?_
        refine z_get X d_Rdr_takePart_56 (hP.lo 0 rfl) (hP.at 0 rfl) cl_Rdr in_Rdr 1 (by decide) fl_Rdr_21 rfl rfl ?_
        refine z_iconst X d_Rdr_takePart_59 (v := 2) (by decide) ?_
        refine z_iconst X d_Rdr_takePart_60 (v := -1) (by decide) ?_
        refine z_callV X zG_ok (c_Tre_appendT (ts := ((bGo st).2).2.1) (hP.sub [6, 7, 8, 9] (by decide) rfl) (bGo_u hu)) d_Rdr_takePart_61 ⟨(z_cb (n := 2) X.2.2.2.2.1 ml_Rdr_90 mc_Tre_append ini_Tre (by decide +kernel) rfl rfl ⟨Nat.le_of_ble_eq_true rfl, Nat.le_of_ble_eq_true rfl⟩), X.2.2.2.2.1 _ im_Tre_append, X.2.2.2.2.1 _ sel_Tre_append⟩ (hP.lo 6 rfl) (hP.at 6 rfl) cl_Tre rfl rfl (Nat.le_of_ble_eq_true rfl) ⟨Nat.le_of_ble_eq_true rfl, Nat.le_of_ble_eq_true rfl⟩ (fun r N1 f1 hp hN1 => ?_)
        obtain ⟨rfl, rfl, hT, hF1⟩ := hp
        have hP := zP.tre (g := g) (len := len) (st := (bGo st).2) hP hT hF1
        have hF := hF.tre hF1
        refine z_if_eq X 71 d_Rdr_takePart_64 (by decide) (fun h64 => ?_) (fun h64 => ?_)
        · skip
          have e5 : (bTr (tApp 2 (-1) (bGo st).2.2.1) (bGo st).2).1 = false := zb_0.mp h64
          have e9 : bPart st = (false, (bTr (tApp 2 (-1) (bGo st).2.2.1) (bGo st).2).2) := by rw [e7, ← e5]
          refine z_iconst X d_Rdr_takePart_71 (v := 0) (by decide) ?_
          exact z_zret X d_Rdr_takePart_72 rfl ⟨by rw [e9]; rfl, rfl, by rw [e9]; exact hP, hF⟩
        · skip
          have e5 : (bTr (tApp 2 (-1) (bGo st).2.2.1) (bGo st).2).1 = true := by
            cases hq : (bTr (tApp 2 (-1) (bGo st).2.2.1) (bGo st).2).1
            · exact absurd (zb_0.mpr hq) h64
            · rfl
          have e9 : bPart st = (true, (bTr (tApp 2 (-1) (bGo st).2.2.1) (bGo st).2).2) := by rw [e7, ← e5]
          refine z_iconst X d_Rdr_takePart_67 (v := 1) (by decide) ?_
          refine z_goto X 72 d_Rdr_takePart_68 (by decide) ?_
          exact z_zret X d_Rdr_takePart_72 rfl ⟨by rw [e9]; rfl, rfl, by rw [e9]; exact hP, hF⟩
    | 3, _, hx =>
      have g4 : _ = (40 : Int32) := hx
      have g4 : st.1 11 = 40 := g4
      have e8 := show bPart st = _ from (if_neg (by rw [g4]; decide)).trans (if_pos g4)
      refine zW.topc (pc' := 73) rfl ?_
      refine z_aload_n X d_Rdr_takePart_73 rfl ?_
      refine z_callV X zG_ok (c_Rdr_goDeeperB (st := st) hP) d_Rdr_takePart_74 ⟨(z_cb (n := 0) X.2.2.2.2.1 ml_Rdr_87 mc_Rdr_goDeeper ini_Rdr (by decide +kernel) rfl rfl ⟨Nat.le_of_ble_eq_true rfl, Nat.le_of_ble_eq_true rfl⟩), X.2.2.2.2.1 _ im_Rdr_goDeeper, X.2.2.2.2.1 _ sel_Rdr_goDeeper⟩ (hP.lo 0 rfl) (hP.at 0 rfl) cl_Rdr rfl rfl (Nat.le_of_ble_eq_true rfl) ⟨Nat.le_of_ble_eq_true rfl, Nat.le_of_ble_eq_true rfl⟩ (fun r N1 f1 hp hN1 => ?_)
      obtain ⟨rfl, rfl, hP, hF1⟩ := hp
      have hF := hF.join hF1 (Nat.le_refl _) (fun _ h => Or.inl h)
      refine z_if_eq X 97 d_Rdr_takePart_77 (by decide) (fun h77 => ?_) (fun h77 => ?_)
      · skip
        have e6 : (bGo (st)).1 = false := zb_0.mp h77
        have e9 : bPart st = (false, (bGo (st)).2) := e8.trans (if_neg (by rw [e6]; decide))
        refine z_iconst X d_Rdr_takePart_97 (v := 0) (by decide) ?_
        exact z_zret X d_Rdr_takePart_98 rfl ⟨by rw [e9]; rfl, rfl, by rw [e9]; exact hP, hF⟩
      · skip
        have e6 : (bGo (st)).1 = true := by
          cases hq : (bGo (st)).1
          · exact absurd (zb_0.mpr hq) h77
          · rfl
        have e7 : bPart st = bBeg ((bGo st).2.1 5 + 1) (bGo st).2 := e8.trans (if_pos e6)
        refine z_aload_n X d_Rdr_takePart_80 rfl ?_
        refine z_aload_n X d_Rdr_takePart_81 rfl ?_
        refine z_get X d_Rdr_takePart_82 (hP.lo 0 rfl) (hP.at 0 rfl) cl_Rdr in_Rdr 5 (by decide) fl_Rdr_72 rfl rfl ?_
        refine z_iconst X d_Rdr_takePart_85 (v := 1) (by decide) ?_
        refine z_iadd X d_Rdr_takePart_86 ?_
        refine z_callV X zG_ok (c_Rdr_beginLevelB (st := (bGo st).2) hP) d_Rdr_takePart_87 ⟨(z_cb (n := 1) X.2.2.2.2.1 ml_Rdr_49 mc_Rdr_beginLevel ini_Rdr (by decide +kernel) rfl rfl ⟨Nat.le_of_ble_eq_true rfl, Nat.le_of_ble_eq_true rfl⟩), X.2.2.2.2.1 _ im_Rdr_beginLevel, X.2.2.2.2.1 _ sel_Rdr_beginLevel⟩ (hP.lo 0 rfl) (hP.at 0 rfl) cl_Rdr rfl rfl (Nat.le_of_ble_eq_true rfl) ⟨Nat.le_of_ble_eq_true rfl, Nat.le_of_ble_eq_true rfl⟩ (fun r N1 f1 hp hN1 => ?_)
        obtain ⟨rfl, rfl, hP, hF1⟩ := hp
        have hF := hF.join hF1 (Nat.le_refl _) (fun _ h => Or.inl h)
        refine z_if_eq X 97 d_Rdr_takePart_90 (by decide) (fun h90 => ?_) (fun h90 => ?_)
        · skip
          have e5 : (bBeg ((bGo st).2.1 5 + 1) (bGo st).2).1 = false := zb_0.mp h90
          have e9 : bPart st = (false, (bBeg ((bGo st).2.1 5 + 1) (bGo st).2).2) := by rw [e7, ← e5]
          refine z_iconst X d_Rdr_takePart_97 (v := 0) (by decide) ?_
          exact z_zret X d_Rdr_takePart_98 rfl ⟨by rw [e9]; rfl, rfl, by rw [e9]; exact hP, hF⟩
        · skip
          have e5 : (bBeg ((bGo st).2.1 5 + 1) (bGo st).2).1 = true := by
            cases hq : (bBeg ((bGo st).2.1 5 + 1) (bGo st).2).1
            · exact absurd (zb_0.mpr hq) h90
            · rfl
          have e9 : bPart st = (true, (bBeg ((bGo st).2.1 5 + 1) (bGo st).2).2) := by rw [e7, ← e5]
          refine z_iconst X d_Rdr_takePart_93 (v := 1) (by decide) ?_
          refine z_goto X 98 d_Rdr_takePart_94 (by decide) ?_
          exact z_zret X d_Rdr_takePart_98 rfl ⟨by rw [e9]; rfl, rfl, by rw [e9]; exact hP, hF⟩
    | j + 4, hi, _ => exact absurd hi (by simp)
  · skip
    have g4_0 : ¬ _ = (4 : Int32) := hd 0 (by decide)
    have g4_1 : ¬ _ = (5 : Int32) := hd 1 (by decide)
    have g4_2 : ¬ _ = (33 : Int32) := hd 2 (by decide)
    have g4_3 : ¬ _ = (40 : Int32) := hd 3 (by decide)
    have e9 := show bPart st = _ from (if_neg g4_2).trans ((if_neg g4_3).trans ((if_neg g4_0).trans (if_neg g4_1)))
    refine z_aload_n X d_Rdr_takePart_159 rfl ?_
    refine z_iconst X d_Rdr_takePart_160 (v := 0) (by decide) ?_
    refine z_putP X t_Rdr ty_Rdr n_Rdr d_Rdr_takePart_161 hP 0 rfl cl_Rdr in_Rdr 8 (by decide) fl_Rdr_94 rfl rfl rfl rfl rfl (Nat.le_of_ble_eq_true rfl) (fun hP => ?_)
    have hF := hF.by (by simp) hP
    refine z_aload_n X d_Rdr_takePart_164 rfl ?_
    refine z_aload_n X d_Rdr_takePart_165 rfl ?_
    refine z_get X d_Rdr_takePart_166 (hP.lo 0 rfl) (hP.at 0 rfl) cl_Rdr in_Rdr 1 (by decide) fl_Rdr_21 rfl rfl ?_
    refine z_callV X zG_ok (c_Tre_size (hP.sub [6, 7, 8, 9] (by decide) rfl)) d_Rdr_takePart_169 ⟨(z_cb (n := 0) X.2.2.2.2.1 ml_Rdr_98 mc_Tre_size ini_Tre (by decide +kernel) rfl rfl ⟨Nat.le_of_ble_eq_true rfl, Nat.le_of_ble_eq_true rfl⟩), X.2.2.2.2.1 _ im_Tre_size, X.2.2.2.2.1 _ sel_Tre_size⟩ (hP.lo 6 rfl) (hP.at 6 rfl) cl_Tre rfl rfl (Nat.le_of_ble_eq_true rfl) ⟨Nat.le_of_ble_eq_true rfl, Nat.le_of_ble_eq_true rfl⟩ (fun r N1 f1 hp hN1 => ?_)
    obtain ⟨rfl, rfl, rfl⟩ := hp
    refine z_putP X t_Rdr ty_Rdr n_Rdr d_Rdr_takePart_172 hP 0 rfl cl_Rdr in_Rdr 7 (by decide) fl_Rdr_102 rfl rfl rfl rfl rfl (Nat.le_of_ble_eq_true rfl) (fun hP => ?_)
    have hF := hF.by (by simp) hP
    refine z_aload_n X d_Rdr_takePart_175 rfl ?_
    refine z_callV X zG_ok (c_Rdr_takeTerm (st := qs 7 (nI st.2.1.2.2.2) (qs 8 0 st)) hP hu) d_Rdr_takePart_176 ⟨(z_cb (n := 0) X.2.2.2.2.1 ml_Rdr_75 mc_Rdr_takeTerm ini_Rdr (by decide +kernel) rfl rfl ⟨Nat.le_of_ble_eq_true rfl, Nat.le_of_ble_eq_true rfl⟩), X.2.2.2.2.1 _ im_Rdr_takeTerm, X.2.2.2.2.1 _ sel_Rdr_takeTerm⟩ (hP.lo 0 rfl) (hP.at 0 rfl) cl_Rdr rfl rfl (Nat.le_of_ble_eq_true rfl) ⟨Nat.le_of_ble_eq_true rfl, Nat.le_of_ble_eq_true rfl⟩ (fun r N1 f1 hp hN1 => ?_)
    obtain ⟨rfl, rfl, hP, hF1⟩ := hp
    have hF := hF.join hF1 (Nat.le_refl _) (fun _ h => Or.inl h)
    exact z_zret X d_Rdr_takePart_179 (zb_n _) ⟨by rw [e9], rfl, by rw [e9]; exact hP, hF⟩
theorem d_Rdr_takeToken_0 : decode prog_4_method_4_code 0 = .ok (.aload_n 0, 1) := by decide +kernel
theorem d_Rdr_takeToken_1 : decode prog_4_method_4_code 1 = .ok (.getfield 66, 3) := by decide +kernel
theorem d_Rdr_takeToken_4 : decode prog_4_method_4_code 4 = .ok (.tableswitch 84 0 4 #[36, 41, 69, 74, 79], 36) := by decide +kernel
theorem d_Rdr_takeToken_40 : decode prog_4_method_4_code 40 = .ok (.aload_n 0, 1) := by decide +kernel
theorem d_Rdr_takeToken_41 : decode prog_4_method_4_code 41 = .ok (.invokevirtual 69, 3) := by decide +kernel
theorem d_Rdr_takeToken_44 : decode prog_4_method_4_code 44 = .ok (.ireturn, 1) := by decide +kernel
theorem d_Rdr_takeToken_45 : decode prog_4_method_4_code 45 = .ok (.aload_n 0, 1) := by decide +kernel
theorem d_Rdr_takeToken_46 : decode prog_4_method_4_code 46 = .ok (.getfield 63, 3) := by decide +kernel
theorem d_Rdr_takeToken_49 : decode prog_4_method_4_code 49 = .ok (.bipush 40, 2) := by decide +kernel
theorem d_Rdr_takeToken_51 : decode prog_4_method_4_code 51 = .ok (.if_icmp .ne 20, 3) := by decide +kernel
theorem d_Rdr_takeToken_54 : decode prog_4_method_4_code 54 = .ok (.aload_n 0, 1) := by decide +kernel
theorem d_Rdr_takeToken_55 : decode prog_4_method_4_code 55 = .ok (.aload_n 0, 1) := by decide +kernel
theorem d_Rdr_takeToken_56 : decode prog_4_method_4_code 56 = .ok (.getfield 72, 3) := by decide +kernel
theorem d_Rdr_takeToken_59 : decode prog_4_method_4_code 59 = .ok (.iconst 1, 1) := by decide +kernel
theorem d_Rdr_takeToken_60 : decode prog_4_method_4_code 60 = .ok (.iadd, 1) := by decide +kernel
theorem d_Rdr_takeToken_61 : decode prog_4_method_4_code 61 = .ok (.invokevirtual 49, 3) := by decide +kernel
theorem d_Rdr_takeToken_64 : decode prog_4_method_4_code 64 = .ok (.ifCond .eq 7, 3) := by decide +kernel
theorem d_Rdr_takeToken_67 : decode prog_4_method_4_code 67 = .ok (.iconst 1, 1) := by decide +kernel
theorem d_Rdr_takeToken_68 : decode prog_4_method_4_code 68 = .ok (.goto 4, 3) := by decide +kernel
theorem d_Rdr_takeToken_71 : decode prog_4_method_4_code 71 = .ok (.iconst 0, 1) := by decide +kernel
theorem d_Rdr_takeToken_72 : decode prog_4_method_4_code 72 = .ok (.ireturn, 1) := by decide +kernel
theorem d_Rdr_takeToken_73 : decode prog_4_method_4_code 73 = .ok (.aload_n 0, 1) := by decide +kernel
theorem d_Rdr_takeToken_74 : decode prog_4_method_4_code 74 = .ok (.invokevirtual 75, 3) := by decide +kernel
theorem d_Rdr_takeToken_77 : decode prog_4_method_4_code 77 = .ok (.ireturn, 1) := by decide +kernel
theorem d_Rdr_takeToken_78 : decode prog_4_method_4_code 78 = .ok (.aload_n 0, 1) := by decide +kernel
theorem d_Rdr_takeToken_79 : decode prog_4_method_4_code 79 = .ok (.invokevirtual 78, 3) := by decide +kernel
theorem d_Rdr_takeToken_82 : decode prog_4_method_4_code 82 = .ok (.ireturn, 1) := by decide +kernel
theorem d_Rdr_takeToken_83 : decode prog_4_method_4_code 83 = .ok (.aload_n 0, 1) := by decide +kernel
theorem d_Rdr_takeToken_84 : decode prog_4_method_4_code 84 = .ok (.invokevirtual 81, 3) := by decide +kernel
theorem d_Rdr_takeToken_87 : decode prog_4_method_4_code 87 = .ok (.ireturn, 1) := by decide +kernel
theorem d_Rdr_takeToken_88 : decode prog_4_method_4_code 88 = .ok (.aload_n 0, 1) := by decide +kernel
theorem d_Rdr_takeToken_89 : decode prog_4_method_4_code 89 = .ok (.invokevirtual 84, 3) := by decide +kernel
theorem d_Rdr_takeToken_92 : decode prog_4_method_4_code 92 = .ok (.ireturn, 1) := by decide +kernel
set_option maxHeartbeats 4000000 in
set_option maxRecDepth 100000 in
theorem c_Rdr_takeToken (hP : zP b0 N f (wRdr ck A g len st)) (hu : uok st) : zK l D ck ad b0 y_Rdr_takeToken prog_4_method_4_code 1 ((some FieldType.boolean)) 7 0 0 [.ref (A 0)] N f (fun r N' f' => r = some (.int (zb (bTake st).1)) ∧ N = N' ∧ zP b0 N f' (wRdr ck A g len ((bTake st).2)) ∧ zF N f f' (AA A)) := by
  refine zM.of zG_w (by decide) (Nat.le_of_ble_eq_true rfl) ?_
  intro zp ze zst zm zar zbe zme zc X hnm hb0
  have hF : zF N f f (AA A) := zF.rf
  refine z_aload_n X d_Rdr_takeToken_0 rfl ?_
  refine z_get X d_Rdr_takeToken_1 (hP.lo 0 rfl) (hP.at 0 rfl) cl_Rdr in_Rdr 9 (by decide) fl_Rdr_66 rfl rfl ?_
  refine z_tableL X 88 [40, 45, 73, 78, 83] d_Rdr_takeToken_4 (by decide) (by decide) (by decide) (fun i hi hx => ?_) (fun hd => ?_) (by decide)
  · match i, hi, hx with
    | 0, _, hx =>
      have g4 : _ = (0 : Int32) := hx
      have g4 : st.1 9 = 0 := g4
      have e9 := show bTake st = _ from if_pos g4
      refine zW.topc (pc' := 40) rfl ?_
      refine z_aload_n X d_Rdr_takeToken_40 rfl ?_
      refine z_callV X zG_ok (c_Rdr_takePart hP hu) d_Rdr_takeToken_41 ⟨(z_cb (n := 0) X.2.2.2.2.1 ml_Rdr_69 mc_Rdr_takePart ini_Rdr (by decide +kernel) rfl rfl ⟨Nat.le_of_ble_eq_true rfl, Nat.le_of_ble_eq_true rfl⟩), X.2.2.2.2.1 _ im_Rdr_takePart, X.2.2.2.2.1 _ sel_Rdr_takePart⟩ (hP.lo 0 rfl) (hP.at 0 rfl) cl_Rdr rfl rfl (Nat.le_of_ble_eq_true rfl) ⟨Nat.le_of_ble_eq_true rfl, Nat.le_of_ble_eq_true rfl⟩ (fun r N1 f1 hp hN1 => ?_)
      obtain ⟨rfl, rfl, hP, hF1⟩ := hp
      have hF := hF.join hF1 (Nat.le_refl _) (fun _ h => Or.inl h)
      exact z_zret X d_Rdr_takeToken_44 (zb_n _) ⟨by rw [e9], rfl, by rw [e9]; exact hP, hF⟩
    | 1, _, hx =>
      have g4 : _ = (1 : Int32) := hx
      have g4 : st.1 9 = 1 := g4
      have e8 := show bTake st = (if st.1 11 = 40 then bBeg (st.1 5 + 1) st else (false, st)) from (if_neg (by rw [g4]; decide)).trans (if_pos g4)
      refine zW.topc (pc' := 45) rfl ?_
      refine z_aload_n X d_Rdr_takeToken_45 rfl ?_
      refine z_get X d_Rdr_takeToken_46 (hP.lo 0 rfl) (hP.at 0 rfl) cl_Rdr in_Rdr 11 (by decide) fl_Rdr_63 rfl rfl ?_
      refine z_bipush X d_Rdr_takeToken_49 (v := 40) (by decide) ?_
      refine z_icmp_ne X 71 d_Rdr_takeToken_51 (by decide) (fun h51 => ?_) (fun h51 => ?_)
      · skip
        have e9 := e8.trans (if_neg h51)
        refine z_iconst X d_Rdr_takeToken_71 (v := 0) (by decide) ?_
        exact z_zret X d_Rdr_takeToken_72 rfl ⟨by rw [e9]; rfl, rfl, by rw [e9]; exact hP, hF⟩
      · skip
        have e7 := e8.trans (if_pos h51)
        refine z_aload_n X d_Rdr_takeToken_54 rfl ?_
        refine z_aload_n X d_Rdr_takeToken_55 rfl ?_
        refine z_get X d_Rdr_takeToken_56 (hP.lo 0 rfl) (hP.at 0 rfl) cl_Rdr in_Rdr 5 (by decide) fl_Rdr_72 rfl rfl ?_
        refine z_iconst X d_Rdr_takeToken_59 (v := 1) (by decide) ?_
        refine z_iadd X d_Rdr_takeToken_60 ?_
        refine z_callV X zG_ok (c_Rdr_beginLevelB hP) d_Rdr_takeToken_61 ⟨(z_cb (n := 1) X.2.2.2.2.1 ml_Rdr_49 mc_Rdr_beginLevel ini_Rdr (by decide +kernel) rfl rfl ⟨Nat.le_of_ble_eq_true rfl, Nat.le_of_ble_eq_true rfl⟩), X.2.2.2.2.1 _ im_Rdr_beginLevel, X.2.2.2.2.1 _ sel_Rdr_beginLevel⟩ (hP.lo 0 rfl) (hP.at 0 rfl) cl_Rdr rfl rfl (Nat.le_of_ble_eq_true rfl) ⟨Nat.le_of_ble_eq_true rfl, Nat.le_of_ble_eq_true rfl⟩ (fun r N1 f1 hp hN1 => ?_)
        obtain ⟨rfl, rfl, hP, hF1⟩ := hp
        have hF := hF.join hF1 (Nat.le_refl _) (fun _ h => Or.inl h)
        refine z_if_eq X 71 d_Rdr_takeToken_64 (by decide) (fun h64 => ?_) (fun h64 => ?_)
        · skip
          have e6 : (bBeg (st.1 5 + 1) st).1 = false := zb_0.mp h64
          have e9 : bTake st = (false, (bBeg (st.1 5 + 1) st).2) := by rw [e7, ← e6]
          refine z_iconst X d_Rdr_takeToken_71 (v := 0) (by decide) ?_
          exact z_zret X d_Rdr_takeToken_72 rfl ⟨by rw [e9]; rfl, rfl, by rw [e9]; exact hP, hF⟩
        · skip
          have e6 : (bBeg (st.1 5 + 1) st).1 = true := by
            cases hq : (bBeg (st.1 5 + 1) st).1
            · exact absurd (zb_0.mpr hq) h64
            · rfl
          have e9 : bTake st = (true, (bBeg (st.1 5 + 1) st).2) := by rw [e7, ← e6]
          refine z_iconst X d_Rdr_takeToken_67 (v := 1) (by decide) ?_
          refine z_goto X 72 d_Rdr_takeToken_68 (by decide) ?_
          exact z_zret X d_Rdr_takeToken_72 rfl ⟨by rw [e9]; rfl, rfl, by rw [e9]; exact hP, hF⟩
    | 2, _, hx =>
      have g4 : _ = (2 : Int32) := hx
      have g4 : st.1 9 = 2 := g4
      have e9 := show bTake st = _ from (if_neg (by rw [g4]; decide)).trans ((if_neg (by rw [g4]; decide)).trans (if_pos g4))
      refine zW.topc (pc' := 73) rfl ?_
      refine z_aload_n X d_Rdr_takeToken_73 rfl ?_
      refine z_callV X zG_ok (c_Rdr_takeTerm hP hu) d_Rdr_takeToken_74 ⟨(z_cb (n := 0) X.2.2.2.2.1 ml_Rdr_75 mc_Rdr_takeTerm ini_Rdr (by decide +kernel) rfl rfl ⟨Nat.le_of_ble_eq_true rfl, Nat.le_of_ble_eq_true rfl⟩), X.2.2.2.2.1 _ im_Rdr_takeTerm, X.2.2.2.2.1 _ sel_Rdr_takeTerm⟩ (hP.lo 0 rfl) (hP.at 0 rfl) cl_Rdr rfl rfl (Nat.le_of_ble_eq_true rfl) ⟨Nat.le_of_ble_eq_true rfl, Nat.le_of_ble_eq_true rfl⟩ (fun r N1 f1 hp hN1 => ?_)
      obtain ⟨rfl, rfl, hP, hF1⟩ := hp
      have hF := hF.join hF1 (Nat.le_refl _) (fun _ h => Or.inl h)
      exact z_zret X d_Rdr_takeToken_77 (zb_n _) ⟨by rw [e9], rfl, by rw [e9]; exact hP, hF⟩
    | 3, _, hx =>
      have g4 : _ = (3 : Int32) := hx
      have g4 : st.1 9 = 3 := g4
      have e9 := show bTake st = _ from (if_neg (by rw [g4]; decide)).trans ((if_neg (by rw [g4]; decide)).trans ((if_neg (by rw [g4]; decide)).trans (if_pos g4)))
      refine zW.topc (pc' := 78) rfl ?_
      refine z_aload_n X d_Rdr_takeToken_78 rfl ?_
      refine z_callV X zG_ok (c_Rdr_takeFieldOfSum hP hu) d_Rdr_takeToken_79 ⟨(z_cb (n := 0) X.2.2.2.2.1 ml_Rdr_78 mc_Rdr_takeFieldOfSum ini_Rdr (by decide +kernel) rfl rfl ⟨Nat.le_of_ble_eq_true rfl, Nat.le_of_ble_eq_true rfl⟩), X.2.2.2.2.1 _ im_Rdr_takeFieldOfSum, X.2.2.2.2.1 _ sel_Rdr_takeFieldOfSum⟩ (hP.lo 0 rfl) (hP.at 0 rfl) cl_Rdr rfl rfl (Nat.le_of_ble_eq_true rfl) ⟨Nat.le_of_ble_eq_true rfl, Nat.le_of_ble_eq_true rfl⟩ (fun r N1 f1 hp hN1 => ?_)
      obtain ⟨rfl, rfl, hP, hF1⟩ := hp
      have hF := hF.join hF1 (Nat.le_refl _) (fun _ h => Or.inl h)
      exact z_zret X d_Rdr_takeToken_82 (zb_n _) ⟨by rw [e9], rfl, by rw [e9]; exact hP, hF⟩
    | 4, _, hx =>
      have g4 : _ = (4 : Int32) := hx
      have g4 : st.1 9 = 4 := g4
      have e9 := show bTake st = _ from (if_neg (by rw [g4]; decide)).trans ((if_neg (by rw [g4]; decide)).trans ((if_neg (by rw [g4]; decide)).trans ((if_neg (by rw [g4]; decide)).trans (if_pos g4))))
      refine zW.topc (pc' := 83) rfl ?_
      refine z_aload_n X d_Rdr_takeToken_83 rfl ?_
      refine z_callV X zG_ok (c_Rdr_takeBehindTerm hP hu) d_Rdr_takeToken_84 ⟨(z_cb (n := 0) X.2.2.2.2.1 ml_Rdr_81 mc_Rdr_takeBehindTerm ini_Rdr (by decide +kernel) rfl rfl ⟨Nat.le_of_ble_eq_true rfl, Nat.le_of_ble_eq_true rfl⟩), X.2.2.2.2.1 _ im_Rdr_takeBehindTerm, X.2.2.2.2.1 _ sel_Rdr_takeBehindTerm⟩ (hP.lo 0 rfl) (hP.at 0 rfl) cl_Rdr rfl rfl (Nat.le_of_ble_eq_true rfl) ⟨Nat.le_of_ble_eq_true rfl, Nat.le_of_ble_eq_true rfl⟩ (fun r N1 f1 hp hN1 => ?_)
      obtain ⟨rfl, rfl, hP, hF1⟩ := hp
      have hF := hF.join hF1 (Nat.le_refl _) (fun _ h => Or.inl h)
      exact z_zret X d_Rdr_takeToken_87 (zb_n _) ⟨by rw [e9], rfl, by rw [e9]; exact hP, hF⟩
    | j + 5, hi, _ => exact absurd hi (by simp)
  · skip
    have g4_0 : ¬ _ = (0 : Int32) := hd 0 (by decide)
    have g4_1 : ¬ _ = (1 : Int32) := hd 1 (by decide)
    have g4_2 : ¬ _ = (2 : Int32) := hd 2 (by decide)
    have g4_3 : ¬ _ = (3 : Int32) := hd 3 (by decide)
    have g4_4 : ¬ _ = (4 : Int32) := hd 4 (by decide)
    have e9 := show bTake st = _ from (if_neg g4_0).trans ((if_neg g4_1).trans ((if_neg g4_2).trans ((if_neg g4_3).trans (if_neg g4_4))))
    refine z_aload_n X d_Rdr_takeToken_88 rfl ?_
    refine z_callV X zG_ok (c_Rdr_takeBehindPart hP hu) d_Rdr_takeToken_89 ⟨(z_cb (n := 0) X.2.2.2.2.1 ml_Rdr_84 mc_Rdr_takeBehindPart ini_Rdr (by decide +kernel) rfl rfl ⟨Nat.le_of_ble_eq_true rfl, Nat.le_of_ble_eq_true rfl⟩), X.2.2.2.2.1 _ im_Rdr_takeBehindPart, X.2.2.2.2.1 _ sel_Rdr_takeBehindPart⟩ (hP.lo 0 rfl) (hP.at 0 rfl) cl_Rdr rfl rfl (Nat.le_of_ble_eq_true rfl) ⟨Nat.le_of_ble_eq_true rfl, Nat.le_of_ble_eq_true rfl⟩ (fun r N1 f1 hp hN1 => ?_)
    obtain ⟨rfl, rfl, hP, hF1⟩ := hp
    have hF := hF.join hF1 (Nat.le_refl _) (fun _ h => Or.inl h)
    exact z_zret X d_Rdr_takeToken_92 (zb_n _) ⟨by rw [e9], rfl, by rw [e9]; exact hP, hF⟩
theorem d_Rdr_readText_0 : decode prog_4_method_3_code 0 = .ok (.aload_n 0, 1) := by decide +kernel
theorem d_Rdr_readText_1 : decode prog_4_method_3_code 1 = .ok (.getfield 21, 3) := by decide +kernel
theorem d_Rdr_readText_4 : decode prog_4_method_3_code 4 = .ok (.invokevirtual 39, 3) := by decide +kernel
theorem d_Rdr_readText_7 : decode prog_4_method_3_code 7 = .ok (.aload_n 0, 1) := by decide +kernel
theorem d_Rdr_readText_8 : decode prog_4_method_3_code 8 = .ok (.iconst 0, 1) := by decide +kernel
theorem d_Rdr_readText_9 : decode prog_4_method_3_code 9 = .ok (.putfield 42, 3) := by decide +kernel
theorem d_Rdr_readText_12 : decode prog_4_method_3_code 12 = .ok (.aload_n 0, 1) := by decide +kernel
theorem d_Rdr_readText_13 : decode prog_4_method_3_code 13 = .ok (.iconst 0, 1) := by decide +kernel
theorem d_Rdr_readText_14 : decode prog_4_method_3_code 14 = .ok (.putfield 46, 3) := by decide +kernel
theorem d_Rdr_readText_17 : decode prog_4_method_3_code 17 = .ok (.aload_n 0, 1) := by decide +kernel
theorem d_Rdr_readText_18 : decode prog_4_method_3_code 18 = .ok (.iconst 0, 1) := by decide +kernel
theorem d_Rdr_readText_19 : decode prog_4_method_3_code 19 = .ok (.invokevirtual 49, 3) := by decide +kernel
theorem d_Rdr_readText_22 : decode prog_4_method_3_code 22 = .ok (.pop, 1) := by decide +kernel
theorem d_Rdr_readText_23 : decode prog_4_method_3_code 23 = .ok (.iconst 0, 1) := by decide +kernel
theorem d_Rdr_readText_24 : decode prog_4_method_3_code 24 = .ok (.istore_n 1, 1) := by decide +kernel
theorem d_Rdr_readText_25 : decode prog_4_method_3_code 25 = .ok (.iload_n 1, 1) := by decide +kernel
theorem d_Rdr_readText_26 : decode prog_4_method_3_code 26 = .ok (.sipush 200, 3) := by decide +kernel
theorem d_Rdr_readText_29 : decode prog_4_method_3_code 29 = .ok (.if_icmp .gt 34, 3) := by decide +kernel
theorem d_Rdr_readText_32 : decode prog_4_method_3_code 32 = .ok (.aload_n 0, 1) := by decide +kernel
theorem d_Rdr_readText_33 : decode prog_4_method_3_code 33 = .ok (.invokevirtual 53, 3) := by decide +kernel
theorem d_Rdr_readText_36 : decode prog_4_method_3_code 36 = .ok (.aload_n 0, 1) := by decide +kernel
theorem d_Rdr_readText_37 : decode prog_4_method_3_code 37 = .ok (.invokevirtual 56, 3) := by decide +kernel
theorem d_Rdr_readText_40 : decode prog_4_method_3_code 40 = .ok (.ifCond .ne 8, 3) := by decide +kernel
theorem d_Rdr_readText_43 : decode prog_4_method_3_code 43 = .ok (.aload_n 0, 1) := by decide +kernel
theorem d_Rdr_readText_44 : decode prog_4_method_3_code 44 = .ok (.getfield 60, 3) := by decide +kernel
theorem d_Rdr_readText_47 : decode prog_4_method_3_code 47 = .ok (.ireturn, 1) := by decide +kernel
theorem d_Rdr_readText_48 : decode prog_4_method_3_code 48 = .ok (.aload_n 0, 1) := by decide +kernel
theorem d_Rdr_readText_49 : decode prog_4_method_3_code 49 = .ok (.getfield 63, 3) := by decide +kernel
theorem d_Rdr_readText_52 : decode prog_4_method_3_code 52 = .ok (.ifCond .ne 5, 3) := by decide +kernel
theorem d_Rdr_readText_55 : decode prog_4_method_3_code 55 = .ok (.iconst (-1), 1) := by decide +kernel
theorem d_Rdr_readText_56 : decode prog_4_method_3_code 56 = .ok (.ireturn, 1) := by decide +kernel
theorem d_Rdr_readText_57 : decode prog_4_method_3_code 57 = .ok (.iinc 1 1, 3) := by decide +kernel
theorem d_Rdr_readText_60 : decode prog_4_method_3_code 60 = .ok (.goto (-35), 3) := by decide +kernel
theorem d_Rdr_readText_63 : decode prog_4_method_3_code 63 = .ok (.aload_n 0, 1) := by decide +kernel
theorem d_Rdr_readText_64 : decode prog_4_method_3_code 64 = .ok (.getfield 60, 3) := by decide +kernel
theorem d_Rdr_readText_67 : decode prog_4_method_3_code 67 = .ok (.ireturn, 1) := by decide +kernel
set_option maxHeartbeats 4000000 in
set_option maxRecDepth 100000 in
theorem c_Rdr_readText (hP : zP b0 N f (wRdr ck A g len st)) (hu : uok st) (hlen : len ≤ 200) : zK l D ck ad b0 y_Rdr_readText prog_4_method_3_code 2 ((some FieldType.int)) 8 0 0 [.ref (A 0)] N f (fun r N' f' => r = some (.int (bText g len st).1) ∧ N = N' ∧ zP b0 N f' (wRdr ck A g len ((bText g len st).2)) ∧ zF N f f' (AA A)) := by
  refine zM.of zG_w (by decide) (Nat.le_of_ble_eq_true rfl) ?_
  intro zp ze zst zm zar zbe zme zc X hnm hb0
  have hF : zF N f f (AA A) := zF.rf
  have L25 : ∀ (nn : Nat) (k : Nat) (s : RSt) (f1 : Nat → va_E), (k ≤ 201 ∧ k + nn = 202) → bText g len st = bRun g len (201 - k) s → zP b0 N f1 (wRdr ck A g len s) → zF N f f1 (AA A) → uok s → zW zp l ze (zR 8 0 0) zst zm zar zbe zme zc D zcl b0 2 0 0 (MQ zbe (zQ D zcl b0 (fun r N' f' => r = some (.int (bText g len st).1) ∧ N = N' ∧ zP b0 N f' (wRdr ck A g len ((bText g len st).2)) ∧ zF N f f' (AA A))) zar zst 0 0 (zA b0)) N f1 25 [(0, .ref (A 0)), (1, .int (nI k))] [] := by
    intro nn
    induction nn with
    | zero =>
      intro k s f1 hk hz0 hP hF hu
      omega
    | succ nn ih =>
      intro k s f1 hk hz0 hP hF hu
      refine z_iload_n X d_Rdr_readText_25 rfl ?_
      refine z_sipush X d_Rdr_readText_26 (v := 200) (by decide) ?_
      refine z_icmp_gt X 63 d_Rdr_readText_29 (by decide) (fun h29 => ?_) (fun h29 => ?_)
      · skip
        have hk2 : k = 201 := by have := (nI_ltI (a := 200) (b := k) (by decide) (by omega)).mp h29; omega
        subst hk2
        have e9 : bText g len st = (s.1 12, s) := hz0
        refine z_aload_n X d_Rdr_readText_63 rfl ?_
        refine z_get X d_Rdr_readText_64 (hP.lo 0 rfl) (hP.at 0 rfl) cl_Rdr in_Rdr 12 (by decide) fl_Rdr_60 rfl rfl ?_
        exact z_iret X d_Rdr_readText_67 ⟨by rw [e9], rfl, by rw [e9]; exact hP, hF⟩
      · skip
        have hk2 : k ≤ 200 := by
          rcases Nat.lt_or_ge 200 k with z | z
          · exact absurd (nI_lt (a := 200) (b := k) z (by omega)) h29
          · exact z
        have e0 : bText g len st = bRun g len (200 - k + 1) s := by rw [hz0, show 201 - k = 200 - k + 1 by omega]
        rw [bRun] at e0
        refine z_aload_n X d_Rdr_readText_32 rfl ?_
        refine z_callV X zG_ok (c_Rdr_readToken (st := s) hP hlen) d_Rdr_readText_33 ⟨(z_cb (n := 0) X.2.2.2.2.1 ml_Rdr_53 mc_Rdr_readToken ini_Rdr (by decide +kernel) rfl rfl ⟨Nat.le_of_ble_eq_true rfl, Nat.le_of_ble_eq_true rfl⟩), X.2.2.2.2.1 _ im_Rdr_readToken, X.2.2.2.2.1 _ sel_Rdr_readToken⟩ (hP.lo 0 rfl) (hP.at 0 rfl) cl_Rdr rfl rfl (Nat.le_of_ble_eq_true rfl) ⟨Nat.le_of_ble_eq_true rfl, Nat.le_of_ble_eq_true rfl⟩ (fun r N1 f1 hp hN1 => ?_)
        obtain ⟨rfl, rfl, hP, hF1⟩ := hp
        have hF := hF.join hF1 (Nat.le_refl _) (fun _ h => Or.inl h)
        refine z_aload_n X d_Rdr_readText_36 rfl ?_
        refine z_callV X zG_ok (c_Rdr_takeToken (st := (zTok g len s.1, s.2)) hP hu) d_Rdr_readText_37 ⟨(z_cb (n := 0) X.2.2.2.2.1 ml_Rdr_56 mc_Rdr_takeToken ini_Rdr (by decide +kernel) rfl rfl ⟨Nat.le_of_ble_eq_true rfl, Nat.le_of_ble_eq_true rfl⟩), X.2.2.2.2.1 _ im_Rdr_takeToken, X.2.2.2.2.1 _ sel_Rdr_takeToken⟩ (hP.lo 0 rfl) (hP.at 0 rfl) cl_Rdr rfl rfl (Nat.le_of_ble_eq_true rfl) ⟨Nat.le_of_ble_eq_true rfl, Nat.le_of_ble_eq_true rfl⟩ (fun r N1 f1 hp hN1 => ?_)
        obtain ⟨rfl, rfl, hP, hF1⟩ := hp
        have hF := hF.join hF1 (Nat.le_refl _) (fun _ h => Or.inl h)
        have hu9 := bTake_u (st := (zTok g len s.1, s.2)) hu
        generalize bTake (zTok g len s.1, s.2) = T at hP e0 hu9 ⊢
        refine z_if_ne X 48 d_Rdr_readText_40 (by decide) (fun h40 => ?_) (fun h40 => ?_)
        · skip
          have e6 : T.1 = true := by
            cases hq : T.1
            · exact absurd (zb_0.mpr hq) h40
            · rfl
          have e7 := e0.trans (if_pos e6)
          refine z_aload_n X d_Rdr_readText_48 rfl ?_
          refine z_get X d_Rdr_readText_49 (hP.lo 0 rfl) (hP.at 0 rfl) cl_Rdr in_Rdr 11 (by decide) fl_Rdr_63 rfl rfl ?_
          refine z_if_ne X 57 d_Rdr_readText_52 (by decide) (fun h52 => ?_) (fun h52 => ?_)
          · skip
            have e9 := e7.trans (if_neg h52)
            refine z_iinc X d_Rdr_readText_57 rfl (nI_1 _) (by decide) rfl ?_
            refine z_goto X 25 d_Rdr_readText_60 (by decide) ?_
            exact ih (k + 1) _ _ (by omega) (by rw [e9, show 201 - (k + 1) = 200 - k by omega]) hP hF hu9
          · skip
            have e9 := e7.trans (if_pos h52)
            refine z_iconst X d_Rdr_readText_55 (v := -1) (by decide) ?_
            exact z_iret X d_Rdr_readText_56 ⟨by rw [e9], rfl, by rw [e9]; exact hP, hF⟩
        · skip
          have e6 : T.1 = false := zb_0.mp h40
          have e9 := e0.trans (if_neg (by rw [e6]; decide))
          refine z_aload_n X d_Rdr_readText_43 rfl ?_
          refine z_get X d_Rdr_readText_44 (hP.lo 0 rfl) (hP.at 0 rfl) cl_Rdr in_Rdr 12 (by decide) fl_Rdr_60 rfl rfl ?_
          exact z_iret X d_Rdr_readText_47 ⟨by rw [e9], rfl, by rw [e9]; exact hP, hF⟩
  refine z_aload_n X d_Rdr_readText_0 rfl ?_
  refine z_get X d_Rdr_readText_1 (hP.lo 0 rfl) (hP.at 0 rfl) cl_Rdr in_Rdr 1 (by decide) fl_Rdr_21 rfl rfl ?_
  refine z_callV X zG_ok (c_Tre_clear (hP.sub [6, 7, 8, 9] (by decide) rfl)) d_Rdr_readText_4 ⟨(z_cb (n := 0) X.2.2.2.2.1 ml_Rdr_39 mc_Tre_clear ini_Tre (by decide +kernel) rfl rfl ⟨Nat.le_of_ble_eq_true rfl, Nat.le_of_ble_eq_true rfl⟩), X.2.2.2.2.1 _ im_Tre_clear, X.2.2.2.2.1 _ sel_Tre_clear⟩ (hP.lo 6 rfl) (hP.at 6 rfl) cl_Tre rfl rfl (Nat.le_of_ble_eq_true rfl) ⟨Nat.le_of_ble_eq_true rfl, Nat.le_of_ble_eq_true rfl⟩ (fun r N1 f1 hp hN1 => ?_)
  obtain ⟨rfl, rfl, rfl⟩ := hp
  have hP := hP.put 6 rfl (oTre (A 7) (A 8) (A 9) 0)
  have hF := hF.put (a := A 6) (by simp) (oTre (A 7) (A 8) (A 9) 0)
  refine z_aload_n X d_Rdr_readText_7 rfl ?_
  refine z_iconst X d_Rdr_readText_8 (v := 0) (by decide) ?_
  refine z_putP X t_Rdr ty_Rdr n_Rdr d_Rdr_readText_9 hP 0 rfl cl_Rdr in_Rdr 10 (by decide) fl_Rdr_42 rfl rfl rfl rfl rfl (Nat.le_of_ble_eq_true rfl) (fun hP => ?_)
  have hF := hF.by (by simp) hP
  refine z_aload_n X d_Rdr_readText_12 rfl ?_
  refine z_iconst X d_Rdr_readText_13 (v := 0) (by decide) ?_
  refine z_putP X t_Rdr ty_Rdr n_Rdr d_Rdr_readText_14 hP 0 rfl cl_Rdr in_Rdr 6 (by decide) fl_Rdr_46 rfl rfl rfl rfl rfl (Nat.le_of_ble_eq_true rfl) (fun hP => ?_)
  have hF := hF.by (by simp) hP
  refine z_aload_n X d_Rdr_readText_17 rfl ?_
  refine z_iconst X d_Rdr_readText_18 (v := 0) (by decide) ?_
  refine z_callV X zG_ok (c_Rdr_beginLevelB (st := (upd (upd st.1 10 0) 6 0, (st.2.1.1, st.2.1.2.1, st.2.1.2.2.1, 0), st.2.2)) hP) d_Rdr_readText_19 ⟨(z_cb (n := 1) X.2.2.2.2.1 ml_Rdr_49 mc_Rdr_beginLevel ini_Rdr (by decide +kernel) rfl rfl ⟨Nat.le_of_ble_eq_true rfl, Nat.le_of_ble_eq_true rfl⟩), X.2.2.2.2.1 _ im_Rdr_beginLevel, X.2.2.2.2.1 _ sel_Rdr_beginLevel⟩ (hP.lo 0 rfl) (hP.at 0 rfl) cl_Rdr rfl rfl (Nat.le_of_ble_eq_true rfl) ⟨Nat.le_of_ble_eq_true rfl, Nat.le_of_ble_eq_true rfl⟩ (fun r N1 f1 hp hN1 => ?_)
  obtain ⟨rfl, rfl, hP, hF1⟩ := hp
  have hF := hF.join hF1 (Nat.le_refl _) (fun _ h => Or.inl h)
  refine z_pop X d_Rdr_readText_22 rfl ?_
  refine z_iconst X d_Rdr_readText_23 (v := 0) (by decide) ?_
  refine z_istore_n X d_Rdr_readText_24 (by decide) rfl ?_
  exact L25 202 0 _ _ (by omega) rfl hP hF (bBeg_u (st := (upd (upd st.1 10 0) 6 0, (st.2.1.1, st.2.1.2.1, st.2.1.2.2.1, 0), st.2.2)) (Nat.zero_le _))
end
