theorem zR_le {d d' m mc ms mc' ms' : Nat} (h : d + 1 ≤ d') (hm : m ≤ 29) : (zR d mc ms).frames + 1 ≤ (zR d' mc' ms').frames ∧ 8 + (m + 11) + (zR d mc ms).locals ≤ (zR d' mc' ms').locals := ⟨h, by show 8 + (m + 11) + 48 * d ≤ 48 * d'; omega⟩
theorem ne4 {x : Int32} (h : x = 4) : ¬ x = 3 := by rw [h]; decide
section
variable {l : Launch} {D : va_G} {ck : Nat → ClassId} {ad : (Nat → Nat) × (Nat → Nat)} {b0 N : Nat} {f : Nat → va_E}
variable {A : Nat → Nat} {ps : PSt}
theorem zP.prt2 {f' : Nat → va_E} {ps' : PSt} {n : Nat} {K V R : Nat → Int32} {u : Nat} (hP : zP b0 N f (wPT ck A ps n K V R u)) (h1 : zP b0 N f' [(A 1, oSgn (A 2) (nI ps'.2)), (A 2, aI ck 200 ps'.1)]) (hF : zF N f f' [A 1, A 2]) : zP b0 N f' (wPT ck A ps' n K V R u) :=
  ((hP.jn [1, 2] [0, 3, 4, 5, 6] rfl (by decide) (by simp) (by decide) hF (Nat.le_refl _) h1 (fun _ h => Or.inl h)).sub (wc := wPT ck A ps' n K V R u) [0, 5, 6, 1, 2, 3, 4] (by decide) rfl)
theorem d_Prt_printTerm_0 : decode prog_3_method_6_code 0 = .ok (.iload_n 1, 1) := by decide +kernel
theorem d_Prt_printTerm_1 : decode prog_3_method_6_code 1 = .ok (.bipush 13, 2) := by decide +kernel
theorem d_Prt_printTerm_3 : decode prog_3_method_6_code 3 = .ok (.if_icmp .ne 9, 3) := by decide +kernel
theorem d_Prt_printTerm_6 : decode prog_3_method_6_code 6 = .ok (.aload_n 0, 1) := by decide +kernel
theorem d_Prt_printTerm_7 : decode prog_3_method_6_code 7 = .ok (.ldc 68, 2) := by decide +kernel
theorem d_Prt_printTerm_9 : decode prog_3_method_6_code 9 = .ok (.invokevirtual 46, 3) := by decide +kernel
theorem d_Prt_printTerm_12 : decode prog_3_method_6_code 12 = .ok (.iload_n 1, 1) := by decide +kernel
theorem d_Prt_printTerm_13 : decode prog_3_method_6_code 13 = .ok (.bipush 14, 2) := by decide +kernel
theorem d_Prt_printTerm_15 : decode prog_3_method_6_code 15 = .ok (.if_icmp .ne 9, 3) := by decide +kernel
theorem d_Prt_printTerm_18 : decode prog_3_method_6_code 18 = .ok (.aload_n 0, 1) := by decide +kernel
theorem d_Prt_printTerm_19 : decode prog_3_method_6_code 19 = .ok (.ldc 70, 2) := by decide +kernel
theorem d_Prt_printTerm_21 : decode prog_3_method_6_code 21 = .ok (.invokevirtual 46, 3) := by decide +kernel
theorem d_Prt_printTerm_24 : decode prog_3_method_6_code 24 = .ok (.iload_n 1, 1) := by decide +kernel
theorem d_Prt_printTerm_25 : decode prog_3_method_6_code 25 = .ok (.bipush 11, 2) := by decide +kernel
theorem d_Prt_printTerm_27 : decode prog_3_method_6_code 27 = .ok (.if_icmp .eq 13, 3) := by decide +kernel
theorem d_Prt_printTerm_30 : decode prog_3_method_6_code 30 = .ok (.aload_n 0, 1) := by decide +kernel
theorem d_Prt_printTerm_31 : decode prog_3_method_6_code 31 = .ok (.getfield 12, 3) := by decide +kernel
theorem d_Prt_printTerm_34 : decode prog_3_method_6_code 34 = .ok (.bipush 102, 2) := by decide +kernel
theorem d_Prt_printTerm_36 : decode prog_3_method_6_code 36 = .ok (.invokevirtual 31, 3) := by decide +kernel
theorem d_Prt_printTerm_39 : decode prog_3_method_6_code 39 = .ok (.pop, 1) := by decide +kernel
theorem d_Prt_printTerm_40 : decode prog_3_method_6_code 40 = .ok (.aload_n 0, 1) := by decide +kernel
theorem d_Prt_printTerm_41 : decode prog_3_method_6_code 41 = .ok (.iload_n 2, 1) := by decide +kernel
theorem d_Prt_printTerm_42 : decode prog_3_method_6_code 42 = .ok (.invokevirtual 72, 3) := by decide +kernel
theorem d_Prt_printTerm_45 : decode prog_3_method_6_code 45 = .ok (.return_, 1) := by decide +kernel
set_option maxHeartbeats 4000000 in
set_option maxRecDepth 100000 in
theorem c_Prt_printTerm (hP : zP b0 N f (wPr ck A ps)) (hl : ps.2 ≤ 200) {kd v : Int32} : zK l D ck ad b0 y_Prt_printTerm prog_3_method_6_code 3 (none) 5 0 0 [.ref (A 0), .int kd, .int v] N f (fun r N' f' => r = none ∧ N = N' ∧ zP b0 N f' (wPr ck A (pPut (pTerm kd v) ps)) ∧ zF N f f' [A 1, A 2]) := by
  refine zM.of zG_w (by decide) (Nat.le_of_ble_eq_true rfl) ?_
  intro zp ze zst zm zar zbe zme zc X hnm hb0
  have hF : zF N f f [A 1, A 2] := zF.rf
  refine z_iload_n X d_Prt_printTerm_0 rfl ?_
  refine z_bipush X d_Prt_printTerm_1 (v := 13) (by decide) ?_
  refine z_icmp_ne X 12 d_Prt_printTerm_3 (by decide) (fun h3 => ?_) (fun h3 => ?_)
  · skip
    have e1 : (if kd = 13 then zSb 12 else []) = [] := if_neg h3
    refine z_iload_n X d_Prt_printTerm_12 rfl ?_
    refine z_bipush X d_Prt_printTerm_13 (v := 14) (by decide) ?_
    refine z_icmp_ne X 24 d_Prt_printTerm_15 (by decide) (fun h15 => ?_) (fun h15 => ?_)
    · skip
      have e2 : (if kd = 14 then zSb 13 else []) = [] := if_neg h15
      refine z_iload_n X d_Prt_printTerm_24 rfl ?_
      refine z_bipush X d_Prt_printTerm_25 (v := 11) (by decide) ?_
      refine z_icmp_eq X 40 d_Prt_printTerm_27 (by decide) (fun h27 => ?_) (fun h27 => ?_)
      · skip
        have e3 : (if kd = 11 then [] else [(102 : Int32)]) = [] := if_pos h27
        refine z_aload_n X d_Prt_printTerm_40 rfl ?_
        refine z_iload_n X d_Prt_printTerm_41 rfl ?_
        refine z_callV X zG_ok (c_Prt_addNumber hP (by repeat (first | with_reducible exact hl | with_reducible apply pPut_len | with_reducible apply pAdd_len))) d_Prt_printTerm_42 ⟨(z_cb (n := 1) X.2.2.2.2.1 ml_Prt_72 mc_Prt_addNumber ini_Prt (by decide +kernel) rfl rfl ⟨Nat.le_of_ble_eq_true rfl, Nat.le_of_ble_eq_true rfl⟩), X.2.2.2.2.1 _ im_Prt_addNumber, X.2.2.2.2.1 _ sel_Prt_addNumber⟩ (hP.lo 0 rfl) (hP.at 0 rfl) cl_Prt rfl rfl (Nat.le_of_ble_eq_true rfl) ⟨Nat.le_of_ble_eq_true rfl, Nat.le_of_ble_eq_true rfl⟩ (fun r N1 f1 hp hN1 => ?_)
        obtain ⟨rfl, rfl, hP, hF1⟩ := hp
        have hF := hF.join hF1 (Nat.le_refl _) (fun _ h => Or.inl h)
        exact z_vret X d_Prt_printTerm_45 ⟨rfl, rfl, by rw [pTerm, e1, e2, e3]; simp only [List.nil_append, pPut_app, pPut_1]; exact hP, hF⟩
      · skip
        have e3 : (if kd = 11 then [] else [(102 : Int32)]) = [102] := if_neg h27
        refine z_aload_n X d_Prt_printTerm_30 rfl ?_
        refine z_get X d_Prt_printTerm_31 (hP.lo 0 rfl) (hP.at 0 rfl) cl_Prt in_Prt 0 (by decide) fl_Prt_12 rfl rfl ?_
        refine z_bipush X d_Prt_printTerm_34 (v := 102) (by decide) ?_
        refine z_callV X zG_ok (c_Sgn_addT (hP.sub [1, 2] (by decide) rfl) (by repeat (first | with_reducible exact hl | with_reducible apply pPut_len | with_reducible apply pAdd_len))) d_Prt_printTerm_36 ⟨(z_cb (n := 1) X.2.2.2.2.1 ml_Prt_31 mc_Sgn_add ini_Sgn (by decide +kernel) rfl rfl ⟨Nat.le_of_ble_eq_true rfl, Nat.le_of_ble_eq_true rfl⟩), X.2.2.2.2.1 _ im_Sgn_add, X.2.2.2.2.1 _ sel_Sgn_add⟩ (hP.lo 1 rfl) (hP.at 1 rfl) cl_Sgn rfl rfl (Nat.le_of_ble_eq_true rfl) ⟨Nat.le_of_ble_eq_true rfl, Nat.le_of_ble_eq_true rfl⟩ (fun r N1 f1 hp hN1 => ?_)
        obtain ⟨⟨y9, rfl⟩, rfl, hP1, hF1⟩ := hp
        have hP := hP.pra hP1 hF1
        have hF := hF.join hF1 (Nat.le_refl _) (fun _ h => Or.inl h)
        refine z_pop X d_Prt_printTerm_39 rfl ?_
        refine z_aload_n X d_Prt_printTerm_40 rfl ?_
        refine z_iload_n X d_Prt_printTerm_41 rfl ?_
        refine z_callV X zG_ok (c_Prt_addNumber hP (by repeat (first | with_reducible exact hl | with_reducible apply pPut_len | with_reducible apply pAdd_len))) d_Prt_printTerm_42 ⟨(z_cb (n := 1) X.2.2.2.2.1 ml_Prt_72 mc_Prt_addNumber ini_Prt (by decide +kernel) rfl rfl ⟨Nat.le_of_ble_eq_true rfl, Nat.le_of_ble_eq_true rfl⟩), X.2.2.2.2.1 _ im_Prt_addNumber, X.2.2.2.2.1 _ sel_Prt_addNumber⟩ (hP.lo 0 rfl) (hP.at 0 rfl) cl_Prt rfl rfl (Nat.le_of_ble_eq_true rfl) ⟨Nat.le_of_ble_eq_true rfl, Nat.le_of_ble_eq_true rfl⟩ (fun r N1 f1 hp hN1 => ?_)
        obtain ⟨rfl, rfl, hP, hF1⟩ := hp
        have hF := hF.join hF1 (Nat.le_refl _) (fun _ h => Or.inl h)
        exact z_vret X d_Prt_printTerm_45 ⟨rfl, rfl, by rw [pTerm, e1, e2, e3]; simp only [List.nil_append, pPut_app, pPut_1]; exact hP, hF⟩
    · skip
      have e2 : (if kd = 14 then zSb 13 else []) = zSb 13 := if_pos h15
      refine z_aload_n X d_Prt_printTerm_18 rfl ?_
      refine z_ldcS X d_Prt_printTerm_19 (zG_sr (j := 13) X.2.2.2.2.2.1 (by decide)) ?_
      refine z_callV X zG_ok (c_Prt_addWord (j := 13) hP (by repeat (first | with_reducible exact hl | with_reducible apply pPut_len | with_reducible apply pAdd_len)) (by decide)) d_Prt_printTerm_21 ⟨(z_cb (n := 1) X.2.2.2.2.1 ml_Prt_46 mc_Prt_addWord ini_Prt (by decide +kernel) rfl rfl ⟨Nat.le_of_ble_eq_true rfl, Nat.le_of_ble_eq_true rfl⟩), X.2.2.2.2.1 _ im_Prt_addWord, X.2.2.2.2.1 _ sel_Prt_addWord⟩ (hP.lo 0 rfl) (hP.at 0 rfl) cl_Prt rfl rfl (Nat.le_of_ble_eq_true rfl) ⟨Nat.le_of_ble_eq_true rfl, Nat.le_of_ble_eq_true rfl⟩ (fun r N1 f1 hp hN1 => ?_)
      obtain ⟨rfl, rfl, hP, hF1⟩ := hp
      have hF := hF.join hF1 (Nat.le_refl _) (fun _ h => Or.inl h)
      refine z_iload_n X d_Prt_printTerm_24 rfl ?_
      refine z_bipush X d_Prt_printTerm_25 (v := 11) (by decide) ?_
      refine z_icmp_eq X 40 d_Prt_printTerm_27 (by decide) (fun h27 => ?_) (fun h27 => ?_)
      · skip
        have e3 : (if kd = 11 then [] else [(102 : Int32)]) = [] := if_pos h27
        refine z_aload_n X d_Prt_printTerm_40 rfl ?_
        refine z_iload_n X d_Prt_printTerm_41 rfl ?_
        refine z_callV X zG_ok (c_Prt_addNumber hP (by repeat (first | with_reducible exact hl | with_reducible apply pPut_len | with_reducible apply pAdd_len))) d_Prt_printTerm_42 ⟨(z_cb (n := 1) X.2.2.2.2.1 ml_Prt_72 mc_Prt_addNumber ini_Prt (by decide +kernel) rfl rfl ⟨Nat.le_of_ble_eq_true rfl, Nat.le_of_ble_eq_true rfl⟩), X.2.2.2.2.1 _ im_Prt_addNumber, X.2.2.2.2.1 _ sel_Prt_addNumber⟩ (hP.lo 0 rfl) (hP.at 0 rfl) cl_Prt rfl rfl (Nat.le_of_ble_eq_true rfl) ⟨Nat.le_of_ble_eq_true rfl, Nat.le_of_ble_eq_true rfl⟩ (fun r N1 f1 hp hN1 => ?_)
        obtain ⟨rfl, rfl, hP, hF1⟩ := hp
        have hF := hF.join hF1 (Nat.le_refl _) (fun _ h => Or.inl h)
        exact z_vret X d_Prt_printTerm_45 ⟨rfl, rfl, by rw [pTerm, e1, e2, e3]; simp only [List.nil_append, pPut_app, pPut_1]; exact hP, hF⟩
      · skip
        have e3 : (if kd = 11 then [] else [(102 : Int32)]) = [102] := if_neg h27
        refine z_aload_n X d_Prt_printTerm_30 rfl ?_
        refine z_get X d_Prt_printTerm_31 (hP.lo 0 rfl) (hP.at 0 rfl) cl_Prt in_Prt 0 (by decide) fl_Prt_12 rfl rfl ?_
        refine z_bipush X d_Prt_printTerm_34 (v := 102) (by decide) ?_
        refine z_callV X zG_ok (c_Sgn_addT (hP.sub [1, 2] (by decide) rfl) (by repeat (first | with_reducible exact hl | with_reducible apply pPut_len | with_reducible apply pAdd_len))) d_Prt_printTerm_36 ⟨(z_cb (n := 1) X.2.2.2.2.1 ml_Prt_31 mc_Sgn_add ini_Sgn (by decide +kernel) rfl rfl ⟨Nat.le_of_ble_eq_true rfl, Nat.le_of_ble_eq_true rfl⟩), X.2.2.2.2.1 _ im_Sgn_add, X.2.2.2.2.1 _ sel_Sgn_add⟩ (hP.lo 1 rfl) (hP.at 1 rfl) cl_Sgn rfl rfl (Nat.le_of_ble_eq_true rfl) ⟨Nat.le_of_ble_eq_true rfl, Nat.le_of_ble_eq_true rfl⟩ (fun r N1 f1 hp hN1 => ?_)
        obtain ⟨⟨y9, rfl⟩, rfl, hP1, hF1⟩ := hp
        have hP := hP.pra hP1 hF1
        have hF := hF.join hF1 (Nat.le_refl _) (fun _ h => Or.inl h)
        refine z_pop X d_Prt_printTerm_39 rfl ?_
        refine z_aload_n X d_Prt_printTerm_40 rfl ?_
        refine z_iload_n X d_Prt_printTerm_41 rfl ?_
        refine z_callV X zG_ok (c_Prt_addNumber hP (by repeat (first | with_reducible exact hl | with_reducible apply pPut_len | with_reducible apply pAdd_len))) d_Prt_printTerm_42 ⟨(z_cb (n := 1) X.2.2.2.2.1 ml_Prt_72 mc_Prt_addNumber ini_Prt (by decide +kernel) rfl rfl ⟨Nat.le_of_ble_eq_true rfl, Nat.le_of_ble_eq_true rfl⟩), X.2.2.2.2.1 _ im_Prt_addNumber, X.2.2.2.2.1 _ sel_Prt_addNumber⟩ (hP.lo 0 rfl) (hP.at 0 rfl) cl_Prt rfl rfl (Nat.le_of_ble_eq_true rfl) ⟨Nat.le_of_ble_eq_true rfl, Nat.le_of_ble_eq_true rfl⟩ (fun r N1 f1 hp hN1 => ?_)
        obtain ⟨rfl, rfl, hP, hF1⟩ := hp
        have hF := hF.join hF1 (Nat.le_refl _) (fun _ h => Or.inl h)
        exact z_vret X d_Prt_printTerm_45 ⟨rfl, rfl, by rw [pTerm, e1, e2, e3]; simp only [List.nil_append, pPut_app, pPut_1]; exact hP, hF⟩
  · skip
    have e1 : (if kd = 13 then zSb 12 else []) = zSb 12 := if_pos h3
    refine z_aload_n X d_Prt_printTerm_6 rfl ?_
    refine z_ldcS X d_Prt_printTerm_7 (zG_sr (j := 12) X.2.2.2.2.2.1 (by decide)) ?_
    refine z_callV X zG_ok (c_Prt_addWord (j := 12) hP (by repeat (first | with_reducible exact hl | with_reducible apply pPut_len | with_reducible apply pAdd_len)) (by decide)) d_Prt_printTerm_9 ⟨(z_cb (n := 1) X.2.2.2.2.1 ml_Prt_46 mc_Prt_addWord ini_Prt (by decide +kernel) rfl rfl ⟨Nat.le_of_ble_eq_true rfl, Nat.le_of_ble_eq_true rfl⟩), X.2.2.2.2.1 _ im_Prt_addWord, X.2.2.2.2.1 _ sel_Prt_addWord⟩ (hP.lo 0 rfl) (hP.at 0 rfl) cl_Prt rfl rfl (Nat.le_of_ble_eq_true rfl) ⟨Nat.le_of_ble_eq_true rfl, Nat.le_of_ble_eq_true rfl⟩ (fun r N1 f1 hp hN1 => ?_)
    obtain ⟨rfl, rfl, hP, hF1⟩ := hp
    have hF := hF.join hF1 (Nat.le_refl _) (fun _ h => Or.inl h)
    refine z_iload_n X d_Prt_printTerm_12 rfl ?_
    refine z_bipush X d_Prt_printTerm_13 (v := 14) (by decide) ?_
    refine z_icmp_ne X 24 d_Prt_printTerm_15 (by decide) (fun h15 => ?_) (fun h15 => ?_)
    · skip
      have e2 : (if kd = 14 then zSb 13 else []) = [] := if_neg h15
      refine z_iload_n X d_Prt_printTerm_24 rfl ?_
      refine z_bipush X d_Prt_printTerm_25 (v := 11) (by decide) ?_
      refine z_icmp_eq X 40 d_Prt_printTerm_27 (by decide) (fun h27 => ?_) (fun h27 => ?_)
      · skip
        have e3 : (if kd = 11 then [] else [(102 : Int32)]) = [] := if_pos h27
        refine z_aload_n X d_Prt_printTerm_40 rfl ?_
        refine z_iload_n X d_Prt_printTerm_41 rfl ?_
        refine z_callV X zG_ok (c_Prt_addNumber hP (by repeat (first | with_reducible exact hl | with_reducible apply pPut_len | with_reducible apply pAdd_len))) d_Prt_printTerm_42 ⟨(z_cb (n := 1) X.2.2.2.2.1 ml_Prt_72 mc_Prt_addNumber ini_Prt (by decide +kernel) rfl rfl ⟨Nat.le_of_ble_eq_true rfl, Nat.le_of_ble_eq_true rfl⟩), X.2.2.2.2.1 _ im_Prt_addNumber, X.2.2.2.2.1 _ sel_Prt_addNumber⟩ (hP.lo 0 rfl) (hP.at 0 rfl) cl_Prt rfl rfl (Nat.le_of_ble_eq_true rfl) ⟨Nat.le_of_ble_eq_true rfl, Nat.le_of_ble_eq_true rfl⟩ (fun r N1 f1 hp hN1 => ?_)
        obtain ⟨rfl, rfl, hP, hF1⟩ := hp
        have hF := hF.join hF1 (Nat.le_refl _) (fun _ h => Or.inl h)
        exact z_vret X d_Prt_printTerm_45 ⟨rfl, rfl, by rw [pTerm, e1, e2, e3]; simp only [List.nil_append, pPut_app, pPut_1]; exact hP, hF⟩
      · skip
        have e3 : (if kd = 11 then [] else [(102 : Int32)]) = [102] := if_neg h27
        refine z_aload_n X d_Prt_printTerm_30 rfl ?_
        refine z_get X d_Prt_printTerm_31 (hP.lo 0 rfl) (hP.at 0 rfl) cl_Prt in_Prt 0 (by decide) fl_Prt_12 rfl rfl ?_
        refine z_bipush X d_Prt_printTerm_34 (v := 102) (by decide) ?_
        refine z_callV X zG_ok (c_Sgn_addT (hP.sub [1, 2] (by decide) rfl) (by repeat (first | with_reducible exact hl | with_reducible apply pPut_len | with_reducible apply pAdd_len))) d_Prt_printTerm_36 ⟨(z_cb (n := 1) X.2.2.2.2.1 ml_Prt_31 mc_Sgn_add ini_Sgn (by decide +kernel) rfl rfl ⟨Nat.le_of_ble_eq_true rfl, Nat.le_of_ble_eq_true rfl⟩), X.2.2.2.2.1 _ im_Sgn_add, X.2.2.2.2.1 _ sel_Sgn_add⟩ (hP.lo 1 rfl) (hP.at 1 rfl) cl_Sgn rfl rfl (Nat.le_of_ble_eq_true rfl) ⟨Nat.le_of_ble_eq_true rfl, Nat.le_of_ble_eq_true rfl⟩ (fun r N1 f1 hp hN1 => ?_)
        obtain ⟨⟨y9, rfl⟩, rfl, hP1, hF1⟩ := hp
        have hP := hP.pra hP1 hF1
        have hF := hF.join hF1 (Nat.le_refl _) (fun _ h => Or.inl h)
        refine z_pop X d_Prt_printTerm_39 rfl ?_
        refine z_aload_n X d_Prt_printTerm_40 rfl ?_
        refine z_iload_n X d_Prt_printTerm_41 rfl ?_
        refine z_callV X zG_ok (c_Prt_addNumber hP (by repeat (first | with_reducible exact hl | with_reducible apply pPut_len | with_reducible apply pAdd_len))) d_Prt_printTerm_42 ⟨(z_cb (n := 1) X.2.2.2.2.1 ml_Prt_72 mc_Prt_addNumber ini_Prt (by decide +kernel) rfl rfl ⟨Nat.le_of_ble_eq_true rfl, Nat.le_of_ble_eq_true rfl⟩), X.2.2.2.2.1 _ im_Prt_addNumber, X.2.2.2.2.1 _ sel_Prt_addNumber⟩ (hP.lo 0 rfl) (hP.at 0 rfl) cl_Prt rfl rfl (Nat.le_of_ble_eq_true rfl) ⟨Nat.le_of_ble_eq_true rfl, Nat.le_of_ble_eq_true rfl⟩ (fun r N1 f1 hp hN1 => ?_)
        obtain ⟨rfl, rfl, hP, hF1⟩ := hp
        have hF := hF.join hF1 (Nat.le_refl _) (fun _ h => Or.inl h)
        exact z_vret X d_Prt_printTerm_45 ⟨rfl, rfl, by rw [pTerm, e1, e2, e3]; simp only [List.nil_append, pPut_app, pPut_1]; exact hP, hF⟩
    · skip
      have e2 : (if kd = 14 then zSb 13 else []) = zSb 13 := if_pos h15
      refine z_aload_n X d_Prt_printTerm_18 rfl ?_
      refine z_ldcS X d_Prt_printTerm_19 (zG_sr (j := 13) X.2.2.2.2.2.1 (by decide)) ?_
      refine z_callV X zG_ok (c_Prt_addWord (j := 13) hP (by repeat (first | with_reducible exact hl | with_reducible apply pPut_len | with_reducible apply pAdd_len)) (by decide)) d_Prt_printTerm_21 ⟨(z_cb (n := 1) X.2.2.2.2.1 ml_Prt_46 mc_Prt_addWord ini_Prt (by decide +kernel) rfl rfl ⟨Nat.le_of_ble_eq_true rfl, Nat.le_of_ble_eq_true rfl⟩), X.2.2.2.2.1 _ im_Prt_addWord, X.2.2.2.2.1 _ sel_Prt_addWord⟩ (hP.lo 0 rfl) (hP.at 0 rfl) cl_Prt rfl rfl (Nat.le_of_ble_eq_true rfl) ⟨Nat.le_of_ble_eq_true rfl, Nat.le_of_ble_eq_true rfl⟩ (fun r N1 f1 hp hN1 => ?_)
      obtain ⟨rfl, rfl, hP, hF1⟩ := hp
      have hF := hF.join hF1 (Nat.le_refl _) (fun _ h => Or.inl h)
      refine z_iload_n X d_Prt_printTerm_24 rfl ?_
      refine z_bipush X d_Prt_printTerm_25 (v := 11) (by decide) ?_
      refine z_icmp_eq X 40 d_Prt_printTerm_27 (by decide) (fun h27 => ?_) (fun h27 => ?_)
      · skip
        have e3 : (if kd = 11 then [] else [(102 : Int32)]) = [] := if_pos h27
        refine z_aload_n X d_Prt_printTerm_40 rfl ?_
        refine z_iload_n X d_Prt_printTerm_41 rfl ?_
        refine z_callV X zG_ok (c_Prt_addNumber hP (by repeat (first | with_reducible exact hl | with_reducible apply pPut_len | with_reducible apply pAdd_len))) d_Prt_printTerm_42 ⟨(z_cb (n := 1) X.2.2.2.2.1 ml_Prt_72 mc_Prt_addNumber ini_Prt (by decide +kernel) rfl rfl ⟨Nat.le_of_ble_eq_true rfl, Nat.le_of_ble_eq_true rfl⟩), X.2.2.2.2.1 _ im_Prt_addNumber, X.2.2.2.2.1 _ sel_Prt_addNumber⟩ (hP.lo 0 rfl) (hP.at 0 rfl) cl_Prt rfl rfl (Nat.le_of_ble_eq_true rfl) ⟨Nat.le_of_ble_eq_true rfl, Nat.le_of_ble_eq_true rfl⟩ (fun r N1 f1 hp hN1 => ?_)
        obtain ⟨rfl, rfl, hP, hF1⟩ := hp
        have hF := hF.join hF1 (Nat.le_refl _) (fun _ h => Or.inl h)
        exact z_vret X d_Prt_printTerm_45 ⟨rfl, rfl, by rw [pTerm, e1, e2, e3]; simp only [List.nil_append, pPut_app, pPut_1]; exact hP, hF⟩
      · skip
        have e3 : (if kd = 11 then [] else [(102 : Int32)]) = [102] := if_neg h27
        refine z_aload_n X d_Prt_printTerm_30 rfl ?_
        refine z_get X d_Prt_printTerm_31 (hP.lo 0 rfl) (hP.at 0 rfl) cl_Prt in_Prt 0 (by decide) fl_Prt_12 rfl rfl ?_
        refine z_bipush X d_Prt_printTerm_34 (v := 102) (by decide) ?_
        refine z_callV X zG_ok (c_Sgn_addT (hP.sub [1, 2] (by decide) rfl) (by repeat (first | with_reducible exact hl | with_reducible apply pPut_len | with_reducible apply pAdd_len))) d_Prt_printTerm_36 ⟨(z_cb (n := 1) X.2.2.2.2.1 ml_Prt_31 mc_Sgn_add ini_Sgn (by decide +kernel) rfl rfl ⟨Nat.le_of_ble_eq_true rfl, Nat.le_of_ble_eq_true rfl⟩), X.2.2.2.2.1 _ im_Sgn_add, X.2.2.2.2.1 _ sel_Sgn_add⟩ (hP.lo 1 rfl) (hP.at 1 rfl) cl_Sgn rfl rfl (Nat.le_of_ble_eq_true rfl) ⟨Nat.le_of_ble_eq_true rfl, Nat.le_of_ble_eq_true rfl⟩ (fun r N1 f1 hp hN1 => ?_)
        obtain ⟨⟨y9, rfl⟩, rfl, hP1, hF1⟩ := hp
        have hP := hP.pra hP1 hF1
        have hF := hF.join hF1 (Nat.le_refl _) (fun _ h => Or.inl h)
        refine z_pop X d_Prt_printTerm_39 rfl ?_
        refine z_aload_n X d_Prt_printTerm_40 rfl ?_
        refine z_iload_n X d_Prt_printTerm_41 rfl ?_
        refine z_callV X zG_ok (c_Prt_addNumber hP (by repeat (first | with_reducible exact hl | with_reducible apply pPut_len | with_reducible apply pAdd_len))) d_Prt_printTerm_42 ⟨(z_cb (n := 1) X.2.2.2.2.1 ml_Prt_72 mc_Prt_addNumber ini_Prt (by decide +kernel) rfl rfl ⟨Nat.le_of_ble_eq_true rfl, Nat.le_of_ble_eq_true rfl⟩), X.2.2.2.2.1 _ im_Prt_addNumber, X.2.2.2.2.1 _ sel_Prt_addNumber⟩ (hP.lo 0 rfl) (hP.at 0 rfl) cl_Prt rfl rfl (Nat.le_of_ble_eq_true rfl) ⟨Nat.le_of_ble_eq_true rfl, Nat.le_of_ble_eq_true rfl⟩ (fun r N1 f1 hp hN1 => ?_)
        obtain ⟨rfl, rfl, hP, hF1⟩ := hp
        have hF := hF.join hF1 (Nat.le_refl _) (fun _ h => Or.inl h)
        exact z_vret X d_Prt_printTerm_45 ⟨rfl, rfl, by rw [pTerm, e1, e2, e3]; simp only [List.nil_append, pPut_app, pPut_1]; exact hP, hF⟩
/-- Printer.printNode with n levels left -/
def pN (l : Launch) (D : va_G) (ck : Nat → ClassId) (ad : (Nat → Nat) × (Nat → Nat)) (b0 : Nat) (A : Nat → Nat) (n9 : Nat) (K V R : Nat → Int32) (u n : Nat) : Prop := ∀ (N : Nat) (f : Nat → va_E) (ps : PSt) (i x : Int32), zP b0 N f (wPT ck A ps n9 K V R u) → ps.2 ≤ 200 → x = nI (40 - n) → zK l D ck ad b0 y_Prt_printNode prog_3_method_3_code 5 (none) (2 * n + 6) 0 0 [.ref (A 0), .ref (A 3), .int i, .int x] N f (fun r N' f' => r = none ∧ N = N' ∧ zP b0 N f' (wPT ck A (pPut (pTxt K V R u n i) ps) n9 K V R u) ∧ zF N f f' [A 1, A 2])
theorem d_Prt_printBelow_0 : decode prog_3_method_4_code 0 = .ok (.iload_n 3, 1) := by decide +kernel
theorem d_Prt_printBelow_1 : decode prog_3_method_4_code 1 = .ok (.aload_n 1, 1) := by decide +kernel
theorem d_Prt_printBelow_2 : decode prog_3_method_4_code 2 = .ok (.iload_n 2, 1) := by decide +kernel
theorem d_Prt_printBelow_3 : decode prog_3_method_4_code 3 = .ok (.invokevirtual 61, 3) := by decide +kernel
theorem d_Prt_printBelow_6 : decode prog_3_method_4_code 6 = .ok (.if_icmp .ne 7, 3) := by decide +kernel
theorem d_Prt_printBelow_9 : decode prog_3_method_4_code 9 = .ok (.iconst 1, 1) := by decide +kernel
theorem d_Prt_printBelow_10 : decode prog_3_method_4_code 10 = .ok (.goto 4, 3) := by decide +kernel
theorem d_Prt_printBelow_13 : decode prog_3_method_4_code 13 = .ok (.iconst 0, 1) := by decide +kernel
theorem d_Prt_printBelow_14 : decode prog_3_method_4_code 14 = .ok (.istore 5, 2) := by decide +kernel
theorem d_Prt_printBelow_16 : decode prog_3_method_4_code 16 = .ok (.aload_n 1, 1) := by decide +kernel
theorem d_Prt_printBelow_17 : decode prog_3_method_4_code 17 = .ok (.iload_n 2, 1) := by decide +kernel
theorem d_Prt_printBelow_18 : decode prog_3_method_4_code 18 = .ok (.invokevirtual 25, 3) := by decide +kernel
theorem d_Prt_printBelow_21 : decode prog_3_method_4_code 21 = .ok (.aload_n 1, 1) := by decide +kernel
theorem d_Prt_printBelow_22 : decode prog_3_method_4_code 22 = .ok (.iload_n 3, 1) := by decide +kernel
theorem d_Prt_printBelow_23 : decode prog_3_method_4_code 23 = .ok (.invokevirtual 25, 3) := by decide +kernel
theorem d_Prt_printBelow_26 : decode prog_3_method_4_code 26 = .ok (.iload 5, 2) := by decide +kernel
theorem d_Prt_printBelow_28 : decode prog_3_method_4_code 28 = .ok (.invokestatic 64, 3) := by decide +kernel
theorem d_Prt_printBelow_31 : decode prog_3_method_4_code 31 = .ok (.istore 6, 2) := by decide +kernel
theorem d_Prt_printBelow_33 : decode prog_3_method_4_code 33 = .ok (.iload 6, 2) := by decide +kernel
theorem d_Prt_printBelow_35 : decode prog_3_method_4_code 35 = .ok (.ifCond .eq 13, 3) := by decide +kernel
theorem d_Prt_printBelow_38 : decode prog_3_method_4_code 38 = .ok (.aload_n 0, 1) := by decide +kernel
theorem d_Prt_printBelow_39 : decode prog_3_method_4_code 39 = .ok (.getfield 12, 3) := by decide +kernel
theorem d_Prt_printBelow_42 : decode prog_3_method_4_code 42 = .ok (.bipush 40, 2) := by decide +kernel
theorem d_Prt_printBelow_44 : decode prog_3_method_4_code 44 = .ok (.invokevirtual 31, 3) := by decide +kernel
theorem d_Prt_printBelow_47 : decode prog_3_method_4_code 47 = .ok (.pop, 1) := by decide +kernel
theorem d_Prt_printBelow_48 : decode prog_3_method_4_code 48 = .ok (.aload_n 0, 1) := by decide +kernel
theorem d_Prt_printBelow_49 : decode prog_3_method_4_code 49 = .ok (.aload_n 1, 1) := by decide +kernel
theorem d_Prt_printBelow_50 : decode prog_3_method_4_code 50 = .ok (.iload_n 3, 1) := by decide +kernel
theorem d_Prt_printBelow_51 : decode prog_3_method_4_code 51 = .ok (.iload 4, 2) := by decide +kernel
theorem d_Prt_printBelow_53 : decode prog_3_method_4_code 53 = .ok (.iconst 1, 1) := by decide +kernel
theorem d_Prt_printBelow_54 : decode prog_3_method_4_code 54 = .ok (.iadd, 1) := by decide +kernel
theorem d_Prt_printBelow_55 : decode prog_3_method_4_code 55 = .ok (.invokevirtual 21, 3) := by decide +kernel
theorem d_Prt_printBelow_58 : decode prog_3_method_4_code 58 = .ok (.iload 6, 2) := by decide +kernel
theorem d_Prt_printBelow_60 : decode prog_3_method_4_code 60 = .ok (.ifCond .eq 13, 3) := by decide +kernel
theorem d_Prt_printBelow_63 : decode prog_3_method_4_code 63 = .ok (.aload_n 0, 1) := by decide +kernel
theorem d_Prt_printBelow_64 : decode prog_3_method_4_code 64 = .ok (.getfield 12, 3) := by decide +kernel
theorem d_Prt_printBelow_67 : decode prog_3_method_4_code 67 = .ok (.bipush 41, 2) := by decide +kernel
theorem d_Prt_printBelow_69 : decode prog_3_method_4_code 69 = .ok (.invokevirtual 31, 3) := by decide +kernel
theorem d_Prt_printBelow_72 : decode prog_3_method_4_code 72 = .ok (.pop, 1) := by decide +kernel
theorem d_Prt_printBelow_73 : decode prog_3_method_4_code 73 = .ok (.return_, 1) := by decide +kernel
set_option maxHeartbeats 4000000 in
set_option maxRecDepth 100000 in
theorem c_Prt_printBelow_true {n9 : Nat} {K V R : Nat → Int32} {u : Nat} (hP : zP b0 N f (wPT ck A ps n9 K V R u)) (hl : ps.2 ≤ 200) (hu : u ≤ n9) (hn : n9 ≤ 40) {n : Nat} (hn39 : n ≤ 39) (hN : pN l D ck ad b0 A n9 K V R u n) {i b x : Int32} (hx : x = nI (39 - n)) (hr9 : decide (b = sgv R u i) = true) : zK l D ck ad b0 y_Prt_printBelow prog_3_method_4_code 7 (none) (2 * n + 7) 0 0 [.ref (A 0), .ref (A 3), .int i, .int b, .int x] N f (fun r N' f' => r = none ∧ N = N' ∧ zP b0 N f' (wPT ck A (pPut (pBel K R u (pTxt K V R u n) i b) ps) n9 K V R u) ∧ zF N f f' [A 1, A 2]) := by
  refine zM.of zG_w (by decide) (Nat.le_of_ble_eq_true rfl) ?_
  intro zp ze zst zm zar zbe zme zc X hnm hb0
  have hF : zF N f f [A 1, A 2] := zF.rf
  refine z_iload_n X d_Prt_printBelow_0 rfl ?_
  refine z_aload_n X d_Prt_printBelow_1 rfl ?_
  refine z_iload_n X d_Prt_printBelow_2 rfl ?_
  refine z_callV X zG_ok (c_Tre_rightOf (hP.sub (wc := wTre ck (A 3) (A 4) (A 5) (A 6) n9 K V R u) [3, 4, 5, 6] (by decide) rfl) hu hn) d_Prt_printBelow_3 ⟨(z_cb (n := 1) X.2.2.2.2.1 ml_Prt_61 mc_Tre_rightOf ini_Tre (by decide +kernel) rfl rfl (zR_le (by omega) (by decide))), X.2.2.2.2.1 _ im_Tre_rightOf, X.2.2.2.2.1 _ sel_Tre_rightOf⟩ (hP.lo 3 rfl) (hP.at 3 rfl) cl_Tre rfl rfl (Nat.le_of_ble_eq_true rfl) ⟨Nat.le_of_ble_eq_true rfl, Nat.le_of_ble_eq_true rfl⟩ (fun r N1 f1 hp hN1 => ?_)
  obtain ⟨rfl, rfl, rfl⟩ := hp
  refine z_icmp_ne X 13 d_Prt_printBelow_6 (by decide) (fun h6 => ?_) (fun h6 => ?_)
  · skip
    exact absurd (of_decide_eq_true hr9) h6
  · skip
    refine z_iconst X d_Prt_printBelow_9 (v := 1) (by decide) ?_
    refine z_goto X 14 d_Prt_printBelow_10 (by decide) ?_
    refine z_istore X d_Prt_printBelow_14 (by decide) rfl ?_
    refine z_aload_n X d_Prt_printBelow_16 rfl ?_
    refine z_iload_n X d_Prt_printBelow_17 rfl ?_
    refine z_callV X zG_ok (c_Tre_kindOf (hP.sub (wc := wTre ck (A 3) (A 4) (A 5) (A 6) n9 K V R u) [3, 4, 5, 6] (by decide) rfl) hu hn) d_Prt_printBelow_18 ⟨(z_cb (n := 1) X.2.2.2.2.1 ml_Prt_25 mc_Tre_kindOf ini_Tre (by decide +kernel) rfl rfl (zR_le (by omega) (by decide))), X.2.2.2.2.1 _ im_Tre_kindOf, X.2.2.2.2.1 _ sel_Tre_kindOf⟩ (hP.lo 3 rfl) (hP.at 3 rfl) cl_Tre rfl rfl (Nat.le_of_ble_eq_true rfl) ⟨Nat.le_of_ble_eq_true rfl, Nat.le_of_ble_eq_true rfl⟩ (fun r N1 f1 hp hN1 => ?_)
    obtain ⟨rfl, rfl, rfl⟩ := hp
    refine z_aload_n X d_Prt_printBelow_21 rfl ?_
    refine z_iload_n X d_Prt_printBelow_22 rfl ?_
    refine z_callV X zG_ok (c_Tre_kindOf (hP.sub (wc := wTre ck (A 3) (A 4) (A 5) (A 6) n9 K V R u) [3, 4, 5, 6] (by decide) rfl) hu hn) d_Prt_printBelow_23 ⟨(z_cb (n := 1) X.2.2.2.2.1 ml_Prt_25 mc_Tre_kindOf ini_Tre (by decide +kernel) rfl rfl (zR_le (by omega) (by decide))), X.2.2.2.2.1 _ im_Tre_kindOf, X.2.2.2.2.1 _ sel_Tre_kindOf⟩ (hP.lo 3 rfl) (hP.at 3 rfl) cl_Tre rfl rfl (Nat.le_of_ble_eq_true rfl) ⟨Nat.le_of_ble_eq_true rfl, Nat.le_of_ble_eq_true rfl⟩ (fun r N1 f1 hp hN1 => ?_)
    obtain ⟨rfl, rfl, rfl⟩ := hp
    refine z_iload X d_Prt_printBelow_26 rfl ?_
    refine z_callS X zG_ok (c_Prt_needsBrackets (bb := true)) d_Prt_printBelow_28 ⟨(z_cb (n := 3) X.2.2.2.2.1 ml_Prt_64 mc_Prt_needsBrackets ini_Prt (by decide +kernel) rfl rfl (zR_le (by omega) (by decide))), X.2.2.2.2.1 _ st_Prt_needsBrackets⟩ rfl rfl (Nat.le_of_ble_eq_true rfl) ⟨Nat.le_of_ble_eq_true rfl, Nat.le_of_ble_eq_true rfl⟩ (fun r N1 f1 hp hN1 => ?_)
    obtain ⟨rfl, rfl, rfl⟩ := hp
    refine z_istore X d_Prt_printBelow_31 (by decide) rfl ?_
    refine z_iload X d_Prt_printBelow_33 rfl ?_
    refine z_if_eq X 48 d_Prt_printBelow_35 (by decide) (fun h35 => ?_) (fun h35 => ?_)
    · skip
      have eb : pBr (sgv K u i) (sgv K u b) (decide (b = sgv R u i)) = false := by rw [hr9]; exact zb_0.mp h35
      have e9 : pBel K R u (pTxt K V R u n) i b = pTxt K V R u n b := by rw [pBel, eb]; rfl
      refine z_aload_n X d_Prt_printBelow_48 rfl ?_
      refine z_aload_n X d_Prt_printBelow_49 rfl ?_
      refine z_iload_n X d_Prt_printBelow_50 rfl ?_
      refine z_iload X d_Prt_printBelow_51 rfl ?_
      refine z_iconst X d_Prt_printBelow_53 (v := 1) (by decide) ?_
      refine z_iadd X d_Prt_printBelow_54 ?_
      refine z_callV X zG_ok (hN _ _ _ b (x + 1) hP (by repeat (first | with_reducible exact hl | with_reducible apply pPut_len | with_reducible apply pAdd_len)) (by rw [hx, show nI (39 - n) + 1 = nI (39 - n + 1) from nI_1 _, show 39 - n + 1 = 40 - n by omega])) d_Prt_printBelow_55 ⟨(z_cb (n := 3) X.2.2.2.2.1 ml_Prt_21 mc_Prt_printNode ini_Prt (by decide +kernel) rfl rfl (zR_le (by omega) (by decide))), X.2.2.2.2.1 _ im_Prt_printNode, X.2.2.2.2.1 _ sel_Prt_printNode⟩ (hP.lo 0 rfl) (hP.at 0 rfl) cl_Prt rfl rfl (Nat.le_of_ble_eq_true rfl) ⟨Nat.le_of_ble_eq_true rfl, Nat.le_of_ble_eq_true rfl⟩ (fun r N1 f1 hp hN1 => ?_)
      obtain ⟨rfl, rfl, hP, hF1⟩ := hp
      have hF := hF.join hF1 (Nat.le_refl _) (fun _ h => Or.inl h)
      refine z_iload X d_Prt_printBelow_58 rfl ?_
      refine z_if_eq X 73 d_Prt_printBelow_60 (by decide) (fun h60 => ?_) (fun h60 => ?_)
      · skip
        have h60 := h60
        exact z_vret X d_Prt_printBelow_73 ⟨rfl, rfl, by first | exact absurd h60 h35 | exact absurd h35 h60 | (rw [e9]; (try simp only [pPut_app, pPut_1]); exact hP), hF⟩
      · skip
        have h60 := h60
        refine z_aload_n X d_Prt_printBelow_63 rfl ?_
        refine z_get X d_Prt_printBelow_64 (hP.lo 0 rfl) (hP.at 0 rfl) cl_Prt in_Prt 0 (by decide) fl_Prt_12 rfl rfl ?_
        refine z_bipush X d_Prt_printBelow_67 (v := 41) (by decide) ?_
        refine z_callV X zG_ok (c_Sgn_addT (hP.sub [1, 2] (by decide) rfl) (by repeat (first | with_reducible exact hl | with_reducible apply pPut_len | with_reducible apply pAdd_len))) d_Prt_printBelow_69 ⟨(z_cb (n := 1) X.2.2.2.2.1 ml_Prt_31 mc_Sgn_add ini_Sgn (by decide +kernel) rfl rfl (zR_le (by omega) (by decide))), X.2.2.2.2.1 _ im_Sgn_add, X.2.2.2.2.1 _ sel_Sgn_add⟩ (hP.lo 1 rfl) (hP.at 1 rfl) cl_Sgn rfl rfl (Nat.le_of_ble_eq_true rfl) ⟨Nat.le_of_ble_eq_true rfl, Nat.le_of_ble_eq_true rfl⟩ (fun r N1 f1 hp hN1 => ?_)
        obtain ⟨⟨y9, rfl⟩, rfl, hP1, hF1⟩ := hp
        have hP := hP.prt2 hP1 hF1
        have hF := hF.join hF1 (Nat.le_refl _) (fun _ h => Or.inl h)
        refine z_pop X d_Prt_printBelow_72 rfl ?_
        exact z_vret X d_Prt_printBelow_73 ⟨rfl, rfl, by first | exact absurd h60 h35 | exact absurd h35 h60 | (rw [e9]; (try simp only [pPut_app, pPut_1]); exact hP), hF⟩
    · skip
      have eb : pBr (sgv K u i) (sgv K u b) (decide (b = sgv R u i)) = true := by
        rw [hr9]
        cases hq : pBr (sgv K u i) (sgv K u b) true
        · exact absurd (zb_0.mpr hq) h35
        · rfl
      have e9 : pBel K R u (pTxt K V R u n) i b = [40] ++ (pTxt K V R u n b ++ [41]) := by rw [pBel, eb]; rfl
      refine z_aload_n X d_Prt_printBelow_38 rfl ?_
      refine z_get X d_Prt_printBelow_39 (hP.lo 0 rfl) (hP.at 0 rfl) cl_Prt in_Prt 0 (by decide) fl_Prt_12 rfl rfl ?_
      refine z_bipush X d_Prt_printBelow_42 (v := 40) (by decide) ?_
      refine z_callV X zG_ok (c_Sgn_addT (hP.sub [1, 2] (by decide) rfl) (by repeat (first | with_reducible exact hl | with_reducible apply pPut_len | with_reducible apply pAdd_len))) d_Prt_printBelow_44 ⟨(z_cb (n := 1) X.2.2.2.2.1 ml_Prt_31 mc_Sgn_add ini_Sgn (by decide +kernel) rfl rfl (zR_le (by omega) (by decide))), X.2.2.2.2.1 _ im_Sgn_add, X.2.2.2.2.1 _ sel_Sgn_add⟩ (hP.lo 1 rfl) (hP.at 1 rfl) cl_Sgn rfl rfl (Nat.le_of_ble_eq_true rfl) ⟨Nat.le_of_ble_eq_true rfl, Nat.le_of_ble_eq_true rfl⟩ (fun r N1 f1 hp hN1 => ?_)
      obtain ⟨⟨y9, rfl⟩, rfl, hP1, hF1⟩ := hp
      have hP := hP.prt2 hP1 hF1
      have hF := hF.join hF1 (Nat.le_refl _) (fun _ h => Or.inl h)
      refine z_pop X d_Prt_printBelow_47 rfl ?_
      refine z_aload_n X d_Prt_printBelow_48 rfl ?_
      refine z_aload_n X d_Prt_printBelow_49 rfl ?_
      refine z_iload_n X d_Prt_printBelow_50 rfl ?_
      refine z_iload X d_Prt_printBelow_51 rfl ?_
      refine z_iconst X d_Prt_printBelow_53 (v := 1) (by decide) ?_
      refine z_iadd X d_Prt_printBelow_54 ?_
      refine z_callV X zG_ok (hN _ _ _ b (x + 1) hP (by repeat (first | with_reducible exact hl | with_reducible apply pPut_len | with_reducible apply pAdd_len)) (by rw [hx, show nI (39 - n) + 1 = nI (39 - n + 1) from nI_1 _, show 39 - n + 1 = 40 - n by omega])) d_Prt_printBelow_55 ⟨(z_cb (n := 3) X.2.2.2.2.1 ml_Prt_21 mc_Prt_printNode ini_Prt (by decide +kernel) rfl rfl (zR_le (by omega) (by decide))), X.2.2.2.2.1 _ im_Prt_printNode, X.2.2.2.2.1 _ sel_Prt_printNode⟩ (hP.lo 0 rfl) (hP.at 0 rfl) cl_Prt rfl rfl (Nat.le_of_ble_eq_true rfl) ⟨Nat.le_of_ble_eq_true rfl, Nat.le_of_ble_eq_true rfl⟩ (fun r N1 f1 hp hN1 => ?_)
      obtain ⟨rfl, rfl, hP, hF1⟩ := hp
      have hF := hF.join hF1 (Nat.le_refl _) (fun _ h => Or.inl h)
      refine z_iload X d_Prt_printBelow_58 rfl ?_
      refine z_if_eq X 73 d_Prt_printBelow_60 (by decide) (fun h60 => ?_) (fun h60 => ?_)
      · skip
        have h60 := h60
        exact z_vret X d_Prt_printBelow_73 ⟨rfl, rfl, by first | exact absurd h60 h35 | exact absurd h35 h60 | (rw [e9]; (try simp only [pPut_app, pPut_1]); exact hP), hF⟩
      · skip
        have h60 := h60
        refine z_aload_n X d_Prt_printBelow_63 rfl ?_
        refine z_get X d_Prt_printBelow_64 (hP.lo 0 rfl) (hP.at 0 rfl) cl_Prt in_Prt 0 (by decide) fl_Prt_12 rfl rfl ?_
        refine z_bipush X d_Prt_printBelow_67 (v := 41) (by decide) ?_
        refine z_callV X zG_ok (c_Sgn_addT (hP.sub [1, 2] (by decide) rfl) (by repeat (first | with_reducible exact hl | with_reducible apply pPut_len | with_reducible apply pAdd_len))) d_Prt_printBelow_69 ⟨(z_cb (n := 1) X.2.2.2.2.1 ml_Prt_31 mc_Sgn_add ini_Sgn (by decide +kernel) rfl rfl (zR_le (by omega) (by decide))), X.2.2.2.2.1 _ im_Sgn_add, X.2.2.2.2.1 _ sel_Sgn_add⟩ (hP.lo 1 rfl) (hP.at 1 rfl) cl_Sgn rfl rfl (Nat.le_of_ble_eq_true rfl) ⟨Nat.le_of_ble_eq_true rfl, Nat.le_of_ble_eq_true rfl⟩ (fun r N1 f1 hp hN1 => ?_)
        obtain ⟨⟨y9, rfl⟩, rfl, hP1, hF1⟩ := hp
        have hP := hP.prt2 hP1 hF1
        have hF := hF.join hF1 (Nat.le_refl _) (fun _ h => Or.inl h)
        refine z_pop X d_Prt_printBelow_72 rfl ?_
        exact z_vret X d_Prt_printBelow_73 ⟨rfl, rfl, by first | exact absurd h60 h35 | exact absurd h35 h60 | (rw [e9]; (try simp only [pPut_app, pPut_1]); exact hP), hF⟩
set_option maxHeartbeats 4000000 in
set_option maxRecDepth 100000 in
theorem c_Prt_printBelow_false {n9 : Nat} {K V R : Nat → Int32} {u : Nat} (hP : zP b0 N f (wPT ck A ps n9 K V R u)) (hl : ps.2 ≤ 200) (hu : u ≤ n9) (hn : n9 ≤ 40) {n : Nat} (hn39 : n ≤ 39) (hN : pN l D ck ad b0 A n9 K V R u n) {i b x : Int32} (hx : x = nI (39 - n)) (hr9 : decide (b = sgv R u i) = false) : zK l D ck ad b0 y_Prt_printBelow prog_3_method_4_code 7 (none) (2 * n + 7) 0 0 [.ref (A 0), .ref (A 3), .int i, .int b, .int x] N f (fun r N' f' => r = none ∧ N = N' ∧ zP b0 N f' (wPT ck A (pPut (pBel K R u (pTxt K V R u n) i b) ps) n9 K V R u) ∧ zF N f f' [A 1, A 2]) := by
  refine zM.of zG_w (by decide) (Nat.le_of_ble_eq_true rfl) ?_
  intro zp ze zst zm zar zbe zme zc X hnm hb0
  have hF : zF N f f [A 1, A 2] := zF.rf
  refine z_iload_n X d_Prt_printBelow_0 rfl ?_
  refine z_aload_n X d_Prt_printBelow_1 rfl ?_
  refine z_iload_n X d_Prt_printBelow_2 rfl ?_
  refine z_callV X zG_ok (c_Tre_rightOf (hP.sub (wc := wTre ck (A 3) (A 4) (A 5) (A 6) n9 K V R u) [3, 4, 5, 6] (by decide) rfl) hu hn) d_Prt_printBelow_3 ⟨(z_cb (n := 1) X.2.2.2.2.1 ml_Prt_61 mc_Tre_rightOf ini_Tre (by decide +kernel) rfl rfl (zR_le (by omega) (by decide))), X.2.2.2.2.1 _ im_Tre_rightOf, X.2.2.2.2.1 _ sel_Tre_rightOf⟩ (hP.lo 3 rfl) (hP.at 3 rfl) cl_Tre rfl rfl (Nat.le_of_ble_eq_true rfl) ⟨Nat.le_of_ble_eq_true rfl, Nat.le_of_ble_eq_true rfl⟩ (fun r N1 f1 hp hN1 => ?_)
  obtain ⟨rfl, rfl, rfl⟩ := hp
  refine z_icmp_ne X 13 d_Prt_printBelow_6 (by decide) (fun h6 => ?_) (fun h6 => ?_)
  · skip
    refine z_iconst X d_Prt_printBelow_13 (v := 0) (by decide) ?_
    refine z_istore X d_Prt_printBelow_14 (by decide) rfl ?_
    refine z_aload_n X d_Prt_printBelow_16 rfl ?_
    refine z_iload_n X d_Prt_printBelow_17 rfl ?_
    refine z_callV X zG_ok (c_Tre_kindOf (hP.sub (wc := wTre ck (A 3) (A 4) (A 5) (A 6) n9 K V R u) [3, 4, 5, 6] (by decide) rfl) hu hn) d_Prt_printBelow_18 ⟨(z_cb (n := 1) X.2.2.2.2.1 ml_Prt_25 mc_Tre_kindOf ini_Tre (by decide +kernel) rfl rfl (zR_le (by omega) (by decide))), X.2.2.2.2.1 _ im_Tre_kindOf, X.2.2.2.2.1 _ sel_Tre_kindOf⟩ (hP.lo 3 rfl) (hP.at 3 rfl) cl_Tre rfl rfl (Nat.le_of_ble_eq_true rfl) ⟨Nat.le_of_ble_eq_true rfl, Nat.le_of_ble_eq_true rfl⟩ (fun r N1 f1 hp hN1 => ?_)
    obtain ⟨rfl, rfl, rfl⟩ := hp
    refine z_aload_n X d_Prt_printBelow_21 rfl ?_
    refine z_iload_n X d_Prt_printBelow_22 rfl ?_
    refine z_callV X zG_ok (c_Tre_kindOf (hP.sub (wc := wTre ck (A 3) (A 4) (A 5) (A 6) n9 K V R u) [3, 4, 5, 6] (by decide) rfl) hu hn) d_Prt_printBelow_23 ⟨(z_cb (n := 1) X.2.2.2.2.1 ml_Prt_25 mc_Tre_kindOf ini_Tre (by decide +kernel) rfl rfl (zR_le (by omega) (by decide))), X.2.2.2.2.1 _ im_Tre_kindOf, X.2.2.2.2.1 _ sel_Tre_kindOf⟩ (hP.lo 3 rfl) (hP.at 3 rfl) cl_Tre rfl rfl (Nat.le_of_ble_eq_true rfl) ⟨Nat.le_of_ble_eq_true rfl, Nat.le_of_ble_eq_true rfl⟩ (fun r N1 f1 hp hN1 => ?_)
    obtain ⟨rfl, rfl, rfl⟩ := hp
    refine z_iload X d_Prt_printBelow_26 rfl ?_
    refine z_callS X zG_ok (c_Prt_needsBrackets (bb := false)) d_Prt_printBelow_28 ⟨(z_cb (n := 3) X.2.2.2.2.1 ml_Prt_64 mc_Prt_needsBrackets ini_Prt (by decide +kernel) rfl rfl (zR_le (by omega) (by decide))), X.2.2.2.2.1 _ st_Prt_needsBrackets⟩ rfl rfl (Nat.le_of_ble_eq_true rfl) ⟨Nat.le_of_ble_eq_true rfl, Nat.le_of_ble_eq_true rfl⟩ (fun r N1 f1 hp hN1 => ?_)
    obtain ⟨rfl, rfl, rfl⟩ := hp
    refine z_istore X d_Prt_printBelow_31 (by decide) rfl ?_
    refine z_iload X d_Prt_printBelow_33 rfl ?_
    refine z_if_eq X 48 d_Prt_printBelow_35 (by decide) (fun h35 => ?_) (fun h35 => ?_)
    · skip
      have eb : pBr (sgv K u i) (sgv K u b) (decide (b = sgv R u i)) = false := by rw [hr9]; exact zb_0.mp h35
      have e9 : pBel K R u (pTxt K V R u n) i b = pTxt K V R u n b := by rw [pBel, eb]; rfl
      refine z_aload_n X d_Prt_printBelow_48 rfl ?_
      refine z_aload_n X d_Prt_printBelow_49 rfl ?_
      refine z_iload_n X d_Prt_printBelow_50 rfl ?_
      refine z_iload X d_Prt_printBelow_51 rfl ?_
      refine z_iconst X d_Prt_printBelow_53 (v := 1) (by decide) ?_
      refine z_iadd X d_Prt_printBelow_54 ?_
      refine z_callV X zG_ok (hN _ _ _ b (x + 1) hP (by repeat (first | with_reducible exact hl | with_reducible apply pPut_len | with_reducible apply pAdd_len)) (by rw [hx, show nI (39 - n) + 1 = nI (39 - n + 1) from nI_1 _, show 39 - n + 1 = 40 - n by omega])) d_Prt_printBelow_55 ⟨(z_cb (n := 3) X.2.2.2.2.1 ml_Prt_21 mc_Prt_printNode ini_Prt (by decide +kernel) rfl rfl (zR_le (by omega) (by decide))), X.2.2.2.2.1 _ im_Prt_printNode, X.2.2.2.2.1 _ sel_Prt_printNode⟩ (hP.lo 0 rfl) (hP.at 0 rfl) cl_Prt rfl rfl (Nat.le_of_ble_eq_true rfl) ⟨Nat.le_of_ble_eq_true rfl, Nat.le_of_ble_eq_true rfl⟩ (fun r N1 f1 hp hN1 => ?_)
      obtain ⟨rfl, rfl, hP, hF1⟩ := hp
      have hF := hF.join hF1 (Nat.le_refl _) (fun _ h => Or.inl h)
      refine z_iload X d_Prt_printBelow_58 rfl ?_
      refine z_if_eq X 73 d_Prt_printBelow_60 (by decide) (fun h60 => ?_) (fun h60 => ?_)
      · skip
        have h60 := h60
        exact z_vret X d_Prt_printBelow_73 ⟨rfl, rfl, by first | exact absurd h60 h35 | exact absurd h35 h60 | (rw [e9]; (try simp only [pPut_app, pPut_1]); exact hP), hF⟩
      · skip
        have h60 := h60
        refine z_aload_n X d_Prt_printBelow_63 rfl ?_
        refine z_get X d_Prt_printBelow_64 (hP.lo 0 rfl) (hP.at 0 rfl) cl_Prt in_Prt 0 (by decide) fl_Prt_12 rfl rfl ?_
        refine z_bipush X d_Prt_printBelow_67 (v := 41) (by decide) ?_
        refine z_callV X zG_ok (c_Sgn_addT (hP.sub [1, 2] (by decide) rfl) (by repeat (first | with_reducible exact hl | with_reducible apply pPut_len | with_reducible apply pAdd_len))) d_Prt_printBelow_69 ⟨(z_cb (n := 1) X.2.2.2.2.1 ml_Prt_31 mc_Sgn_add ini_Sgn (by decide +kernel) rfl rfl (zR_le (by omega) (by decide))), X.2.2.2.2.1 _ im_Sgn_add, X.2.2.2.2.1 _ sel_Sgn_add⟩ (hP.lo 1 rfl) (hP.at 1 rfl) cl_Sgn rfl rfl (Nat.le_of_ble_eq_true rfl) ⟨Nat.le_of_ble_eq_true rfl, Nat.le_of_ble_eq_true rfl⟩ (fun r N1 f1 hp hN1 => ?_)
        obtain ⟨⟨y9, rfl⟩, rfl, hP1, hF1⟩ := hp
        have hP := hP.prt2 hP1 hF1
        have hF := hF.join hF1 (Nat.le_refl _) (fun _ h => Or.inl h)
        refine z_pop X d_Prt_printBelow_72 rfl ?_
        exact z_vret X d_Prt_printBelow_73 ⟨rfl, rfl, by first | exact absurd h60 h35 | exact absurd h35 h60 | (rw [e9]; (try simp only [pPut_app, pPut_1]); exact hP), hF⟩
    · skip
      have eb : pBr (sgv K u i) (sgv K u b) (decide (b = sgv R u i)) = true := by
        rw [hr9]
        cases hq : pBr (sgv K u i) (sgv K u b) false
        · exact absurd (zb_0.mpr hq) h35
        · rfl
      have e9 : pBel K R u (pTxt K V R u n) i b = [40] ++ (pTxt K V R u n b ++ [41]) := by rw [pBel, eb]; rfl
      refine z_aload_n X d_Prt_printBelow_38 rfl ?_
      refine z_get X d_Prt_printBelow_39 (hP.lo 0 rfl) (hP.at 0 rfl) cl_Prt in_Prt 0 (by decide) fl_Prt_12 rfl rfl ?_
      refine z_bipush X d_Prt_printBelow_42 (v := 40) (by decide) ?_
      refine z_callV X zG_ok (c_Sgn_addT (hP.sub [1, 2] (by decide) rfl) (by repeat (first | with_reducible exact hl | with_reducible apply pPut_len | with_reducible apply pAdd_len))) d_Prt_printBelow_44 ⟨(z_cb (n := 1) X.2.2.2.2.1 ml_Prt_31 mc_Sgn_add ini_Sgn (by decide +kernel) rfl rfl (zR_le (by omega) (by decide))), X.2.2.2.2.1 _ im_Sgn_add, X.2.2.2.2.1 _ sel_Sgn_add⟩ (hP.lo 1 rfl) (hP.at 1 rfl) cl_Sgn rfl rfl (Nat.le_of_ble_eq_true rfl) ⟨Nat.le_of_ble_eq_true rfl, Nat.le_of_ble_eq_true rfl⟩ (fun r N1 f1 hp hN1 => ?_)
      obtain ⟨⟨y9, rfl⟩, rfl, hP1, hF1⟩ := hp
      have hP := hP.prt2 hP1 hF1
      have hF := hF.join hF1 (Nat.le_refl _) (fun _ h => Or.inl h)
      refine z_pop X d_Prt_printBelow_47 rfl ?_
      refine z_aload_n X d_Prt_printBelow_48 rfl ?_
      refine z_aload_n X d_Prt_printBelow_49 rfl ?_
      refine z_iload_n X d_Prt_printBelow_50 rfl ?_
      refine z_iload X d_Prt_printBelow_51 rfl ?_
      refine z_iconst X d_Prt_printBelow_53 (v := 1) (by decide) ?_
      refine z_iadd X d_Prt_printBelow_54 ?_
      refine z_callV X zG_ok (hN _ _ _ b (x + 1) hP (by repeat (first | with_reducible exact hl | with_reducible apply pPut_len | with_reducible apply pAdd_len)) (by rw [hx, show nI (39 - n) + 1 = nI (39 - n + 1) from nI_1 _, show 39 - n + 1 = 40 - n by omega])) d_Prt_printBelow_55 ⟨(z_cb (n := 3) X.2.2.2.2.1 ml_Prt_21 mc_Prt_printNode ini_Prt (by decide +kernel) rfl rfl (zR_le (by omega) (by decide))), X.2.2.2.2.1 _ im_Prt_printNode, X.2.2.2.2.1 _ sel_Prt_printNode⟩ (hP.lo 0 rfl) (hP.at 0 rfl) cl_Prt rfl rfl (Nat.le_of_ble_eq_true rfl) ⟨Nat.le_of_ble_eq_true rfl, Nat.le_of_ble_eq_true rfl⟩ (fun r N1 f1 hp hN1 => ?_)
      obtain ⟨rfl, rfl, hP, hF1⟩ := hp
      have hF := hF.join hF1 (Nat.le_refl _) (fun _ h => Or.inl h)
      refine z_iload X d_Prt_printBelow_58 rfl ?_
      refine z_if_eq X 73 d_Prt_printBelow_60 (by decide) (fun h60 => ?_) (fun h60 => ?_)
      · skip
        have h60 := h60
        exact z_vret X d_Prt_printBelow_73 ⟨rfl, rfl, by first | exact absurd h60 h35 | exact absurd h35 h60 | (rw [e9]; (try simp only [pPut_app, pPut_1]); exact hP), hF⟩
      · skip
        have h60 := h60
        refine z_aload_n X d_Prt_printBelow_63 rfl ?_
        refine z_get X d_Prt_printBelow_64 (hP.lo 0 rfl) (hP.at 0 rfl) cl_Prt in_Prt 0 (by decide) fl_Prt_12 rfl rfl ?_
        refine z_bipush X d_Prt_printBelow_67 (v := 41) (by decide) ?_
        refine z_callV X zG_ok (c_Sgn_addT (hP.sub [1, 2] (by decide) rfl) (by repeat (first | with_reducible exact hl | with_reducible apply pPut_len | with_reducible apply pAdd_len))) d_Prt_printBelow_69 ⟨(z_cb (n := 1) X.2.2.2.2.1 ml_Prt_31 mc_Sgn_add ini_Sgn (by decide +kernel) rfl rfl (zR_le (by omega) (by decide))), X.2.2.2.2.1 _ im_Sgn_add, X.2.2.2.2.1 _ sel_Sgn_add⟩ (hP.lo 1 rfl) (hP.at 1 rfl) cl_Sgn rfl rfl (Nat.le_of_ble_eq_true rfl) ⟨Nat.le_of_ble_eq_true rfl, Nat.le_of_ble_eq_true rfl⟩ (fun r N1 f1 hp hN1 => ?_)
        obtain ⟨⟨y9, rfl⟩, rfl, hP1, hF1⟩ := hp
        have hP := hP.prt2 hP1 hF1
        have hF := hF.join hF1 (Nat.le_refl _) (fun _ h => Or.inl h)
        refine z_pop X d_Prt_printBelow_72 rfl ?_
        exact z_vret X d_Prt_printBelow_73 ⟨rfl, rfl, by first | exact absurd h60 h35 | exact absurd h35 h60 | (rw [e9]; (try simp only [pPut_app, pPut_1]); exact hP), hF⟩
  · skip
    exact absurd h6 (of_decide_eq_false hr9)
set_option maxHeartbeats 4000000 in
set_option maxRecDepth 100000 in
theorem c_Prt_printBelow {n9 : Nat} {K V R : Nat → Int32} {u : Nat} (hP : zP b0 N f (wPT ck A ps n9 K V R u)) (hl : ps.2 ≤ 200) (hu : u ≤ n9) (hn : n9 ≤ 40) {n : Nat} (hn39 : n ≤ 39) (hN : pN l D ck ad b0 A n9 K V R u n) {i b x : Int32} (hx : x = nI (39 - n)) : zK l D ck ad b0 y_Prt_printBelow prog_3_method_4_code 7 (none) (2 * n + 7) 0 0 [.ref (A 0), .ref (A 3), .int i, .int b, .int x] N f (fun r N' f' => r = none ∧ N = N' ∧ zP b0 N f' (wPT ck A (pPut (pBel K R u (pTxt K V R u n) i b) ps) n9 K V R u) ∧ zF N f f' [A 1, A 2]) := by
  cases hr9 : decide (b = sgv R u i)
  · exact c_Prt_printBelow_false hP hl hu hn hn39 hN hx hr9
  · exact c_Prt_printBelow_true hP hl hu hn hn39 hN hx hr9
theorem d_Prt_printNode_0 : decode prog_3_method_3_code 0 = .ok (.iload_n 3, 1) := by decide +kernel
theorem d_Prt_printNode_1 : decode prog_3_method_3_code 1 = .ok (.bipush 40, 2) := by decide +kernel
theorem d_Prt_printNode_3 : decode prog_3_method_3_code 3 = .ok (.if_icmp .lt 4, 3) := by decide +kernel
theorem d_Prt_printNode_6 : decode prog_3_method_3_code 6 = .ok (.return_, 1) := by decide +kernel
theorem d_Prt_printNode_7 : decode prog_3_method_3_code 7 = .ok (.aload_n 1, 1) := by decide +kernel
theorem d_Prt_printNode_8 : decode prog_3_method_3_code 8 = .ok (.iload_n 2, 1) := by decide +kernel
theorem d_Prt_printNode_9 : decode prog_3_method_3_code 9 = .ok (.invokevirtual 25, 3) := by decide +kernel
theorem d_Prt_printNode_12 : decode prog_3_method_3_code 12 = .ok (.istore 4, 2) := by decide +kernel
theorem d_Prt_printNode_14 : decode prog_3_method_3_code 14 = .ok (.iload 4, 2) := by decide +kernel
theorem d_Prt_printNode_16 : decode prog_3_method_3_code 16 = .ok (.tableswitch 149 2 14 #[68, 93, 93, 149, 149, 149, 149, 149, 149, 135, 135, 135, 135], 68) := by decide +kernel
theorem d_Prt_printNode_84 : decode prog_3_method_3_code 84 = .ok (.aload_n 0, 1) := by decide +kernel
theorem d_Prt_printNode_85 : decode prog_3_method_3_code 85 = .ok (.getfield 12, 3) := by decide +kernel
theorem d_Prt_printNode_88 : decode prog_3_method_3_code 88 = .ok (.bipush 33, 2) := by decide +kernel
theorem d_Prt_printNode_90 : decode prog_3_method_3_code 90 = .ok (.invokevirtual 31, 3) := by decide +kernel
theorem d_Prt_printNode_93 : decode prog_3_method_3_code 93 = .ok (.pop, 1) := by decide +kernel
theorem d_Prt_printNode_94 : decode prog_3_method_3_code 94 = .ok (.aload_n 0, 1) := by decide +kernel
theorem d_Prt_printNode_95 : decode prog_3_method_3_code 95 = .ok (.aload_n 1, 1) := by decide +kernel
theorem d_Prt_printNode_96 : decode prog_3_method_3_code 96 = .ok (.iload_n 2, 1) := by decide +kernel
theorem d_Prt_printNode_97 : decode prog_3_method_3_code 97 = .ok (.aload_n 1, 1) := by decide +kernel
theorem d_Prt_printNode_98 : decode prog_3_method_3_code 98 = .ok (.iload_n 2, 1) := by decide +kernel
theorem d_Prt_printNode_99 : decode prog_3_method_3_code 99 = .ok (.invokevirtual 35, 3) := by decide +kernel
theorem d_Prt_printNode_102 : decode prog_3_method_3_code 102 = .ok (.iload_n 3, 1) := by decide +kernel
theorem d_Prt_printNode_103 : decode prog_3_method_3_code 103 = .ok (.invokevirtual 38, 3) := by decide +kernel
theorem d_Prt_printNode_106 : decode prog_3_method_3_code 106 = .ok (.goto 89, 3) := by decide +kernel
theorem d_Prt_printNode_109 : decode prog_3_method_3_code 109 = .ok (.aload_n 0, 1) := by decide +kernel
theorem d_Prt_printNode_110 : decode prog_3_method_3_code 110 = .ok (.iload 4, 2) := by decide +kernel
theorem d_Prt_printNode_112 : decode prog_3_method_3_code 112 = .ok (.iconst 3, 1) := by decide +kernel
theorem d_Prt_printNode_113 : decode prog_3_method_3_code 113 = .ok (.if_icmp .ne 8, 3) := by decide +kernel
theorem d_Prt_printNode_116 : decode prog_3_method_3_code 116 = .ok (.ldc 42, 2) := by decide +kernel
theorem d_Prt_printNode_118 : decode prog_3_method_3_code 118 = .ok (.goto 5, 3) := by decide +kernel
theorem d_Prt_printNode_121 : decode prog_3_method_3_code 121 = .ok (.ldc 44, 2) := by decide +kernel
theorem d_Prt_printNode_123 : decode prog_3_method_3_code 123 = .ok (.invokevirtual 46, 3) := by decide +kernel
theorem d_Prt_printNode_126 : decode prog_3_method_3_code 126 = .ok (.aload_n 0, 1) := by decide +kernel
theorem d_Prt_printNode_127 : decode prog_3_method_3_code 127 = .ok (.aload_n 1, 1) := by decide +kernel
theorem d_Prt_printNode_128 : decode prog_3_method_3_code 128 = .ok (.iload_n 2, 1) := by decide +kernel
theorem d_Prt_printNode_129 : decode prog_3_method_3_code 129 = .ok (.aload_n 1, 1) := by decide +kernel
theorem d_Prt_printNode_130 : decode prog_3_method_3_code 130 = .ok (.iload_n 2, 1) := by decide +kernel
theorem d_Prt_printNode_131 : decode prog_3_method_3_code 131 = .ok (.invokevirtual 35, 3) := by decide +kernel
theorem d_Prt_printNode_134 : decode prog_3_method_3_code 134 = .ok (.iload_n 3, 1) := by decide +kernel
theorem d_Prt_printNode_135 : decode prog_3_method_3_code 135 = .ok (.invokevirtual 38, 3) := by decide +kernel
theorem d_Prt_printNode_138 : decode prog_3_method_3_code 138 = .ok (.aload_n 0, 1) := by decide +kernel
theorem d_Prt_printNode_139 : decode prog_3_method_3_code 139 = .ok (.getfield 12, 3) := by decide +kernel
theorem d_Prt_printNode_142 : decode prog_3_method_3_code 142 = .ok (.bipush 41, 2) := by decide +kernel
theorem d_Prt_printNode_144 : decode prog_3_method_3_code 144 = .ok (.invokevirtual 31, 3) := by decide +kernel
theorem d_Prt_printNode_147 : decode prog_3_method_3_code 147 = .ok (.pop, 1) := by decide +kernel
theorem d_Prt_printNode_148 : decode prog_3_method_3_code 148 = .ok (.goto 47, 3) := by decide +kernel
theorem d_Prt_printNode_151 : decode prog_3_method_3_code 151 = .ok (.aload_n 0, 1) := by decide +kernel
theorem d_Prt_printNode_152 : decode prog_3_method_3_code 152 = .ok (.iload 4, 2) := by decide +kernel
theorem d_Prt_printNode_154 : decode prog_3_method_3_code 154 = .ok (.aload_n 1, 1) := by decide +kernel
theorem d_Prt_printNode_155 : decode prog_3_method_3_code 155 = .ok (.iload_n 2, 1) := by decide +kernel
theorem d_Prt_printNode_156 : decode prog_3_method_3_code 156 = .ok (.invokevirtual 50, 3) := by decide +kernel
theorem d_Prt_printNode_159 : decode prog_3_method_3_code 159 = .ok (.invokevirtual 53, 3) := by decide +kernel
theorem d_Prt_printNode_162 : decode prog_3_method_3_code 162 = .ok (.goto 33, 3) := by decide +kernel
theorem d_Prt_printNode_165 : decode prog_3_method_3_code 165 = .ok (.aload_n 0, 1) := by decide +kernel
theorem d_Prt_printNode_166 : decode prog_3_method_3_code 166 = .ok (.aload_n 1, 1) := by decide +kernel
theorem d_Prt_printNode_167 : decode prog_3_method_3_code 167 = .ok (.iload_n 2, 1) := by decide +kernel
theorem d_Prt_printNode_168 : decode prog_3_method_3_code 168 = .ok (.aload_n 1, 1) := by decide +kernel
theorem d_Prt_printNode_169 : decode prog_3_method_3_code 169 = .ok (.iload_n 2, 1) := by decide +kernel
theorem d_Prt_printNode_170 : decode prog_3_method_3_code 170 = .ok (.invokevirtual 35, 3) := by decide +kernel
theorem d_Prt_printNode_173 : decode prog_3_method_3_code 173 = .ok (.iload_n 3, 1) := by decide +kernel
theorem d_Prt_printNode_174 : decode prog_3_method_3_code 174 = .ok (.invokevirtual 38, 3) := by decide +kernel
theorem d_Prt_printNode_177 : decode prog_3_method_3_code 177 = .ok (.aload_n 0, 1) := by decide +kernel
theorem d_Prt_printNode_178 : decode prog_3_method_3_code 178 = .ok (.iload 4, 2) := by decide +kernel
theorem d_Prt_printNode_180 : decode prog_3_method_3_code 180 = .ok (.invokevirtual 57, 3) := by decide +kernel
theorem d_Prt_printNode_183 : decode prog_3_method_3_code 183 = .ok (.aload_n 0, 1) := by decide +kernel
theorem d_Prt_printNode_184 : decode prog_3_method_3_code 184 = .ok (.aload_n 1, 1) := by decide +kernel
theorem d_Prt_printNode_185 : decode prog_3_method_3_code 185 = .ok (.iload_n 2, 1) := by decide +kernel
theorem d_Prt_printNode_186 : decode prog_3_method_3_code 186 = .ok (.aload_n 1, 1) := by decide +kernel
theorem d_Prt_printNode_187 : decode prog_3_method_3_code 187 = .ok (.iload_n 2, 1) := by decide +kernel
theorem d_Prt_printNode_188 : decode prog_3_method_3_code 188 = .ok (.invokevirtual 61, 3) := by decide +kernel
theorem d_Prt_printNode_191 : decode prog_3_method_3_code 191 = .ok (.iload_n 3, 1) := by decide +kernel
theorem d_Prt_printNode_192 : decode prog_3_method_3_code 192 = .ok (.invokevirtual 38, 3) := by decide +kernel
theorem d_Prt_printNode_195 : decode prog_3_method_3_code 195 = .ok (.return_, 1) := by decide +kernel
set_option maxHeartbeats 4000000 in
set_option maxRecDepth 100000 in
theorem c_Prt_printNodeS {n9 : Nat} {K V R : Nat → Int32} {u : Nat} (hP : zP b0 N f (wPT ck A ps n9 K V R u)) (hl : ps.2 ≤ 200) (hu : u ≤ n9) (hn : n9 ≤ 40) {n : Nat} (hn39 : n ≤ 39) (hN : pN l D ck ad b0 A n9 K V R u n) {q0 x : Int32} (hx9 : x = nI (39 - n)) : zK l D ck ad b0 y_Prt_printNode prog_3_method_3_code 5 (none) (2 * n + 8) 0 0 [.ref (A 0), .ref (A 3), .int q0, .int x] N f (fun r N' f' => r = none ∧ N = N' ∧ zP b0 N f' (wPT ck A (pPut (pTxt K V R u (n + 1) q0) ps) n9 K V R u) ∧ zF N f f' [A 1, A 2]) := by
  refine zM.of zG_w (by decide) (Nat.le_of_ble_eq_true rfl) ?_
  intro zp ze zst zm zar zbe zme zc X hnm hb0
  have hF : zF N f f [A 1, A 2] := zF.rf
  refine z_iload_n X d_Prt_printNode_0 rfl ?_
  refine z_bipush X d_Prt_printNode_1 (v := 40) (by decide) ?_
  refine z_icmp_lt X 7 d_Prt_printNode_3 (by decide) (fun h3 => ?_) (fun h3 => ?_)
  · skip
    refine z_aload_n X d_Prt_printNode_7 rfl ?_
    refine z_iload_n X d_Prt_printNode_8 rfl ?_
    refine z_callV X zG_ok (c_Tre_kindOf (hP.sub (wc := wTre ck (A 3) (A 4) (A 5) (A 6) n9 K V R u) [3, 4, 5, 6] (by decide) rfl) hu hn) d_Prt_printNode_9 ⟨(z_cb (n := 1) X.2.2.2.2.1 ml_Prt_25 mc_Tre_kindOf ini_Tre (by decide +kernel) rfl rfl (zR_le (by omega) (by decide))), X.2.2.2.2.1 _ im_Tre_kindOf, X.2.2.2.2.1 _ sel_Tre_kindOf⟩ (hP.lo 3 rfl) (hP.at 3 rfl) cl_Tre rfl rfl (Nat.le_of_ble_eq_true rfl) ⟨Nat.le_of_ble_eq_true rfl, Nat.le_of_ble_eq_true rfl⟩ (fun r N1 f1 hp hN1 => ?_)
    obtain ⟨rfl, rfl, rfl⟩ := hp
    refine z_istore X d_Prt_printNode_12 (by decide) rfl ?_
    refine z_iload X d_Prt_printNode_14 rfl ?_
    refine z_tableL X 165 [84, 109, 109, 165, 165, 165, 165, 165, 165, 151, 151, 151, 151] d_Prt_printNode_16 (by decide) (by decide) (by decide) (fun i hi hx => ?_) (fun hd => ?_) (by decide)
    · match i, hi, hx with
      | 0, _, hx =>
        have g16 : _ = (2 : Int32) := hx
        have g16 : sgv K u q0 = 2 := g16
        have e8 : pTxt K V R u (n + 1) q0 = [33] ++ pBel K R u (pTxt K V R u n) q0 (tleft K u q0) := by rw [pTxt, g16]; rfl
        refine zW.topc (pc' := 84) rfl ?_
        refine z_aload_n X d_Prt_printNode_84 rfl ?_
        refine z_get X d_Prt_printNode_85 (hP.lo 0 rfl) (hP.at 0 rfl) cl_Prt in_Prt 0 (by decide) fl_Prt_12 rfl rfl ?_
        refine z_bipush X d_Prt_printNode_88 (v := 33) (by decide) ?_
        refine z_callV X zG_ok (c_Sgn_addT (hP.sub [1, 2] (by decide) rfl) (by repeat (first | with_reducible exact hl | with_reducible apply pPut_len | with_reducible apply pAdd_len))) d_Prt_printNode_90 ⟨(z_cb (n := 1) X.2.2.2.2.1 ml_Prt_31 mc_Sgn_add ini_Sgn (by decide +kernel) rfl rfl (zR_le (by omega) (by decide))), X.2.2.2.2.1 _ im_Sgn_add, X.2.2.2.2.1 _ sel_Sgn_add⟩ (hP.lo 1 rfl) (hP.at 1 rfl) cl_Sgn rfl rfl (Nat.le_of_ble_eq_true rfl) ⟨Nat.le_of_ble_eq_true rfl, Nat.le_of_ble_eq_true rfl⟩ (fun r N1 f1 hp hN1 => ?_)
        obtain ⟨⟨y9, rfl⟩, rfl, hP1, hF1⟩ := hp
        have hP := hP.prt2 hP1 hF1
        have hF := hF.join hF1 (Nat.le_refl _) (fun _ h => Or.inl h)
        refine z_pop X d_Prt_printNode_93 rfl ?_
        refine z_aload_n X d_Prt_printNode_94 rfl ?_
        refine z_aload_n X d_Prt_printNode_95 rfl ?_
        refine z_iload_n X d_Prt_printNode_96 rfl ?_
        refine z_aload_n X d_Prt_printNode_97 rfl ?_
        refine z_iload_n X d_Prt_printNode_98 rfl ?_
        refine z_callV X zG_ok (c_Tre_leftOf (hP.sub (wc := wTre ck (A 3) (A 4) (A 5) (A 6) n9 K V R u) [3, 4, 5, 6] (by decide) rfl) hu hn) d_Prt_printNode_99 ⟨(z_cb (n := 1) X.2.2.2.2.1 ml_Prt_35 mc_Tre_leftOf ini_Tre (by decide +kernel) rfl rfl (zR_le (by omega) (by decide))), X.2.2.2.2.1 _ im_Tre_leftOf, X.2.2.2.2.1 _ sel_Tre_leftOf⟩ (hP.lo 3 rfl) (hP.at 3 rfl) cl_Tre rfl rfl (Nat.le_of_ble_eq_true rfl) ⟨Nat.le_of_ble_eq_true rfl, Nat.le_of_ble_eq_true rfl⟩ (fun r N1 f1 hp hN1 => ?_)
        obtain ⟨rfl, rfl, rfl⟩ := hp
        refine z_iload_n X d_Prt_printNode_102 rfl ?_
        refine z_callV X zG_ok (c_Prt_printBelow hP (by repeat (first | with_reducible exact hl | with_reducible apply pPut_len | with_reducible apply pAdd_len)) hu hn hn39 hN hx9) d_Prt_printNode_103 ⟨(z_cb (n := 4) X.2.2.2.2.1 ml_Prt_38 mc_Prt_printBelow ini_Prt (by decide +kernel) rfl rfl (zR_le (by omega) (by decide))), X.2.2.2.2.1 _ im_Prt_printBelow, X.2.2.2.2.1 _ sel_Prt_printBelow⟩ (hP.lo 0 rfl) (hP.at 0 rfl) cl_Prt rfl rfl (Nat.le_of_ble_eq_true rfl) ⟨Nat.le_of_ble_eq_true rfl, Nat.le_of_ble_eq_true rfl⟩ (fun r N1 f1 hp hN1 => ?_)
        obtain ⟨rfl, rfl, hP, hF1⟩ := hp
        have hF := hF.join hF1 (Nat.le_refl _) (fun _ h => Or.inl h)
        refine z_goto X 195 d_Prt_printNode_106 (by decide) ?_
        exact z_vret X d_Prt_printNode_195 ⟨rfl, rfl, by first | exact absurd g16 h113 | exact absurd h113 (ne4 g16) | (rw [e8]; (try simp only [pPut_app, pPut_1]); exact hP), hF⟩
      | 1, _, hx =>
        have g16 : _ = (3 : Int32) := hx
        have g16 : sgv K u q0 = 3 := g16
        have e8 : pTxt K V R u (n + 1) q0 = zSb 10 ++ (pBel K R u (pTxt K V R u n) q0 (tleft K u q0) ++ [41]) := by rw [pTxt, g16]; rfl
        refine zW.topc (pc' := 109) rfl ?_
        refine z_aload_n X d_Prt_printNode_109 rfl ?_
        refine z_iload X d_Prt_printNode_110 rfl ?_
        refine z_iconst X d_Prt_printNode_112 (v := 3) (by decide) ?_
        refine z_icmp_ne X 121 d_Prt_printNode_113 (by decide) (fun h113 => ?_) (fun h113 => ?_)
        · skip
          have h113 := h113
          refine z_ldcS X d_Prt_printNode_121 (zG_sr (j := 11) X.2.2.2.2.2.1 (by decide)) ?_
          refine z_callV X zG_ok (c_Prt_addWord (j := 11) (hP.sub (wc := wPr ck A ps) [0, 1, 2] (by decide) rfl) hl (by decide)) d_Prt_printNode_123 ⟨(z_cb (n := 1) X.2.2.2.2.1 ml_Prt_46 mc_Prt_addWord ini_Prt (by decide +kernel) rfl rfl (zR_le (by omega) (by decide))), X.2.2.2.2.1 _ im_Prt_addWord, X.2.2.2.2.1 _ sel_Prt_addWord⟩ (hP.lo 0 rfl) (hP.at 0 rfl) cl_Prt rfl rfl (Nat.le_of_ble_eq_true rfl) ⟨Nat.le_of_ble_eq_true rfl, Nat.le_of_ble_eq_true rfl⟩ (fun r N1 f1 hp hN1 => ?_)
          obtain ⟨rfl, rfl, hP1, hF1⟩ := hp
          have hP := hP.prt hP1 hF1
          have hF := hF.join hF1 (Nat.le_refl _) (fun _ h => Or.inl h)
          refine z_aload_n X d_Prt_printNode_126 rfl ?_
          refine z_aload_n X d_Prt_printNode_127 rfl ?_
          refine z_iload_n X d_Prt_printNode_128 rfl ?_
          refine z_aload_n X d_Prt_printNode_129 rfl ?_
          refine z_iload_n X d_Prt_printNode_130 rfl ?_
          refine z_callV X zG_ok (c_Tre_leftOf (hP.sub (wc := wTre ck (A 3) (A 4) (A 5) (A 6) n9 K V R u) [3, 4, 5, 6] (by decide) rfl) hu hn) d_Prt_printNode_131 ⟨(z_cb (n := 1) X.2.2.2.2.1 ml_Prt_35 mc_Tre_leftOf ini_Tre (by decide +kernel) rfl rfl (zR_le (by omega) (by decide))), X.2.2.2.2.1 _ im_Tre_leftOf, X.2.2.2.2.1 _ sel_Tre_leftOf⟩ (hP.lo 3 rfl) (hP.at 3 rfl) cl_Tre rfl rfl (Nat.le_of_ble_eq_true rfl) ⟨Nat.le_of_ble_eq_true rfl, Nat.le_of_ble_eq_true rfl⟩ (fun r N1 f1 hp hN1 => ?_)
          obtain ⟨rfl, rfl, rfl⟩ := hp
          refine z_iload_n X d_Prt_printNode_134 rfl ?_
          refine z_callV X zG_ok (c_Prt_printBelow hP (by repeat (first | with_reducible exact hl | with_reducible apply pPut_len | with_reducible apply pAdd_len)) hu hn hn39 hN hx9) d_Prt_printNode_135 ⟨(z_cb (n := 4) X.2.2.2.2.1 ml_Prt_38 mc_Prt_printBelow ini_Prt (by decide +kernel) rfl rfl (zR_le (by omega) (by decide))), X.2.2.2.2.1 _ im_Prt_printBelow, X.2.2.2.2.1 _ sel_Prt_printBelow⟩ (hP.lo 0 rfl) (hP.at 0 rfl) cl_Prt rfl rfl (Nat.le_of_ble_eq_true rfl) ⟨Nat.le_of_ble_eq_true rfl, Nat.le_of_ble_eq_true rfl⟩ (fun r N1 f1 hp hN1 => ?_)
          obtain ⟨rfl, rfl, hP, hF1⟩ := hp
          have hF := hF.join hF1 (Nat.le_refl _) (fun _ h => Or.inl h)
          refine z_aload_n X d_Prt_printNode_138 rfl ?_
          refine z_get X d_Prt_printNode_139 (hP.lo 0 rfl) (hP.at 0 rfl) cl_Prt in_Prt 0 (by decide) fl_Prt_12 rfl rfl ?_
          refine z_bipush X d_Prt_printNode_142 (v := 41) (by decide) ?_
          refine z_callV X zG_ok (c_Sgn_addT (hP.sub [1, 2] (by decide) rfl) (by repeat (first | with_reducible exact hl | with_reducible apply pPut_len | with_reducible apply pAdd_len))) d_Prt_printNode_144 ⟨(z_cb (n := 1) X.2.2.2.2.1 ml_Prt_31 mc_Sgn_add ini_Sgn (by decide +kernel) rfl rfl (zR_le (by omega) (by decide))), X.2.2.2.2.1 _ im_Sgn_add, X.2.2.2.2.1 _ sel_Sgn_add⟩ (hP.lo 1 rfl) (hP.at 1 rfl) cl_Sgn rfl rfl (Nat.le_of_ble_eq_true rfl) ⟨Nat.le_of_ble_eq_true rfl, Nat.le_of_ble_eq_true rfl⟩ (fun r N1 f1 hp hN1 => ?_)
          obtain ⟨⟨y9, rfl⟩, rfl, hP1, hF1⟩ := hp
          have hP := hP.prt2 hP1 hF1
          have hF := hF.join hF1 (Nat.le_refl _) (fun _ h => Or.inl h)
          refine z_pop X d_Prt_printNode_147 rfl ?_
          refine z_goto X 195 d_Prt_printNode_148 (by decide) ?_
          exact z_vret X d_Prt_printNode_195 ⟨rfl, rfl, by first | exact absurd g16 h113 | exact absurd h113 (ne4 g16) | (rw [e8]; (try simp only [pPut_app, pPut_1]); exact hP), hF⟩
        · skip
          have h113 := h113
          refine z_ldcS X d_Prt_printNode_116 (zG_sr (j := 10) X.2.2.2.2.2.1 (by decide)) ?_
          refine z_goto X 123 d_Prt_printNode_118 (by decide) ?_
          refine z_callV X zG_ok (c_Prt_addWord (j := 10) (hP.sub (wc := wPr ck A ps) [0, 1, 2] (by decide) rfl) hl (by decide)) d_Prt_printNode_123 ⟨(z_cb (n := 1) X.2.2.2.2.1 ml_Prt_46 mc_Prt_addWord ini_Prt (by decide +kernel) rfl rfl (zR_le (by omega) (by decide))), X.2.2.2.2.1 _ im_Prt_addWord, X.2.2.2.2.1 _ sel_Prt_addWord⟩ (hP.lo 0 rfl) (hP.at 0 rfl) cl_Prt rfl rfl (Nat.le_of_ble_eq_true rfl) ⟨Nat.le_of_ble_eq_true rfl, Nat.le_of_ble_eq_true rfl⟩ (fun r N1 f1 hp hN1 => ?_)
          obtain ⟨rfl, rfl, hP1, hF1⟩ := hp
          have hP := hP.prt hP1 hF1
          have hF := hF.join hF1 (Nat.le_refl _) (fun _ h => Or.inl h)
          refine z_aload_n X d_Prt_printNode_126 rfl ?_
          refine z_aload_n X d_Prt_printNode_127 rfl ?_
          refine z_iload_n X d_Prt_printNode_128 rfl ?_
          refine z_aload_n X d_Prt_printNode_129 rfl ?_
          refine z_iload_n X d_Prt_printNode_130 rfl ?_
          refine z_callV X zG_ok (c_Tre_leftOf (hP.sub (wc := wTre ck (A 3) (A 4) (A 5) (A 6) n9 K V R u) [3, 4, 5, 6] (by decide) rfl) hu hn) d_Prt_printNode_131 ⟨(z_cb (n := 1) X.2.2.2.2.1 ml_Prt_35 mc_Tre_leftOf ini_Tre (by decide +kernel) rfl rfl (zR_le (by omega) (by decide))), X.2.2.2.2.1 _ im_Tre_leftOf, X.2.2.2.2.1 _ sel_Tre_leftOf⟩ (hP.lo 3 rfl) (hP.at 3 rfl) cl_Tre rfl rfl (Nat.le_of_ble_eq_true rfl) ⟨Nat.le_of_ble_eq_true rfl, Nat.le_of_ble_eq_true rfl⟩ (fun r N1 f1 hp hN1 => ?_)
          obtain ⟨rfl, rfl, rfl⟩ := hp
          refine z_iload_n X d_Prt_printNode_134 rfl ?_
          refine z_callV X zG_ok (c_Prt_printBelow hP (by repeat (first | with_reducible exact hl | with_reducible apply pPut_len | with_reducible apply pAdd_len)) hu hn hn39 hN hx9) d_Prt_printNode_135 ⟨(z_cb (n := 4) X.2.2.2.2.1 ml_Prt_38 mc_Prt_printBelow ini_Prt (by decide +kernel) rfl rfl (zR_le (by omega) (by decide))), X.2.2.2.2.1 _ im_Prt_printBelow, X.2.2.2.2.1 _ sel_Prt_printBelow⟩ (hP.lo 0 rfl) (hP.at 0 rfl) cl_Prt rfl rfl (Nat.le_of_ble_eq_true rfl) ⟨Nat.le_of_ble_eq_true rfl, Nat.le_of_ble_eq_true rfl⟩ (fun r N1 f1 hp hN1 => ?_)
          obtain ⟨rfl, rfl, hP, hF1⟩ := hp
          have hF := hF.join hF1 (Nat.le_refl _) (fun _ h => Or.inl h)
          refine z_aload_n X d_Prt_printNode_138 rfl ?_
          refine z_get X d_Prt_printNode_139 (hP.lo 0 rfl) (hP.at 0 rfl) cl_Prt in_Prt 0 (by decide) fl_Prt_12 rfl rfl ?_
          refine z_bipush X d_Prt_printNode_142 (v := 41) (by decide) ?_
          refine z_callV X zG_ok (c_Sgn_addT (hP.sub [1, 2] (by decide) rfl) (by repeat (first | with_reducible exact hl | with_reducible apply pPut_len | with_reducible apply pAdd_len))) d_Prt_printNode_144 ⟨(z_cb (n := 1) X.2.2.2.2.1 ml_Prt_31 mc_Sgn_add ini_Sgn (by decide +kernel) rfl rfl (zR_le (by omega) (by decide))), X.2.2.2.2.1 _ im_Sgn_add, X.2.2.2.2.1 _ sel_Sgn_add⟩ (hP.lo 1 rfl) (hP.at 1 rfl) cl_Sgn rfl rfl (Nat.le_of_ble_eq_true rfl) ⟨Nat.le_of_ble_eq_true rfl, Nat.le_of_ble_eq_true rfl⟩ (fun r N1 f1 hp hN1 => ?_)
          obtain ⟨⟨y9, rfl⟩, rfl, hP1, hF1⟩ := hp
          have hP := hP.prt2 hP1 hF1
          have hF := hF.join hF1 (Nat.le_refl _) (fun _ h => Or.inl h)
          refine z_pop X d_Prt_printNode_147 rfl ?_
          refine z_goto X 195 d_Prt_printNode_148 (by decide) ?_
          exact z_vret X d_Prt_printNode_195 ⟨rfl, rfl, by first | exact absurd g16 h113 | exact absurd h113 (ne4 g16) | (rw [e8]; (try simp only [pPut_app, pPut_1]); exact hP), hF⟩
      | 2, _, hx =>
        have g16 : _ = (4 : Int32) := hx
        have g16 : sgv K u q0 = 4 := g16
        have e8 : pTxt K V R u (n + 1) q0 = zSb 11 ++ (pBel K R u (pTxt K V R u n) q0 (tleft K u q0) ++ [41]) := by rw [pTxt, g16]; rfl
        refine zW.topc (pc' := 109) rfl ?_
        refine z_aload_n X d_Prt_printNode_109 rfl ?_
        refine z_iload X d_Prt_printNode_110 rfl ?_
        refine z_iconst X d_Prt_printNode_112 (v := 3) (by decide) ?_
        refine z_icmp_ne X 121 d_Prt_printNode_113 (by decide) (fun h113 => ?_) (fun h113 => ?_)
        · skip
          have h113 := h113
          refine z_ldcS X d_Prt_printNode_121 (zG_sr (j := 11) X.2.2.2.2.2.1 (by decide)) ?_
          refine z_callV X zG_ok (c_Prt_addWord (j := 11) (hP.sub (wc := wPr ck A ps) [0, 1, 2] (by decide) rfl) hl (by decide)) d_Prt_printNode_123 ⟨(z_cb (n := 1) X.2.2.2.2.1 ml_Prt_46 mc_Prt_addWord ini_Prt (by decide +kernel) rfl rfl (zR_le (by omega) (by decide))), X.2.2.2.2.1 _ im_Prt_addWord, X.2.2.2.2.1 _ sel_Prt_addWord⟩ (hP.lo 0 rfl) (hP.at 0 rfl) cl_Prt rfl rfl (Nat.le_of_ble_eq_true rfl) ⟨Nat.le_of_ble_eq_true rfl, Nat.le_of_ble_eq_true rfl⟩ (fun r N1 f1 hp hN1 => ?_)
          obtain ⟨rfl, rfl, hP1, hF1⟩ := hp
          have hP := hP.prt hP1 hF1
          have hF := hF.join hF1 (Nat.le_refl _) (fun _ h => Or.inl h)
          refine z_aload_n X d_Prt_printNode_126 rfl ?_
          refine z_aload_n X d_Prt_printNode_127 rfl ?_
          refine z_iload_n X d_Prt_printNode_128 rfl ?_
          refine z_aload_n X d_Prt_printNode_129 rfl ?_
          refine z_iload_n X d_Prt_printNode_130 rfl ?_
          refine z_callV X zG_ok (c_Tre_leftOf (hP.sub (wc := wTre ck (A 3) (A 4) (A 5) (A 6) n9 K V R u) [3, 4, 5, 6] (by decide) rfl) hu hn) d_Prt_printNode_131 ⟨(z_cb (n := 1) X.2.2.2.2.1 ml_Prt_35 mc_Tre_leftOf ini_Tre (by decide +kernel) rfl rfl (zR_le (by omega) (by decide))), X.2.2.2.2.1 _ im_Tre_leftOf, X.2.2.2.2.1 _ sel_Tre_leftOf⟩ (hP.lo 3 rfl) (hP.at 3 rfl) cl_Tre rfl rfl (Nat.le_of_ble_eq_true rfl) ⟨Nat.le_of_ble_eq_true rfl, Nat.le_of_ble_eq_true rfl⟩ (fun r N1 f1 hp hN1 => ?_)
          obtain ⟨rfl, rfl, rfl⟩ := hp
          refine z_iload_n X d_Prt_printNode_134 rfl ?_
          refine z_callV X zG_ok (c_Prt_printBelow hP (by repeat (first | with_reducible exact hl | with_reducible apply pPut_len | with_reducible apply pAdd_len)) hu hn hn39 hN hx9) d_Prt_printNode_135 ⟨(z_cb (n := 4) X.2.2.2.2.1 ml_Prt_38 mc_Prt_printBelow ini_Prt (by decide +kernel) rfl rfl (zR_le (by omega) (by decide))), X.2.2.2.2.1 _ im_Prt_printBelow, X.2.2.2.2.1 _ sel_Prt_printBelow⟩ (hP.lo 0 rfl) (hP.at 0 rfl) cl_Prt rfl rfl (Nat.le_of_ble_eq_true rfl) ⟨Nat.le_of_ble_eq_true rfl, Nat.le_of_ble_eq_true rfl⟩ (fun r N1 f1 hp hN1 => ?_)
          obtain ⟨rfl, rfl, hP, hF1⟩ := hp
          have hF := hF.join hF1 (Nat.le_refl _) (fun _ h => Or.inl h)
          refine z_aload_n X d_Prt_printNode_138 rfl ?_
          refine z_get X d_Prt_printNode_139 (hP.lo 0 rfl) (hP.at 0 rfl) cl_Prt in_Prt 0 (by decide) fl_Prt_12 rfl rfl ?_
          refine z_bipush X d_Prt_printNode_142 (v := 41) (by decide) ?_
          refine z_callV X zG_ok (c_Sgn_addT (hP.sub [1, 2] (by decide) rfl) (by repeat (first | with_reducible exact hl | with_reducible apply pPut_len | with_reducible apply pAdd_len))) d_Prt_printNode_144 ⟨(z_cb (n := 1) X.2.2.2.2.1 ml_Prt_31 mc_Sgn_add ini_Sgn (by decide +kernel) rfl rfl (zR_le (by omega) (by decide))), X.2.2.2.2.1 _ im_Sgn_add, X.2.2.2.2.1 _ sel_Sgn_add⟩ (hP.lo 1 rfl) (hP.at 1 rfl) cl_Sgn rfl rfl (Nat.le_of_ble_eq_true rfl) ⟨Nat.le_of_ble_eq_true rfl, Nat.le_of_ble_eq_true rfl⟩ (fun r N1 f1 hp hN1 => ?_)
          obtain ⟨⟨y9, rfl⟩, rfl, hP1, hF1⟩ := hp
          have hP := hP.prt2 hP1 hF1
          have hF := hF.join hF1 (Nat.le_refl _) (fun _ h => Or.inl h)
          refine z_pop X d_Prt_printNode_147 rfl ?_
          refine z_goto X 195 d_Prt_printNode_148 (by decide) ?_
          exact z_vret X d_Prt_printNode_195 ⟨rfl, rfl, by first | exact absurd g16 h113 | exact absurd h113 (ne4 g16) | (rw [e8]; (try simp only [pPut_app, pPut_1]); exact hP), hF⟩
        · skip
          have h113 := h113
          refine z_ldcS X d_Prt_printNode_116 (zG_sr (j := 10) X.2.2.2.2.2.1 (by decide)) ?_
          refine z_goto X 123 d_Prt_printNode_118 (by decide) ?_
          refine z_callV X zG_ok (c_Prt_addWord (j := 10) (hP.sub (wc := wPr ck A ps) [0, 1, 2] (by decide) rfl) hl (by decide)) d_Prt_printNode_123 ⟨(z_cb (n := 1) X.2.2.2.2.1 ml_Prt_46 mc_Prt_addWord ini_Prt (by decide +kernel) rfl rfl (zR_le (by omega) (by decide))), X.2.2.2.2.1 _ im_Prt_addWord, X.2.2.2.2.1 _ sel_Prt_addWord⟩ (hP.lo 0 rfl) (hP.at 0 rfl) cl_Prt rfl rfl (Nat.le_of_ble_eq_true rfl) ⟨Nat.le_of_ble_eq_true rfl, Nat.le_of_ble_eq_true rfl⟩ (fun r N1 f1 hp hN1 => ?_)
          obtain ⟨rfl, rfl, hP1, hF1⟩ := hp
          have hP := hP.prt hP1 hF1
          have hF := hF.join hF1 (Nat.le_refl _) (fun _ h => Or.inl h)
          refine z_aload_n X d_Prt_printNode_126 rfl ?_
          refine z_aload_n X d_Prt_printNode_127 rfl ?_
          refine z_iload_n X d_Prt_printNode_128 rfl ?_
          refine z_aload_n X d_Prt_printNode_129 rfl ?_
          refine z_iload_n X d_Prt_printNode_130 rfl ?_
          refine z_callV X zG_ok (c_Tre_leftOf (hP.sub (wc := wTre ck (A 3) (A 4) (A 5) (A 6) n9 K V R u) [3, 4, 5, 6] (by decide) rfl) hu hn) d_Prt_printNode_131 ⟨(z_cb (n := 1) X.2.2.2.2.1 ml_Prt_35 mc_Tre_leftOf ini_Tre (by decide +kernel) rfl rfl (zR_le (by omega) (by decide))), X.2.2.2.2.1 _ im_Tre_leftOf, X.2.2.2.2.1 _ sel_Tre_leftOf⟩ (hP.lo 3 rfl) (hP.at 3 rfl) cl_Tre rfl rfl (Nat.le_of_ble_eq_true rfl) ⟨Nat.le_of_ble_eq_true rfl, Nat.le_of_ble_eq_true rfl⟩ (fun r N1 f1 hp hN1 => ?_)
          obtain ⟨rfl, rfl, rfl⟩ := hp
          refine z_iload_n X d_Prt_printNode_134 rfl ?_
          refine z_callV X zG_ok (c_Prt_printBelow hP (by repeat (first | with_reducible exact hl | with_reducible apply pPut_len | with_reducible apply pAdd_len)) hu hn hn39 hN hx9) d_Prt_printNode_135 ⟨(z_cb (n := 4) X.2.2.2.2.1 ml_Prt_38 mc_Prt_printBelow ini_Prt (by decide +kernel) rfl rfl (zR_le (by omega) (by decide))), X.2.2.2.2.1 _ im_Prt_printBelow, X.2.2.2.2.1 _ sel_Prt_printBelow⟩ (hP.lo 0 rfl) (hP.at 0 rfl) cl_Prt rfl rfl (Nat.le_of_ble_eq_true rfl) ⟨Nat.le_of_ble_eq_true rfl, Nat.le_of_ble_eq_true rfl⟩ (fun r N1 f1 hp hN1 => ?_)
          obtain ⟨rfl, rfl, hP, hF1⟩ := hp
          have hF := hF.join hF1 (Nat.le_refl _) (fun _ h => Or.inl h)
          refine z_aload_n X d_Prt_printNode_138 rfl ?_
          refine z_get X d_Prt_printNode_139 (hP.lo 0 rfl) (hP.at 0 rfl) cl_Prt in_Prt 0 (by decide) fl_Prt_12 rfl rfl ?_
          refine z_bipush X d_Prt_printNode_142 (v := 41) (by decide) ?_
          refine z_callV X zG_ok (c_Sgn_addT (hP.sub [1, 2] (by decide) rfl) (by repeat (first | with_reducible exact hl | with_reducible apply pPut_len | with_reducible apply pAdd_len))) d_Prt_printNode_144 ⟨(z_cb (n := 1) X.2.2.2.2.1 ml_Prt_31 mc_Sgn_add ini_Sgn (by decide +kernel) rfl rfl (zR_le (by omega) (by decide))), X.2.2.2.2.1 _ im_Sgn_add, X.2.2.2.2.1 _ sel_Sgn_add⟩ (hP.lo 1 rfl) (hP.at 1 rfl) cl_Sgn rfl rfl (Nat.le_of_ble_eq_true rfl) ⟨Nat.le_of_ble_eq_true rfl, Nat.le_of_ble_eq_true rfl⟩ (fun r N1 f1 hp hN1 => ?_)
          obtain ⟨⟨y9, rfl⟩, rfl, hP1, hF1⟩ := hp
          have hP := hP.prt2 hP1 hF1
          have hF := hF.join hF1 (Nat.le_refl _) (fun _ h => Or.inl h)
          refine z_pop X d_Prt_printNode_147 rfl ?_
          refine z_goto X 195 d_Prt_printNode_148 (by decide) ?_
          exact z_vret X d_Prt_printNode_195 ⟨rfl, rfl, by first | exact absurd g16 h113 | exact absurd h113 (ne4 g16) | (rw [e8]; (try simp only [pPut_app, pPut_1]); exact hP), hF⟩
      | 3, _, hx =>
        have g16 : _ = (5 : Int32) := hx
        have g16 : sgv K u q0 = 5 := g16
        have e8 : pTxt K V R u (n + 1) q0 = pBel K R u (pTxt K V R u n) q0 (tleft K u q0) ++ (pSig (sgv K u q0) ++ pBel K R u (pTxt K V R u n) q0 (sgv R u q0)) := by rw [pTxt, g16]; rfl
        refine zW.topc (pc' := 165) rfl ?_
        refine z_aload_n X d_Prt_printNode_165 rfl ?_
        refine z_aload_n X d_Prt_printNode_166 rfl ?_
        refine z_iload_n X d_Prt_printNode_167 rfl ?_
        refine z_aload_n X d_Prt_printNode_168 rfl ?_
        refine z_iload_n X d_Prt_printNode_169 rfl ?_
        refine z_callV X zG_ok (c_Tre_leftOf (hP.sub (wc := wTre ck (A 3) (A 4) (A 5) (A 6) n9 K V R u) [3, 4, 5, 6] (by decide) rfl) hu hn) d_Prt_printNode_170 ⟨(z_cb (n := 1) X.2.2.2.2.1 ml_Prt_35 mc_Tre_leftOf ini_Tre (by decide +kernel) rfl rfl (zR_le (by omega) (by decide))), X.2.2.2.2.1 _ im_Tre_leftOf, X.2.2.2.2.1 _ sel_Tre_leftOf⟩ (hP.lo 3 rfl) (hP.at 3 rfl) cl_Tre rfl rfl (Nat.le_of_ble_eq_true rfl) ⟨Nat.le_of_ble_eq_true rfl, Nat.le_of_ble_eq_true rfl⟩ (fun r N1 f1 hp hN1 => ?_)
        obtain ⟨rfl, rfl, rfl⟩ := hp
        refine z_iload_n X d_Prt_printNode_173 rfl ?_
        refine z_callV X zG_ok (c_Prt_printBelow hP (by repeat (first | with_reducible exact hl | with_reducible apply pPut_len | with_reducible apply pAdd_len)) hu hn hn39 hN hx9) d_Prt_printNode_174 ⟨(z_cb (n := 4) X.2.2.2.2.1 ml_Prt_38 mc_Prt_printBelow ini_Prt (by decide +kernel) rfl rfl (zR_le (by omega) (by decide))), X.2.2.2.2.1 _ im_Prt_printBelow, X.2.2.2.2.1 _ sel_Prt_printBelow⟩ (hP.lo 0 rfl) (hP.at 0 rfl) cl_Prt rfl rfl (Nat.le_of_ble_eq_true rfl) ⟨Nat.le_of_ble_eq_true rfl, Nat.le_of_ble_eq_true rfl⟩ (fun r N1 f1 hp hN1 => ?_)
        obtain ⟨rfl, rfl, hP, hF1⟩ := hp
        have hF := hF.join hF1 (Nat.le_refl _) (fun _ h => Or.inl h)
        refine z_aload_n X d_Prt_printNode_177 rfl ?_
        refine z_iload X d_Prt_printNode_178 rfl ?_
        refine z_callV X zG_ok (c_Prt_addSignOf (hP.sub (wc := wPr ck A _) [0, 1, 2] (by decide) rfl) (by repeat (first | with_reducible exact hl | with_reducible apply pPut_len | with_reducible apply pAdd_len))) d_Prt_printNode_180 ⟨(z_cb (n := 1) X.2.2.2.2.1 ml_Prt_57 mc_Prt_addSignOf ini_Prt (by decide +kernel) rfl rfl (zR_le (by omega) (by decide))), X.2.2.2.2.1 _ im_Prt_addSignOf, X.2.2.2.2.1 _ sel_Prt_addSignOf⟩ (hP.lo 0 rfl) (hP.at 0 rfl) cl_Prt rfl rfl (Nat.le_of_ble_eq_true rfl) ⟨Nat.le_of_ble_eq_true rfl, Nat.le_of_ble_eq_true rfl⟩ (fun r N1 f1 hp hN1 => ?_)
        obtain ⟨rfl, rfl, hP1, hF1⟩ := hp
        have hP := hP.prt hP1 hF1
        have hF := hF.join hF1 (Nat.le_refl _) (fun _ h => Or.inl h)
        refine z_aload_n X d_Prt_printNode_183 rfl ?_
        refine z_aload_n X d_Prt_printNode_184 rfl ?_
        refine z_iload_n X d_Prt_printNode_185 rfl ?_
        refine z_aload_n X d_Prt_printNode_186 rfl ?_
        refine z_iload_n X d_Prt_printNode_187 rfl ?_
        refine z_callV X zG_ok (c_Tre_rightOf (hP.sub (wc := wTre ck (A 3) (A 4) (A 5) (A 6) n9 K V R u) [3, 4, 5, 6] (by decide) rfl) hu hn) d_Prt_printNode_188 ⟨(z_cb (n := 1) X.2.2.2.2.1 ml_Prt_61 mc_Tre_rightOf ini_Tre (by decide +kernel) rfl rfl (zR_le (by omega) (by decide))), X.2.2.2.2.1 _ im_Tre_rightOf, X.2.2.2.2.1 _ sel_Tre_rightOf⟩ (hP.lo 3 rfl) (hP.at 3 rfl) cl_Tre rfl rfl (Nat.le_of_ble_eq_true rfl) ⟨Nat.le_of_ble_eq_true rfl, Nat.le_of_ble_eq_true rfl⟩ (fun r N1 f1 hp hN1 => ?_)
        obtain ⟨rfl, rfl, rfl⟩ := hp
        refine z_iload_n X d_Prt_printNode_191 rfl ?_
        refine z_callV X zG_ok (c_Prt_printBelow hP (by repeat (first | with_reducible exact hl | with_reducible apply pPut_len | with_reducible apply pAdd_len)) hu hn hn39 hN hx9) d_Prt_printNode_192 ⟨(z_cb (n := 4) X.2.2.2.2.1 ml_Prt_38 mc_Prt_printBelow ini_Prt (by decide +kernel) rfl rfl (zR_le (by omega) (by decide))), X.2.2.2.2.1 _ im_Prt_printBelow, X.2.2.2.2.1 _ sel_Prt_printBelow⟩ (hP.lo 0 rfl) (hP.at 0 rfl) cl_Prt rfl rfl (Nat.le_of_ble_eq_true rfl) ⟨Nat.le_of_ble_eq_true rfl, Nat.le_of_ble_eq_true rfl⟩ (fun r N1 f1 hp hN1 => ?_)
        obtain ⟨rfl, rfl, hP, hF1⟩ := hp
        have hF := hF.join hF1 (Nat.le_refl _) (fun _ h => Or.inl h)
        exact z_vret X d_Prt_printNode_195 ⟨rfl, rfl, by first | exact absurd g16 h113 | exact absurd h113 (ne4 g16) | (rw [e8]; (try simp only [pPut_app, pPut_1]); exact hP), hF⟩
      | 4, _, hx =>
        have g16 : _ = (6 : Int32) := hx
        have g16 : sgv K u q0 = 6 := g16
        have e8 : pTxt K V R u (n + 1) q0 = pBel K R u (pTxt K V R u n) q0 (tleft K u q0) ++ (pSig (sgv K u q0) ++ pBel K R u (pTxt K V R u n) q0 (sgv R u q0)) := by rw [pTxt, g16]; rfl
        refine zW.topc (pc' := 165) rfl ?_
        refine z_aload_n X d_Prt_printNode_165 rfl ?_
        refine z_aload_n X d_Prt_printNode_166 rfl ?_
        refine z_iload_n X d_Prt_printNode_167 rfl ?_
        refine z_aload_n X d_Prt_printNode_168 rfl ?_
        refine z_iload_n X d_Prt_printNode_169 rfl ?_
        refine z_callV X zG_ok (c_Tre_leftOf (hP.sub (wc := wTre ck (A 3) (A 4) (A 5) (A 6) n9 K V R u) [3, 4, 5, 6] (by decide) rfl) hu hn) d_Prt_printNode_170 ⟨(z_cb (n := 1) X.2.2.2.2.1 ml_Prt_35 mc_Tre_leftOf ini_Tre (by decide +kernel) rfl rfl (zR_le (by omega) (by decide))), X.2.2.2.2.1 _ im_Tre_leftOf, X.2.2.2.2.1 _ sel_Tre_leftOf⟩ (hP.lo 3 rfl) (hP.at 3 rfl) cl_Tre rfl rfl (Nat.le_of_ble_eq_true rfl) ⟨Nat.le_of_ble_eq_true rfl, Nat.le_of_ble_eq_true rfl⟩ (fun r N1 f1 hp hN1 => ?_)
        obtain ⟨rfl, rfl, rfl⟩ := hp
        refine z_iload_n X d_Prt_printNode_173 rfl ?_
        refine z_callV X zG_ok (c_Prt_printBelow hP (by repeat (first | with_reducible exact hl | with_reducible apply pPut_len | with_reducible apply pAdd_len)) hu hn hn39 hN hx9) d_Prt_printNode_174 ⟨(z_cb (n := 4) X.2.2.2.2.1 ml_Prt_38 mc_Prt_printBelow ini_Prt (by decide +kernel) rfl rfl (zR_le (by omega) (by decide))), X.2.2.2.2.1 _ im_Prt_printBelow, X.2.2.2.2.1 _ sel_Prt_printBelow⟩ (hP.lo 0 rfl) (hP.at 0 rfl) cl_Prt rfl rfl (Nat.le_of_ble_eq_true rfl) ⟨Nat.le_of_ble_eq_true rfl, Nat.le_of_ble_eq_true rfl⟩ (fun r N1 f1 hp hN1 => ?_)
        obtain ⟨rfl, rfl, hP, hF1⟩ := hp
        have hF := hF.join hF1 (Nat.le_refl _) (fun _ h => Or.inl h)
        refine z_aload_n X d_Prt_printNode_177 rfl ?_
        refine z_iload X d_Prt_printNode_178 rfl ?_
        refine z_callV X zG_ok (c_Prt_addSignOf (hP.sub (wc := wPr ck A _) [0, 1, 2] (by decide) rfl) (by repeat (first | with_reducible exact hl | with_reducible apply pPut_len | with_reducible apply pAdd_len))) d_Prt_printNode_180 ⟨(z_cb (n := 1) X.2.2.2.2.1 ml_Prt_57 mc_Prt_addSignOf ini_Prt (by decide +kernel) rfl rfl (zR_le (by omega) (by decide))), X.2.2.2.2.1 _ im_Prt_addSignOf, X.2.2.2.2.1 _ sel_Prt_addSignOf⟩ (hP.lo 0 rfl) (hP.at 0 rfl) cl_Prt rfl rfl (Nat.le_of_ble_eq_true rfl) ⟨Nat.le_of_ble_eq_true rfl, Nat.le_of_ble_eq_true rfl⟩ (fun r N1 f1 hp hN1 => ?_)
        obtain ⟨rfl, rfl, hP1, hF1⟩ := hp
        have hP := hP.prt hP1 hF1
        have hF := hF.join hF1 (Nat.le_refl _) (fun _ h => Or.inl h)
        refine z_aload_n X d_Prt_printNode_183 rfl ?_
        refine z_aload_n X d_Prt_printNode_184 rfl ?_
        refine z_iload_n X d_Prt_printNode_185 rfl ?_
        refine z_aload_n X d_Prt_printNode_186 rfl ?_
        refine z_iload_n X d_Prt_printNode_187 rfl ?_
        refine z_callV X zG_ok (c_Tre_rightOf (hP.sub (wc := wTre ck (A 3) (A 4) (A 5) (A 6) n9 K V R u) [3, 4, 5, 6] (by decide) rfl) hu hn) d_Prt_printNode_188 ⟨(z_cb (n := 1) X.2.2.2.2.1 ml_Prt_61 mc_Tre_rightOf ini_Tre (by decide +kernel) rfl rfl (zR_le (by omega) (by decide))), X.2.2.2.2.1 _ im_Tre_rightOf, X.2.2.2.2.1 _ sel_Tre_rightOf⟩ (hP.lo 3 rfl) (hP.at 3 rfl) cl_Tre rfl rfl (Nat.le_of_ble_eq_true rfl) ⟨Nat.le_of_ble_eq_true rfl, Nat.le_of_ble_eq_true rfl⟩ (fun r N1 f1 hp hN1 => ?_)
        obtain ⟨rfl, rfl, rfl⟩ := hp
        refine z_iload_n X d_Prt_printNode_191 rfl ?_
        refine z_callV X zG_ok (c_Prt_printBelow hP (by repeat (first | with_reducible exact hl | with_reducible apply pPut_len | with_reducible apply pAdd_len)) hu hn hn39 hN hx9) d_Prt_printNode_192 ⟨(z_cb (n := 4) X.2.2.2.2.1 ml_Prt_38 mc_Prt_printBelow ini_Prt (by decide +kernel) rfl rfl (zR_le (by omega) (by decide))), X.2.2.2.2.1 _ im_Prt_printBelow, X.2.2.2.2.1 _ sel_Prt_printBelow⟩ (hP.lo 0 rfl) (hP.at 0 rfl) cl_Prt rfl rfl (Nat.le_of_ble_eq_true rfl) ⟨Nat.le_of_ble_eq_true rfl, Nat.le_of_ble_eq_true rfl⟩ (fun r N1 f1 hp hN1 => ?_)
        obtain ⟨rfl, rfl, hP, hF1⟩ := hp
        have hF := hF.join hF1 (Nat.le_refl _) (fun _ h => Or.inl h)
        exact z_vret X d_Prt_printNode_195 ⟨rfl, rfl, by first | exact absurd g16 h113 | exact absurd h113 (ne4 g16) | (rw [e8]; (try simp only [pPut_app, pPut_1]); exact hP), hF⟩
      | 5, _, hx =>
        have g16 : _ = (7 : Int32) := hx
        have g16 : sgv K u q0 = 7 := g16
        have e8 : pTxt K V R u (n + 1) q0 = pBel K R u (pTxt K V R u n) q0 (tleft K u q0) ++ (pSig (sgv K u q0) ++ pBel K R u (pTxt K V R u n) q0 (sgv R u q0)) := by rw [pTxt, g16]; rfl
        refine zW.topc (pc' := 165) rfl ?_
        refine z_aload_n X d_Prt_printNode_165 rfl ?_
        refine z_aload_n X d_Prt_printNode_166 rfl ?_
        refine z_iload_n X d_Prt_printNode_167 rfl ?_
        refine z_aload_n X d_Prt_printNode_168 rfl ?_
        refine z_iload_n X d_Prt_printNode_169 rfl ?_
        refine z_callV X zG_ok (c_Tre_leftOf (hP.sub (wc := wTre ck (A 3) (A 4) (A 5) (A 6) n9 K V R u) [3, 4, 5, 6] (by decide) rfl) hu hn) d_Prt_printNode_170 ⟨(z_cb (n := 1) X.2.2.2.2.1 ml_Prt_35 mc_Tre_leftOf ini_Tre (by decide +kernel) rfl rfl (zR_le (by omega) (by decide))), X.2.2.2.2.1 _ im_Tre_leftOf, X.2.2.2.2.1 _ sel_Tre_leftOf⟩ (hP.lo 3 rfl) (hP.at 3 rfl) cl_Tre rfl rfl (Nat.le_of_ble_eq_true rfl) ⟨Nat.le_of_ble_eq_true rfl, Nat.le_of_ble_eq_true rfl⟩ (fun r N1 f1 hp hN1 => ?_)
        obtain ⟨rfl, rfl, rfl⟩ := hp
        refine z_iload_n X d_Prt_printNode_173 rfl ?_
        refine z_callV X zG_ok (c_Prt_printBelow hP (by repeat (first | with_reducible exact hl | with_reducible apply pPut_len | with_reducible apply pAdd_len)) hu hn hn39 hN hx9) d_Prt_printNode_174 ⟨(z_cb (n := 4) X.2.2.2.2.1 ml_Prt_38 mc_Prt_printBelow ini_Prt (by decide +kernel) rfl rfl (zR_le (by omega) (by decide))), X.2.2.2.2.1 _ im_Prt_printBelow, X.2.2.2.2.1 _ sel_Prt_printBelow⟩ (hP.lo 0 rfl) (hP.at 0 rfl) cl_Prt rfl rfl (Nat.le_of_ble_eq_true rfl) ⟨Nat.le_of_ble_eq_true rfl, Nat.le_of_ble_eq_true rfl⟩ (fun r N1 f1 hp hN1 => ?_)
        obtain ⟨rfl, rfl, hP, hF1⟩ := hp
        have hF := hF.join hF1 (Nat.le_refl _) (fun _ h => Or.inl h)
        refine z_aload_n X d_Prt_printNode_177 rfl ?_
        refine z_iload X d_Prt_printNode_178 rfl ?_
        refine z_callV X zG_ok (c_Prt_addSignOf (hP.sub (wc := wPr ck A _) [0, 1, 2] (by decide) rfl) (by repeat (first | with_reducible exact hl | with_reducible apply pPut_len | with_reducible apply pAdd_len))) d_Prt_printNode_180 ⟨(z_cb (n := 1) X.2.2.2.2.1 ml_Prt_57 mc_Prt_addSignOf ini_Prt (by decide +kernel) rfl rfl (zR_le (by omega) (by decide))), X.2.2.2.2.1 _ im_Prt_addSignOf, X.2.2.2.2.1 _ sel_Prt_addSignOf⟩ (hP.lo 0 rfl) (hP.at 0 rfl) cl_Prt rfl rfl (Nat.le_of_ble_eq_true rfl) ⟨Nat.le_of_ble_eq_true rfl, Nat.le_of_ble_eq_true rfl⟩ (fun r N1 f1 hp hN1 => ?_)
        obtain ⟨rfl, rfl, hP1, hF1⟩ := hp
        have hP := hP.prt hP1 hF1
        have hF := hF.join hF1 (Nat.le_refl _) (fun _ h => Or.inl h)
        refine z_aload_n X d_Prt_printNode_183 rfl ?_
        refine z_aload_n X d_Prt_printNode_184 rfl ?_
        refine z_iload_n X d_Prt_printNode_185 rfl ?_
        refine z_aload_n X d_Prt_printNode_186 rfl ?_
        refine z_iload_n X d_Prt_printNode_187 rfl ?_
        refine z_callV X zG_ok (c_Tre_rightOf (hP.sub (wc := wTre ck (A 3) (A 4) (A 5) (A 6) n9 K V R u) [3, 4, 5, 6] (by decide) rfl) hu hn) d_Prt_printNode_188 ⟨(z_cb (n := 1) X.2.2.2.2.1 ml_Prt_61 mc_Tre_rightOf ini_Tre (by decide +kernel) rfl rfl (zR_le (by omega) (by decide))), X.2.2.2.2.1 _ im_Tre_rightOf, X.2.2.2.2.1 _ sel_Tre_rightOf⟩ (hP.lo 3 rfl) (hP.at 3 rfl) cl_Tre rfl rfl (Nat.le_of_ble_eq_true rfl) ⟨Nat.le_of_ble_eq_true rfl, Nat.le_of_ble_eq_true rfl⟩ (fun r N1 f1 hp hN1 => ?_)
        obtain ⟨rfl, rfl, rfl⟩ := hp
        refine z_iload_n X d_Prt_printNode_191 rfl ?_
        refine z_callV X zG_ok (c_Prt_printBelow hP (by repeat (first | with_reducible exact hl | with_reducible apply pPut_len | with_reducible apply pAdd_len)) hu hn hn39 hN hx9) d_Prt_printNode_192 ⟨(z_cb (n := 4) X.2.2.2.2.1 ml_Prt_38 mc_Prt_printBelow ini_Prt (by decide +kernel) rfl rfl (zR_le (by omega) (by decide))), X.2.2.2.2.1 _ im_Prt_printBelow, X.2.2.2.2.1 _ sel_Prt_printBelow⟩ (hP.lo 0 rfl) (hP.at 0 rfl) cl_Prt rfl rfl (Nat.le_of_ble_eq_true rfl) ⟨Nat.le_of_ble_eq_true rfl, Nat.le_of_ble_eq_true rfl⟩ (fun r N1 f1 hp hN1 => ?_)
        obtain ⟨rfl, rfl, hP, hF1⟩ := hp
        have hF := hF.join hF1 (Nat.le_refl _) (fun _ h => Or.inl h)
        exact z_vret X d_Prt_printNode_195 ⟨rfl, rfl, by first | exact absurd g16 h113 | exact absurd h113 (ne4 g16) | (rw [e8]; (try simp only [pPut_app, pPut_1]); exact hP), hF⟩
      | 6, _, hx =>
        have g16 : _ = (8 : Int32) := hx
        have g16 : sgv K u q0 = 8 := g16
        have e8 : pTxt K V R u (n + 1) q0 = pBel K R u (pTxt K V R u n) q0 (tleft K u q0) ++ (pSig (sgv K u q0) ++ pBel K R u (pTxt K V R u n) q0 (sgv R u q0)) := by rw [pTxt, g16]; rfl
        refine zW.topc (pc' := 165) rfl ?_
        refine z_aload_n X d_Prt_printNode_165 rfl ?_
        refine z_aload_n X d_Prt_printNode_166 rfl ?_
        refine z_iload_n X d_Prt_printNode_167 rfl ?_
        refine z_aload_n X d_Prt_printNode_168 rfl ?_
        refine z_iload_n X d_Prt_printNode_169 rfl ?_
        refine z_callV X zG_ok (c_Tre_leftOf (hP.sub (wc := wTre ck (A 3) (A 4) (A 5) (A 6) n9 K V R u) [3, 4, 5, 6] (by decide) rfl) hu hn) d_Prt_printNode_170 ⟨(z_cb (n := 1) X.2.2.2.2.1 ml_Prt_35 mc_Tre_leftOf ini_Tre (by decide +kernel) rfl rfl (zR_le (by omega) (by decide))), X.2.2.2.2.1 _ im_Tre_leftOf, X.2.2.2.2.1 _ sel_Tre_leftOf⟩ (hP.lo 3 rfl) (hP.at 3 rfl) cl_Tre rfl rfl (Nat.le_of_ble_eq_true rfl) ⟨Nat.le_of_ble_eq_true rfl, Nat.le_of_ble_eq_true rfl⟩ (fun r N1 f1 hp hN1 => ?_)
        obtain ⟨rfl, rfl, rfl⟩ := hp
        refine z_iload_n X d_Prt_printNode_173 rfl ?_
        refine z_callV X zG_ok (c_Prt_printBelow hP (by repeat (first | with_reducible exact hl | with_reducible apply pPut_len | with_reducible apply pAdd_len)) hu hn hn39 hN hx9) d_Prt_printNode_174 ⟨(z_cb (n := 4) X.2.2.2.2.1 ml_Prt_38 mc_Prt_printBelow ini_Prt (by decide +kernel) rfl rfl (zR_le (by omega) (by decide))), X.2.2.2.2.1 _ im_Prt_printBelow, X.2.2.2.2.1 _ sel_Prt_printBelow⟩ (hP.lo 0 rfl) (hP.at 0 rfl) cl_Prt rfl rfl (Nat.le_of_ble_eq_true rfl) ⟨Nat.le_of_ble_eq_true rfl, Nat.le_of_ble_eq_true rfl⟩ (fun r N1 f1 hp hN1 => ?_)
        obtain ⟨rfl, rfl, hP, hF1⟩ := hp
        have hF := hF.join hF1 (Nat.le_refl _) (fun _ h => Or.inl h)
        refine z_aload_n X d_Prt_printNode_177 rfl ?_
        refine z_iload X d_Prt_printNode_178 rfl ?_
        refine z_callV X zG_ok (c_Prt_addSignOf (hP.sub (wc := wPr ck A _) [0, 1, 2] (by decide) rfl) (by repeat (first | with_reducible exact hl | with_reducible apply pPut_len | with_reducible apply pAdd_len))) d_Prt_printNode_180 ⟨(z_cb (n := 1) X.2.2.2.2.1 ml_Prt_57 mc_Prt_addSignOf ini_Prt (by decide +kernel) rfl rfl (zR_le (by omega) (by decide))), X.2.2.2.2.1 _ im_Prt_addSignOf, X.2.2.2.2.1 _ sel_Prt_addSignOf⟩ (hP.lo 0 rfl) (hP.at 0 rfl) cl_Prt rfl rfl (Nat.le_of_ble_eq_true rfl) ⟨Nat.le_of_ble_eq_true rfl, Nat.le_of_ble_eq_true rfl⟩ (fun r N1 f1 hp hN1 => ?_)
        obtain ⟨rfl, rfl, hP1, hF1⟩ := hp
        have hP := hP.prt hP1 hF1
        have hF := hF.join hF1 (Nat.le_refl _) (fun _ h => Or.inl h)
        refine z_aload_n X d_Prt_printNode_183 rfl ?_
        refine z_aload_n X d_Prt_printNode_184 rfl ?_
        refine z_iload_n X d_Prt_printNode_185 rfl ?_
        refine z_aload_n X d_Prt_printNode_186 rfl ?_
        refine z_iload_n X d_Prt_printNode_187 rfl ?_
        refine z_callV X zG_ok (c_Tre_rightOf (hP.sub (wc := wTre ck (A 3) (A 4) (A 5) (A 6) n9 K V R u) [3, 4, 5, 6] (by decide) rfl) hu hn) d_Prt_printNode_188 ⟨(z_cb (n := 1) X.2.2.2.2.1 ml_Prt_61 mc_Tre_rightOf ini_Tre (by decide +kernel) rfl rfl (zR_le (by omega) (by decide))), X.2.2.2.2.1 _ im_Tre_rightOf, X.2.2.2.2.1 _ sel_Tre_rightOf⟩ (hP.lo 3 rfl) (hP.at 3 rfl) cl_Tre rfl rfl (Nat.le_of_ble_eq_true rfl) ⟨Nat.le_of_ble_eq_true rfl, Nat.le_of_ble_eq_true rfl⟩ (fun r N1 f1 hp hN1 => ?_)
        obtain ⟨rfl, rfl, rfl⟩ := hp
        refine z_iload_n X d_Prt_printNode_191 rfl ?_
        refine z_callV X zG_ok (c_Prt_printBelow hP (by repeat (first | with_reducible exact hl | with_reducible apply pPut_len | with_reducible apply pAdd_len)) hu hn hn39 hN hx9) d_Prt_printNode_192 ⟨(z_cb (n := 4) X.2.2.2.2.1 ml_Prt_38 mc_Prt_printBelow ini_Prt (by decide +kernel) rfl rfl (zR_le (by omega) (by decide))), X.2.2.2.2.1 _ im_Prt_printBelow, X.2.2.2.2.1 _ sel_Prt_printBelow⟩ (hP.lo 0 rfl) (hP.at 0 rfl) cl_Prt rfl rfl (Nat.le_of_ble_eq_true rfl) ⟨Nat.le_of_ble_eq_true rfl, Nat.le_of_ble_eq_true rfl⟩ (fun r N1 f1 hp hN1 => ?_)
        obtain ⟨rfl, rfl, hP, hF1⟩ := hp
        have hF := hF.join hF1 (Nat.le_refl _) (fun _ h => Or.inl h)
        exact z_vret X d_Prt_printNode_195 ⟨rfl, rfl, by first | exact absurd g16 h113 | exact absurd h113 (ne4 g16) | (rw [e8]; (try simp only [pPut_app, pPut_1]); exact hP), hF⟩
      | 7, _, hx =>
        have g16 : _ = (9 : Int32) := hx
        have g16 : sgv K u q0 = 9 := g16
        have e8 : pTxt K V R u (n + 1) q0 = pBel K R u (pTxt K V R u n) q0 (tleft K u q0) ++ (pSig (sgv K u q0) ++ pBel K R u (pTxt K V R u n) q0 (sgv R u q0)) := by rw [pTxt, g16]; rfl
        refine zW.topc (pc' := 165) rfl ?_
        refine z_aload_n X d_Prt_printNode_165 rfl ?_
        refine z_aload_n X d_Prt_printNode_166 rfl ?_
        refine z_iload_n X d_Prt_printNode_167 rfl ?_
        refine z_aload_n X d_Prt_printNode_168 rfl ?_
        refine z_iload_n X d_Prt_printNode_169 rfl ?_
        refine z_callV X zG_ok (c_Tre_leftOf (hP.sub (wc := wTre ck (A 3) (A 4) (A 5) (A 6) n9 K V R u) [3, 4, 5, 6] (by decide) rfl) hu hn) d_Prt_printNode_170 ⟨(z_cb (n := 1) X.2.2.2.2.1 ml_Prt_35 mc_Tre_leftOf ini_Tre (by decide +kernel) rfl rfl (zR_le (by omega) (by decide))), X.2.2.2.2.1 _ im_Tre_leftOf, X.2.2.2.2.1 _ sel_Tre_leftOf⟩ (hP.lo 3 rfl) (hP.at 3 rfl) cl_Tre rfl rfl (Nat.le_of_ble_eq_true rfl) ⟨Nat.le_of_ble_eq_true rfl, Nat.le_of_ble_eq_true rfl⟩ (fun r N1 f1 hp hN1 => ?_)
        obtain ⟨rfl, rfl, rfl⟩ := hp
        refine z_iload_n X d_Prt_printNode_173 rfl ?_
        refine z_callV X zG_ok (c_Prt_printBelow hP (by repeat (first | with_reducible exact hl | with_reducible apply pPut_len | with_reducible apply pAdd_len)) hu hn hn39 hN hx9) d_Prt_printNode_174 ⟨(z_cb (n := 4) X.2.2.2.2.1 ml_Prt_38 mc_Prt_printBelow ini_Prt (by decide +kernel) rfl rfl (zR_le (by omega) (by decide))), X.2.2.2.2.1 _ im_Prt_printBelow, X.2.2.2.2.1 _ sel_Prt_printBelow⟩ (hP.lo 0 rfl) (hP.at 0 rfl) cl_Prt rfl rfl (Nat.le_of_ble_eq_true rfl) ⟨Nat.le_of_ble_eq_true rfl, Nat.le_of_ble_eq_true rfl⟩ (fun r N1 f1 hp hN1 => ?_)
        obtain ⟨rfl, rfl, hP, hF1⟩ := hp
        have hF := hF.join hF1 (Nat.le_refl _) (fun _ h => Or.inl h)
        refine z_aload_n X d_Prt_printNode_177 rfl ?_
        refine z_iload X d_Prt_printNode_178 rfl ?_
        refine z_callV X zG_ok (c_Prt_addSignOf (hP.sub (wc := wPr ck A _) [0, 1, 2] (by decide) rfl) (by repeat (first | with_reducible exact hl | with_reducible apply pPut_len | with_reducible apply pAdd_len))) d_Prt_printNode_180 ⟨(z_cb (n := 1) X.2.2.2.2.1 ml_Prt_57 mc_Prt_addSignOf ini_Prt (by decide +kernel) rfl rfl (zR_le (by omega) (by decide))), X.2.2.2.2.1 _ im_Prt_addSignOf, X.2.2.2.2.1 _ sel_Prt_addSignOf⟩ (hP.lo 0 rfl) (hP.at 0 rfl) cl_Prt rfl rfl (Nat.le_of_ble_eq_true rfl) ⟨Nat.le_of_ble_eq_true rfl, Nat.le_of_ble_eq_true rfl⟩ (fun r N1 f1 hp hN1 => ?_)
        obtain ⟨rfl, rfl, hP1, hF1⟩ := hp
        have hP := hP.prt hP1 hF1
        have hF := hF.join hF1 (Nat.le_refl _) (fun _ h => Or.inl h)
        refine z_aload_n X d_Prt_printNode_183 rfl ?_
        refine z_aload_n X d_Prt_printNode_184 rfl ?_
        refine z_iload_n X d_Prt_printNode_185 rfl ?_
        refine z_aload_n X d_Prt_printNode_186 rfl ?_
        refine z_iload_n X d_Prt_printNode_187 rfl ?_
        refine z_callV X zG_ok (c_Tre_rightOf (hP.sub (wc := wTre ck (A 3) (A 4) (A 5) (A 6) n9 K V R u) [3, 4, 5, 6] (by decide) rfl) hu hn) d_Prt_printNode_188 ⟨(z_cb (n := 1) X.2.2.2.2.1 ml_Prt_61 mc_Tre_rightOf ini_Tre (by decide +kernel) rfl rfl (zR_le (by omega) (by decide))), X.2.2.2.2.1 _ im_Tre_rightOf, X.2.2.2.2.1 _ sel_Tre_rightOf⟩ (hP.lo 3 rfl) (hP.at 3 rfl) cl_Tre rfl rfl (Nat.le_of_ble_eq_true rfl) ⟨Nat.le_of_ble_eq_true rfl, Nat.le_of_ble_eq_true rfl⟩ (fun r N1 f1 hp hN1 => ?_)
        obtain ⟨rfl, rfl, rfl⟩ := hp
        refine z_iload_n X d_Prt_printNode_191 rfl ?_
        refine z_callV X zG_ok (c_Prt_printBelow hP (by repeat (first | with_reducible exact hl | with_reducible apply pPut_len | with_reducible apply pAdd_len)) hu hn hn39 hN hx9) d_Prt_printNode_192 ⟨(z_cb (n := 4) X.2.2.2.2.1 ml_Prt_38 mc_Prt_printBelow ini_Prt (by decide +kernel) rfl rfl (zR_le (by omega) (by decide))), X.2.2.2.2.1 _ im_Prt_printBelow, X.2.2.2.2.1 _ sel_Prt_printBelow⟩ (hP.lo 0 rfl) (hP.at 0 rfl) cl_Prt rfl rfl (Nat.le_of_ble_eq_true rfl) ⟨Nat.le_of_ble_eq_true rfl, Nat.le_of_ble_eq_true rfl⟩ (fun r N1 f1 hp hN1 => ?_)
        obtain ⟨rfl, rfl, hP, hF1⟩ := hp
        have hF := hF.join hF1 (Nat.le_refl _) (fun _ h => Or.inl h)
        exact z_vret X d_Prt_printNode_195 ⟨rfl, rfl, by first | exact absurd g16 h113 | exact absurd h113 (ne4 g16) | (rw [e8]; (try simp only [pPut_app, pPut_1]); exact hP), hF⟩
      | 8, _, hx =>
        have g16 : _ = (10 : Int32) := hx
        have g16 : sgv K u q0 = 10 := g16
        have e8 : pTxt K V R u (n + 1) q0 = pBel K R u (pTxt K V R u n) q0 (tleft K u q0) ++ (pSig (sgv K u q0) ++ pBel K R u (pTxt K V R u n) q0 (sgv R u q0)) := by rw [pTxt, g16]; rfl
        refine zW.topc (pc' := 165) rfl ?_
        refine z_aload_n X d_Prt_printNode_165 rfl ?_
        refine z_aload_n X d_Prt_printNode_166 rfl ?_
        refine z_iload_n X d_Prt_printNode_167 rfl ?_
        refine z_aload_n X d_Prt_printNode_168 rfl ?_
        refine z_iload_n X d_Prt_printNode_169 rfl ?_
        refine z_callV X zG_ok (c_Tre_leftOf (hP.sub (wc := wTre ck (A 3) (A 4) (A 5) (A 6) n9 K V R u) [3, 4, 5, 6] (by decide) rfl) hu hn) d_Prt_printNode_170 ⟨(z_cb (n := 1) X.2.2.2.2.1 ml_Prt_35 mc_Tre_leftOf ini_Tre (by decide +kernel) rfl rfl (zR_le (by omega) (by decide))), X.2.2.2.2.1 _ im_Tre_leftOf, X.2.2.2.2.1 _ sel_Tre_leftOf⟩ (hP.lo 3 rfl) (hP.at 3 rfl) cl_Tre rfl rfl (Nat.le_of_ble_eq_true rfl) ⟨Nat.le_of_ble_eq_true rfl, Nat.le_of_ble_eq_true rfl⟩ (fun r N1 f1 hp hN1 => ?_)
        obtain ⟨rfl, rfl, rfl⟩ := hp
        refine z_iload_n X d_Prt_printNode_173 rfl ?_
        refine z_callV X zG_ok (c_Prt_printBelow hP (by repeat (first | with_reducible exact hl | with_reducible apply pPut_len | with_reducible apply pAdd_len)) hu hn hn39 hN hx9) d_Prt_printNode_174 ⟨(z_cb (n := 4) X.2.2.2.2.1 ml_Prt_38 mc_Prt_printBelow ini_Prt (by decide +kernel) rfl rfl (zR_le (by omega) (by decide))), X.2.2.2.2.1 _ im_Prt_printBelow, X.2.2.2.2.1 _ sel_Prt_printBelow⟩ (hP.lo 0 rfl) (hP.at 0 rfl) cl_Prt rfl rfl (Nat.le_of_ble_eq_true rfl) ⟨Nat.le_of_ble_eq_true rfl, Nat.le_of_ble_eq_true rfl⟩ (fun r N1 f1 hp hN1 => ?_)
        obtain ⟨rfl, rfl, hP, hF1⟩ := hp
        have hF := hF.join hF1 (Nat.le_refl _) (fun _ h => Or.inl h)
        refine z_aload_n X d_Prt_printNode_177 rfl ?_
        refine z_iload X d_Prt_printNode_178 rfl ?_
        refine z_callV X zG_ok (c_Prt_addSignOf (hP.sub (wc := wPr ck A _) [0, 1, 2] (by decide) rfl) (by repeat (first | with_reducible exact hl | with_reducible apply pPut_len | with_reducible apply pAdd_len))) d_Prt_printNode_180 ⟨(z_cb (n := 1) X.2.2.2.2.1 ml_Prt_57 mc_Prt_addSignOf ini_Prt (by decide +kernel) rfl rfl (zR_le (by omega) (by decide))), X.2.2.2.2.1 _ im_Prt_addSignOf, X.2.2.2.2.1 _ sel_Prt_addSignOf⟩ (hP.lo 0 rfl) (hP.at 0 rfl) cl_Prt rfl rfl (Nat.le_of_ble_eq_true rfl) ⟨Nat.le_of_ble_eq_true rfl, Nat.le_of_ble_eq_true rfl⟩ (fun r N1 f1 hp hN1 => ?_)
        obtain ⟨rfl, rfl, hP1, hF1⟩ := hp
        have hP := hP.prt hP1 hF1
        have hF := hF.join hF1 (Nat.le_refl _) (fun _ h => Or.inl h)
        refine z_aload_n X d_Prt_printNode_183 rfl ?_
        refine z_aload_n X d_Prt_printNode_184 rfl ?_
        refine z_iload_n X d_Prt_printNode_185 rfl ?_
        refine z_aload_n X d_Prt_printNode_186 rfl ?_
        refine z_iload_n X d_Prt_printNode_187 rfl ?_
        refine z_callV X zG_ok (c_Tre_rightOf (hP.sub (wc := wTre ck (A 3) (A 4) (A 5) (A 6) n9 K V R u) [3, 4, 5, 6] (by decide) rfl) hu hn) d_Prt_printNode_188 ⟨(z_cb (n := 1) X.2.2.2.2.1 ml_Prt_61 mc_Tre_rightOf ini_Tre (by decide +kernel) rfl rfl (zR_le (by omega) (by decide))), X.2.2.2.2.1 _ im_Tre_rightOf, X.2.2.2.2.1 _ sel_Tre_rightOf⟩ (hP.lo 3 rfl) (hP.at 3 rfl) cl_Tre rfl rfl (Nat.le_of_ble_eq_true rfl) ⟨Nat.le_of_ble_eq_true rfl, Nat.le_of_ble_eq_true rfl⟩ (fun r N1 f1 hp hN1 => ?_)
        obtain ⟨rfl, rfl, rfl⟩ := hp
        refine z_iload_n X d_Prt_printNode_191 rfl ?_
        refine z_callV X zG_ok (c_Prt_printBelow hP (by repeat (first | with_reducible exact hl | with_reducible apply pPut_len | with_reducible apply pAdd_len)) hu hn hn39 hN hx9) d_Prt_printNode_192 ⟨(z_cb (n := 4) X.2.2.2.2.1 ml_Prt_38 mc_Prt_printBelow ini_Prt (by decide +kernel) rfl rfl (zR_le (by omega) (by decide))), X.2.2.2.2.1 _ im_Prt_printBelow, X.2.2.2.2.1 _ sel_Prt_printBelow⟩ (hP.lo 0 rfl) (hP.at 0 rfl) cl_Prt rfl rfl (Nat.le_of_ble_eq_true rfl) ⟨Nat.le_of_ble_eq_true rfl, Nat.le_of_ble_eq_true rfl⟩ (fun r N1 f1 hp hN1 => ?_)
        obtain ⟨rfl, rfl, hP, hF1⟩ := hp
        have hF := hF.join hF1 (Nat.le_refl _) (fun _ h => Or.inl h)
        exact z_vret X d_Prt_printNode_195 ⟨rfl, rfl, by first | exact absurd g16 h113 | exact absurd h113 (ne4 g16) | (rw [e8]; (try simp only [pPut_app, pPut_1]); exact hP), hF⟩
      | 9, _, hx =>
        have g16 : _ = (11 : Int32) := hx
        have g16 : sgv K u q0 = 11 := g16
        have e8 : pTxt K V R u (n + 1) q0 = pTerm (sgv K u q0) (sgv V u q0) := by rw [pTxt, g16]; rfl
        refine zW.topc (pc' := 151) rfl ?_
        refine z_aload_n X d_Prt_printNode_151 rfl ?_
        refine z_iload X d_Prt_printNode_152 rfl ?_
        refine z_aload_n X d_Prt_printNode_154 rfl ?_
        refine z_iload_n X d_Prt_printNode_155 rfl ?_
        refine z_callV X zG_ok (c_Tre_valueOf (hP.sub (wc := wTre ck (A 3) (A 4) (A 5) (A 6) n9 K V R u) [3, 4, 5, 6] (by decide) rfl) hu hn) d_Prt_printNode_156 ⟨(z_cb (n := 1) X.2.2.2.2.1 ml_Prt_50 mc_Tre_valueOf ini_Tre (by decide +kernel) rfl rfl (zR_le (by omega) (by decide))), X.2.2.2.2.1 _ im_Tre_valueOf, X.2.2.2.2.1 _ sel_Tre_valueOf⟩ (hP.lo 3 rfl) (hP.at 3 rfl) cl_Tre rfl rfl (Nat.le_of_ble_eq_true rfl) ⟨Nat.le_of_ble_eq_true rfl, Nat.le_of_ble_eq_true rfl⟩ (fun r N1 f1 hp hN1 => ?_)
        obtain ⟨rfl, rfl, rfl⟩ := hp
        refine z_callV X zG_ok (c_Prt_printTerm (hP.sub (wc := wPr ck A ps) [0, 1, 2] (by decide) rfl) hl) d_Prt_printNode_159 ⟨(z_cb (n := 2) X.2.2.2.2.1 ml_Prt_53 mc_Prt_printTerm ini_Prt (by decide +kernel) rfl rfl (zR_le (by omega) (by decide))), X.2.2.2.2.1 _ im_Prt_printTerm, X.2.2.2.2.1 _ sel_Prt_printTerm⟩ (hP.lo 0 rfl) (hP.at 0 rfl) cl_Prt rfl rfl (Nat.le_of_ble_eq_true rfl) ⟨Nat.le_of_ble_eq_true rfl, Nat.le_of_ble_eq_true rfl⟩ (fun r N1 f1 hp hN1 => ?_)
        obtain ⟨rfl, rfl, hP1, hF1⟩ := hp
        have hP := hP.prt hP1 hF1
        have hF := hF.join hF1 (Nat.le_refl _) (fun _ h => Or.inl h)
        refine z_goto X 195 d_Prt_printNode_162 (by decide) ?_
        exact z_vret X d_Prt_printNode_195 ⟨rfl, rfl, by first | exact absurd g16 h113 | exact absurd h113 (ne4 g16) | (rw [e8]; (try simp only [pPut_app, pPut_1]); exact hP), hF⟩
      | 10, _, hx =>
        have g16 : _ = (12 : Int32) := hx
        have g16 : sgv K u q0 = 12 := g16
        have e8 : pTxt K V R u (n + 1) q0 = pTerm (sgv K u q0) (sgv V u q0) := by rw [pTxt, g16]; rfl
        refine zW.topc (pc' := 151) rfl ?_
        refine z_aload_n X d_Prt_printNode_151 rfl ?_
        refine z_iload X d_Prt_printNode_152 rfl ?_
        refine z_aload_n X d_Prt_printNode_154 rfl ?_
        refine z_iload_n X d_Prt_printNode_155 rfl ?_
        refine z_callV X zG_ok (c_Tre_valueOf (hP.sub (wc := wTre ck (A 3) (A 4) (A 5) (A 6) n9 K V R u) [3, 4, 5, 6] (by decide) rfl) hu hn) d_Prt_printNode_156 ⟨(z_cb (n := 1) X.2.2.2.2.1 ml_Prt_50 mc_Tre_valueOf ini_Tre (by decide +kernel) rfl rfl (zR_le (by omega) (by decide))), X.2.2.2.2.1 _ im_Tre_valueOf, X.2.2.2.2.1 _ sel_Tre_valueOf⟩ (hP.lo 3 rfl) (hP.at 3 rfl) cl_Tre rfl rfl (Nat.le_of_ble_eq_true rfl) ⟨Nat.le_of_ble_eq_true rfl, Nat.le_of_ble_eq_true rfl⟩ (fun r N1 f1 hp hN1 => ?_)
        obtain ⟨rfl, rfl, rfl⟩ := hp
        refine z_callV X zG_ok (c_Prt_printTerm (hP.sub (wc := wPr ck A ps) [0, 1, 2] (by decide) rfl) hl) d_Prt_printNode_159 ⟨(z_cb (n := 2) X.2.2.2.2.1 ml_Prt_53 mc_Prt_printTerm ini_Prt (by decide +kernel) rfl rfl (zR_le (by omega) (by decide))), X.2.2.2.2.1 _ im_Prt_printTerm, X.2.2.2.2.1 _ sel_Prt_printTerm⟩ (hP.lo 0 rfl) (hP.at 0 rfl) cl_Prt rfl rfl (Nat.le_of_ble_eq_true rfl) ⟨Nat.le_of_ble_eq_true rfl, Nat.le_of_ble_eq_true rfl⟩ (fun r N1 f1 hp hN1 => ?_)
        obtain ⟨rfl, rfl, hP1, hF1⟩ := hp
        have hP := hP.prt hP1 hF1
        have hF := hF.join hF1 (Nat.le_refl _) (fun _ h => Or.inl h)
        refine z_goto X 195 d_Prt_printNode_162 (by decide) ?_
        exact z_vret X d_Prt_printNode_195 ⟨rfl, rfl, by first | exact absurd g16 h113 | exact absurd h113 (ne4 g16) | (rw [e8]; (try simp only [pPut_app, pPut_1]); exact hP), hF⟩
      | 11, _, hx =>
        have g16 : _ = (13 : Int32) := hx
        have g16 : sgv K u q0 = 13 := g16
        have e8 : pTxt K V R u (n + 1) q0 = pTerm (sgv K u q0) (sgv V u q0) := by rw [pTxt, g16]; rfl
        refine zW.topc (pc' := 151) rfl ?_
        refine z_aload_n X d_Prt_printNode_151 rfl ?_
        refine z_iload X d_Prt_printNode_152 rfl ?_
        refine z_aload_n X d_Prt_printNode_154 rfl ?_
        refine z_iload_n X d_Prt_printNode_155 rfl ?_
        refine z_callV X zG_ok (c_Tre_valueOf (hP.sub (wc := wTre ck (A 3) (A 4) (A 5) (A 6) n9 K V R u) [3, 4, 5, 6] (by decide) rfl) hu hn) d_Prt_printNode_156 ⟨(z_cb (n := 1) X.2.2.2.2.1 ml_Prt_50 mc_Tre_valueOf ini_Tre (by decide +kernel) rfl rfl (zR_le (by omega) (by decide))), X.2.2.2.2.1 _ im_Tre_valueOf, X.2.2.2.2.1 _ sel_Tre_valueOf⟩ (hP.lo 3 rfl) (hP.at 3 rfl) cl_Tre rfl rfl (Nat.le_of_ble_eq_true rfl) ⟨Nat.le_of_ble_eq_true rfl, Nat.le_of_ble_eq_true rfl⟩ (fun r N1 f1 hp hN1 => ?_)
        obtain ⟨rfl, rfl, rfl⟩ := hp
        refine z_callV X zG_ok (c_Prt_printTerm (hP.sub (wc := wPr ck A ps) [0, 1, 2] (by decide) rfl) hl) d_Prt_printNode_159 ⟨(z_cb (n := 2) X.2.2.2.2.1 ml_Prt_53 mc_Prt_printTerm ini_Prt (by decide +kernel) rfl rfl (zR_le (by omega) (by decide))), X.2.2.2.2.1 _ im_Prt_printTerm, X.2.2.2.2.1 _ sel_Prt_printTerm⟩ (hP.lo 0 rfl) (hP.at 0 rfl) cl_Prt rfl rfl (Nat.le_of_ble_eq_true rfl) ⟨Nat.le_of_ble_eq_true rfl, Nat.le_of_ble_eq_true rfl⟩ (fun r N1 f1 hp hN1 => ?_)
        obtain ⟨rfl, rfl, hP1, hF1⟩ := hp
        have hP := hP.prt hP1 hF1
        have hF := hF.join hF1 (Nat.le_refl _) (fun _ h => Or.inl h)
        refine z_goto X 195 d_Prt_printNode_162 (by decide) ?_
        exact z_vret X d_Prt_printNode_195 ⟨rfl, rfl, by first | exact absurd g16 h113 | exact absurd h113 (ne4 g16) | (rw [e8]; (try simp only [pPut_app, pPut_1]); exact hP), hF⟩
      | 12, _, hx =>
        have g16 : _ = (14 : Int32) := hx
        have g16 : sgv K u q0 = 14 := g16
        have e8 : pTxt K V R u (n + 1) q0 = pTerm (sgv K u q0) (sgv V u q0) := by rw [pTxt, g16]; rfl
        refine zW.topc (pc' := 151) rfl ?_
        refine z_aload_n X d_Prt_printNode_151 rfl ?_
        refine z_iload X d_Prt_printNode_152 rfl ?_
        refine z_aload_n X d_Prt_printNode_154 rfl ?_
        refine z_iload_n X d_Prt_printNode_155 rfl ?_
        refine z_callV X zG_ok (c_Tre_valueOf (hP.sub (wc := wTre ck (A 3) (A 4) (A 5) (A 6) n9 K V R u) [3, 4, 5, 6] (by decide) rfl) hu hn) d_Prt_printNode_156 ⟨(z_cb (n := 1) X.2.2.2.2.1 ml_Prt_50 mc_Tre_valueOf ini_Tre (by decide +kernel) rfl rfl (zR_le (by omega) (by decide))), X.2.2.2.2.1 _ im_Tre_valueOf, X.2.2.2.2.1 _ sel_Tre_valueOf⟩ (hP.lo 3 rfl) (hP.at 3 rfl) cl_Tre rfl rfl (Nat.le_of_ble_eq_true rfl) ⟨Nat.le_of_ble_eq_true rfl, Nat.le_of_ble_eq_true rfl⟩ (fun r N1 f1 hp hN1 => ?_)
        obtain ⟨rfl, rfl, rfl⟩ := hp
        refine z_callV X zG_ok (c_Prt_printTerm (hP.sub (wc := wPr ck A ps) [0, 1, 2] (by decide) rfl) hl) d_Prt_printNode_159 ⟨(z_cb (n := 2) X.2.2.2.2.1 ml_Prt_53 mc_Prt_printTerm ini_Prt (by decide +kernel) rfl rfl (zR_le (by omega) (by decide))), X.2.2.2.2.1 _ im_Prt_printTerm, X.2.2.2.2.1 _ sel_Prt_printTerm⟩ (hP.lo 0 rfl) (hP.at 0 rfl) cl_Prt rfl rfl (Nat.le_of_ble_eq_true rfl) ⟨Nat.le_of_ble_eq_true rfl, Nat.le_of_ble_eq_true rfl⟩ (fun r N1 f1 hp hN1 => ?_)
        obtain ⟨rfl, rfl, hP1, hF1⟩ := hp
        have hP := hP.prt hP1 hF1
        have hF := hF.join hF1 (Nat.le_refl _) (fun _ h => Or.inl h)
        refine z_goto X 195 d_Prt_printNode_162 (by decide) ?_
        exact z_vret X d_Prt_printNode_195 ⟨rfl, rfl, by first | exact absurd g16 h113 | exact absurd h113 (ne4 g16) | (rw [e8]; (try simp only [pPut_app, pPut_1]); exact hP), hF⟩
      | j + 13, hi, _ => exact absurd hi (by simp)
    · skip
      have g16_0 : ¬ _ = (2 : Int32) := hd 0 (by decide)
      have g16_1 : ¬ _ = (3 : Int32) := hd 1 (by decide)
      have g16_2 : ¬ _ = (4 : Int32) := hd 2 (by decide)
      have g16_3 : ¬ _ = (5 : Int32) := hd 3 (by decide)
      have g16_4 : ¬ _ = (6 : Int32) := hd 4 (by decide)
      have g16_5 : ¬ _ = (7 : Int32) := hd 5 (by decide)
      have g16_6 : ¬ _ = (8 : Int32) := hd 6 (by decide)
      have g16_7 : ¬ _ = (9 : Int32) := hd 7 (by decide)
      have g16_8 : ¬ _ = (10 : Int32) := hd 8 (by decide)
      have g16_9 : ¬ _ = (11 : Int32) := hd 9 (by decide)
      have g16_10 : ¬ _ = (12 : Int32) := hd 10 (by decide)
      have g16_11 : ¬ _ = (13 : Int32) := hd 11 (by decide)
      have g16_12 : ¬ _ = (14 : Int32) := hd 12 (by decide)
      have e8 : pTxt K V R u (n + 1) q0 = pBel K R u (pTxt K V R u n) q0 (tleft K u q0) ++ (pSig (sgv K u q0) ++ pBel K R u (pTxt K V R u n) q0 (sgv R u q0)) := by rw [pTxt, if_neg g16_0, if_neg g16_1, if_neg g16_2, if_neg (fun z => z.elim g16_9 (fun z => z.elim g16_10 (fun z => z.elim g16_11 g16_12)))]
      refine z_aload_n X d_Prt_printNode_165 rfl ?_
      refine z_aload_n X d_Prt_printNode_166 rfl ?_
      refine z_iload_n X d_Prt_printNode_167 rfl ?_
      refine z_aload_n X d_Prt_printNode_168 rfl ?_
      refine z_iload_n X d_Prt_printNode_169 rfl ?_
      refine z_callV X zG_ok (c_Tre_leftOf (hP.sub (wc := wTre ck (A 3) (A 4) (A 5) (A 6) n9 K V R u) [3, 4, 5, 6] (by decide) rfl) hu hn) d_Prt_printNode_170 ⟨(z_cb (n := 1) X.2.2.2.2.1 ml_Prt_35 mc_Tre_leftOf ini_Tre (by decide +kernel) rfl rfl (zR_le (by omega) (by decide))), X.2.2.2.2.1 _ im_Tre_leftOf, X.2.2.2.2.1 _ sel_Tre_leftOf⟩ (hP.lo 3 rfl) (hP.at 3 rfl) cl_Tre rfl rfl (Nat.le_of_ble_eq_true rfl) ⟨Nat.le_of_ble_eq_true rfl, Nat.le_of_ble_eq_true rfl⟩ (fun r N1 f1 hp hN1 => ?_)
      obtain ⟨rfl, rfl, rfl⟩ := hp
      refine z_iload_n X d_Prt_printNode_173 rfl ?_
      refine z_callV X zG_ok (c_Prt_printBelow hP (by repeat (first | with_reducible exact hl | with_reducible apply pPut_len | with_reducible apply pAdd_len)) hu hn hn39 hN hx9) d_Prt_printNode_174 ⟨(z_cb (n := 4) X.2.2.2.2.1 ml_Prt_38 mc_Prt_printBelow ini_Prt (by decide +kernel) rfl rfl (zR_le (by omega) (by decide))), X.2.2.2.2.1 _ im_Prt_printBelow, X.2.2.2.2.1 _ sel_Prt_printBelow⟩ (hP.lo 0 rfl) (hP.at 0 rfl) cl_Prt rfl rfl (Nat.le_of_ble_eq_true rfl) ⟨Nat.le_of_ble_eq_true rfl, Nat.le_of_ble_eq_true rfl⟩ (fun r N1 f1 hp hN1 => ?_)
      obtain ⟨rfl, rfl, hP, hF1⟩ := hp
      have hF := hF.join hF1 (Nat.le_refl _) (fun _ h => Or.inl h)
      refine z_aload_n X d_Prt_printNode_177 rfl ?_
      refine z_iload X d_Prt_printNode_178 rfl ?_
      refine z_callV X zG_ok (c_Prt_addSignOf (hP.sub (wc := wPr ck A _) [0, 1, 2] (by decide) rfl) (by repeat (first | with_reducible exact hl | with_reducible apply pPut_len | with_reducible apply pAdd_len))) d_Prt_printNode_180 ⟨(z_cb (n := 1) X.2.2.2.2.1 ml_Prt_57 mc_Prt_addSignOf ini_Prt (by decide +kernel) rfl rfl (zR_le (by omega) (by decide))), X.2.2.2.2.1 _ im_Prt_addSignOf, X.2.2.2.2.1 _ sel_Prt_addSignOf⟩ (hP.lo 0 rfl) (hP.at 0 rfl) cl_Prt rfl rfl (Nat.le_of_ble_eq_true rfl) ⟨Nat.le_of_ble_eq_true rfl, Nat.le_of_ble_eq_true rfl⟩ (fun r N1 f1 hp hN1 => ?_)
      obtain ⟨rfl, rfl, hP1, hF1⟩ := hp
      have hP := hP.prt hP1 hF1
      have hF := hF.join hF1 (Nat.le_refl _) (fun _ h => Or.inl h)
      refine z_aload_n X d_Prt_printNode_183 rfl ?_
      refine z_aload_n X d_Prt_printNode_184 rfl ?_
      refine z_iload_n X d_Prt_printNode_185 rfl ?_
      refine z_aload_n X d_Prt_printNode_186 rfl ?_
      refine z_iload_n X d_Prt_printNode_187 rfl ?_
      refine z_callV X zG_ok (c_Tre_rightOf (hP.sub (wc := wTre ck (A 3) (A 4) (A 5) (A 6) n9 K V R u) [3, 4, 5, 6] (by decide) rfl) hu hn) d_Prt_printNode_188 ⟨(z_cb (n := 1) X.2.2.2.2.1 ml_Prt_61 mc_Tre_rightOf ini_Tre (by decide +kernel) rfl rfl (zR_le (by omega) (by decide))), X.2.2.2.2.1 _ im_Tre_rightOf, X.2.2.2.2.1 _ sel_Tre_rightOf⟩ (hP.lo 3 rfl) (hP.at 3 rfl) cl_Tre rfl rfl (Nat.le_of_ble_eq_true rfl) ⟨Nat.le_of_ble_eq_true rfl, Nat.le_of_ble_eq_true rfl⟩ (fun r N1 f1 hp hN1 => ?_)
      obtain ⟨rfl, rfl, rfl⟩ := hp
      refine z_iload_n X d_Prt_printNode_191 rfl ?_
      refine z_callV X zG_ok (c_Prt_printBelow hP (by repeat (first | with_reducible exact hl | with_reducible apply pPut_len | with_reducible apply pAdd_len)) hu hn hn39 hN hx9) d_Prt_printNode_192 ⟨(z_cb (n := 4) X.2.2.2.2.1 ml_Prt_38 mc_Prt_printBelow ini_Prt (by decide +kernel) rfl rfl (zR_le (by omega) (by decide))), X.2.2.2.2.1 _ im_Prt_printBelow, X.2.2.2.2.1 _ sel_Prt_printBelow⟩ (hP.lo 0 rfl) (hP.at 0 rfl) cl_Prt rfl rfl (Nat.le_of_ble_eq_true rfl) ⟨Nat.le_of_ble_eq_true rfl, Nat.le_of_ble_eq_true rfl⟩ (fun r N1 f1 hp hN1 => ?_)
      obtain ⟨rfl, rfl, hP, hF1⟩ := hp
      have hF := hF.join hF1 (Nat.le_refl _) (fun _ h => Or.inl h)
      exact z_vret X d_Prt_printNode_195 ⟨rfl, rfl, by first | exact absurd g16 h113 | exact absurd h113 (ne4 g16) | (rw [e8]; (try simp only [pPut_app, pPut_1]); exact hP), hF⟩
  · skip
    exact absurd (by rw [hx9]; exact nI_lt (a := 39 - n) (b := 40) (by omega) (by decide)) h3
set_option maxHeartbeats 4000000 in
set_option maxRecDepth 100000 in
theorem c_Prt_printNode0 {n9 : Nat} {K V R : Nat → Int32} {u : Nat} (hP : zP b0 N f (wPT ck A ps n9 K V R u)) (hl : ps.2 ≤ 200) (hu : u ≤ n9) (hn : n9 ≤ 40) {q0 x : Int32} (hx : x = nI 40) : zK l D ck ad b0 y_Prt_printNode prog_3_method_3_code 5 (none) 6 0 0 [.ref (A 0), .ref (A 3), .int q0, .int x] N f (fun r N' f' => r = none ∧ N = N' ∧ zP b0 N f' (wPT ck A (pPut (pTxt K V R u 0 q0) ps) n9 K V R u) ∧ zF N f f' [A 1, A 2]) := by
  refine zM.of zG_w (by decide) (Nat.le_of_ble_eq_true rfl) ?_
  intro zp ze zst zm zar zbe zme zc X hnm hb0
  have hF : zF N f f [A 1, A 2] := zF.rf
  refine z_iload_n X d_Prt_printNode_0 rfl ?_
  refine z_bipush X d_Prt_printNode_1 (v := 40) (by decide) ?_
  refine z_icmp_lt X 7 d_Prt_printNode_3 (by decide) (fun h3 => ?_) (fun h3 => ?_)
  · skip
    exact absurd h3 (by rw [hx]; decide)
  · skip
    exact z_vret X d_Prt_printNode_6 ⟨rfl, rfl, hP, hF⟩
set_option maxHeartbeats 4000000 in
set_option maxRecDepth 100000 in
theorem pN_all {n9 : Nat} {K V R : Nat → Int32} {u : Nat} (hu : u ≤ n9) (hn : n9 ≤ 40) : ∀ n, n ≤ 40 → pN l D ck ad b0 A n9 K V R u n := by
  intro n
  induction n with
  | zero => intro _ N f ps i x hP hl hx; exact c_Prt_printNode0 hP hl hu hn hx
  | succ n ih => intro h N f ps i x hP hl hx; exact c_Prt_printNodeS hP hl hu hn (by omega) (ih (by omega)) (by rw [hx, show 40 - (n + 1) = 39 - n by omega])
theorem d_Prt_printTree_0 : decode prog_3_method_2_code 0 = .ok (.aload_n 0, 1) := by decide +kernel
theorem d_Prt_printTree_1 : decode prog_3_method_2_code 1 = .ok (.getfield 12, 3) := by decide +kernel
theorem d_Prt_printTree_4 : decode prog_3_method_2_code 4 = .ok (.invokevirtual 18, 3) := by decide +kernel
theorem d_Prt_printTree_7 : decode prog_3_method_2_code 7 = .ok (.aload_n 0, 1) := by decide +kernel
theorem d_Prt_printTree_8 : decode prog_3_method_2_code 8 = .ok (.aload_n 1, 1) := by decide +kernel
theorem d_Prt_printTree_9 : decode prog_3_method_2_code 9 = .ok (.iconst 0, 1) := by decide +kernel
theorem d_Prt_printTree_10 : decode prog_3_method_2_code 10 = .ok (.iconst 0, 1) := by decide +kernel
theorem d_Prt_printTree_11 : decode prog_3_method_2_code 11 = .ok (.invokevirtual 21, 3) := by decide +kernel
theorem d_Prt_printTree_14 : decode prog_3_method_2_code 14 = .ok (.return_, 1) := by decide +kernel
set_option maxHeartbeats 4000000 in
set_option maxRecDepth 100000 in
theorem c_Prt_printTree {n9 : Nat} {K V R : Nat → Int32} {u : Nat} (hP : zP b0 N f (wPT ck A ps n9 K V R u)) (hl : ps.2 ≤ 200) (hu : u ≤ n9) (hn : n9 ≤ 40) : zK l D ck ad b0 y_Prt_printTree prog_3_method_2_code 2 (none) 87 0 0 [.ref (A 0), .ref (A 3)] N f (fun r N' f' => r = none ∧ N = N' ∧ zP b0 N f' (wPT ck A (pPut (pTxt K V R u 40 0) (ps.1, 0)) n9 K V R u) ∧ zF N f f' [A 1, A 2]) := by
  refine zM.of zG_w (by decide) (Nat.le_of_ble_eq_true rfl) ?_
  intro zp ze zst zm zar zbe zme zc X hnm hb0
  have hF : zF N f f [A 1, A 2] := zF.rf
  refine z_aload_n X d_Prt_printTree_0 rfl ?_
  refine z_get X d_Prt_printTree_1 (hP.lo 0 rfl) (hP.at 0 rfl) cl_Prt in_Prt 0 (by decide) fl_Prt_12 rfl rfl ?_
  refine z_callV X zG_ok (c_Sgn_clear (u := ps.2) (g := ps.1) (hP.sub [1, 2] (by decide) rfl)) d_Prt_printTree_4 ⟨(z_cb (n := 0) X.2.2.2.2.1 ml_Prt_18 mc_Sgn_clear ini_Sgn (by decide +kernel) rfl rfl ⟨Nat.le_of_ble_eq_true rfl, Nat.le_of_ble_eq_true rfl⟩), X.2.2.2.2.1 _ im_Sgn_clear, X.2.2.2.2.1 _ sel_Sgn_clear⟩ (hP.lo 1 rfl) (hP.at 1 rfl) cl_Sgn rfl rfl (Nat.le_of_ble_eq_true rfl) ⟨Nat.le_of_ble_eq_true rfl, Nat.le_of_ble_eq_true rfl⟩ (fun r N1 f1 hp hN1 => ?_)
  obtain ⟨rfl, rfl, rfl⟩ := hp
  have hP : zP b0 N _ (wPT ck A (ps.1, 0) n9 K V R u) := hP.put 1 rfl (oSgn (A 2) 0)
  have hF := hF.put (a := A 1) (by simp) (oSgn (A 2) 0)
  refine z_aload_n X d_Prt_printTree_7 rfl ?_
  refine z_aload_n X d_Prt_printTree_8 rfl ?_
  refine z_iconst X d_Prt_printTree_9 (v := 0) (by decide) ?_
  refine z_iconst X d_Prt_printTree_10 (v := 0) (by decide) ?_
  refine z_callV X zG_ok (pN_all hu hn 40 (Nat.le_refl _) _ _ (ps.1, 0) 0 0 hP (Nat.zero_le _) rfl) d_Prt_printTree_11 ⟨(z_cb (n := 3) X.2.2.2.2.1 ml_Prt_21 mc_Prt_printNode ini_Prt (by decide +kernel) rfl rfl ⟨Nat.le_of_ble_eq_true rfl, Nat.le_of_ble_eq_true rfl⟩), X.2.2.2.2.1 _ im_Prt_printNode, X.2.2.2.2.1 _ sel_Prt_printNode⟩ (hP.lo 0 rfl) (hP.at 0 rfl) cl_Prt rfl rfl (Nat.le_of_ble_eq_true rfl) ⟨Nat.le_of_ble_eq_true rfl, Nat.le_of_ble_eq_true rfl⟩ (fun r N1 f1 hp hN1 => ?_)
  obtain ⟨rfl, rfl, hP, hF1⟩ := hp
  have hF := hF.join hF1 (Nat.le_refl _) (fun _ h => Or.inl h)
  exact z_vret X d_Prt_printTree_14 ⟨rfl, rfl, hP, hF⟩
end
