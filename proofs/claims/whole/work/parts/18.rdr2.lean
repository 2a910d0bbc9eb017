/-- Reader.readWord: the token, and the ints behind it -/
def zWord (g : Nat → Int32) (len : Nat) (q : Nat → Int32) : Int32 × (Nat → Int32) :=
  if zwd g len (upd q 10 (zsk zlet g len 200 (q 10))) 1 = true then ((if (zNum g len 2 (upd q 10 (zsk zlet g len 200 (q 10)))).1 = true then (if 20 ≤ (zNum g len 2 (upd q 10 (zsk zlet g len 200 (q 10)))).2 13 then 1 else 3) else 1), (zNum g len 2 (upd q 10 (zsk zlet g len 200 (q 10)))).2)
  else ((if zwd g len (upd q 10 (zsk zlet g len 200 (q 10))) 2 = true then 4 else if zwd g len (upd q 10 (zsk zlet g len 200 (q 10))) 3 = true then 5 else if zwd g len (upd q 10 (zsk zlet g len 200 (q 10))) 4 = true then 6 else if zwd g len (upd q 10 (zsk zlet g len 200 (q 10))) 5 = true then 7 else 1), upd q 10 (zsk zlet g len 200 (q 10)))
/-- Reader.readToken behind the blanks: place p -/
def zTok2 (g : Nat → Int32) (len : Nat) (q : Nat → Int32) : Nat → Int32 :=
  if sgv g len (q 10) = -1 then upd q 11 0
  else if zdig (sgv g len (q 10)) = true then upd (zNum g len 7 q).2 11 (if (zNum g len 7 q).1 = true then 2 else 1)
  else if zlet (sgv g len (q 10)) = true then upd (zWord g len q).2 11 (zWord g len q).1
  else upd (upd q 11 (sgv g len (q 10))) 10 (q 10 + 1)
def zTok (g : Nat → Int32) (len : Nat) (q : Nat → Int32) : Nat → Int32 := zTok2 g len (upd (upd q 10 (zsk zbl g len 200 (q 10))) 12 (zsk zbl g len 200 (q 10)))
section
variable {l : Launch} {D : va_G} {ck : Nat → ClassId} {ad : (Nat → Nat) × (Nat → Nat)} {b0 N : Nat} {f : Nat → va_E}
variable {A : Nat → Nat} {g : Nat → Int32} {len : Nat} {st : RSt}
theorem upd_self10 (q : Nat → Int32) (k : Nat) : upd q k (q k) = q := by
  funext j
  by_cases h : j = k
  · subst h; simp [upd]
  · simp [upd, h]
theorem d_Rdr_readWord_0 : decode prog_4_method_17_code 0 = .ok (.iconst 0, 1) := by decide +kernel
theorem d_Rdr_readWord_1 : decode prog_4_method_17_code 1 = .ok (.istore_n 1, 1) := by decide +kernel
theorem d_Rdr_readWord_2 : decode prog_4_method_17_code 2 = .ok (.iload_n 1, 1) := by decide +kernel
theorem d_Rdr_readWord_3 : decode prog_4_method_17_code 3 = .ok (.sipush 200, 3) := by decide +kernel
theorem d_Rdr_readWord_6 : decode prog_4_method_17_code 6 = .ok (.if_icmp .ge 36, 3) := by decide +kernel
theorem d_Rdr_readWord_9 : decode prog_4_method_17_code 9 = .ok (.aload_n 0, 1) := by decide +kernel
theorem d_Rdr_readWord_10 : decode prog_4_method_17_code 10 = .ok (.getfield 12, 3) := by decide +kernel
theorem d_Rdr_readWord_13 : decode prog_4_method_17_code 13 = .ok (.aload_n 0, 1) := by decide +kernel
theorem d_Rdr_readWord_14 : decode prog_4_method_17_code 14 = .ok (.getfield 42, 3) := by decide +kernel
theorem d_Rdr_readWord_17 : decode prog_4_method_17_code 17 = .ok (.invokevirtual 132, 3) := by decide +kernel
theorem d_Rdr_readWord_20 : decode prog_4_method_17_code 20 = .ok (.invokestatic 141, 3) := by decide +kernel
theorem d_Rdr_readWord_23 : decode prog_4_method_17_code 23 = .ok (.ifCond .eq 19, 3) := by decide +kernel
theorem d_Rdr_readWord_26 : decode prog_4_method_17_code 26 = .ok (.aload_n 0, 1) := by decide +kernel
theorem d_Rdr_readWord_27 : decode prog_4_method_17_code 27 = .ok (.dup, 1) := by decide +kernel
theorem d_Rdr_readWord_28 : decode prog_4_method_17_code 28 = .ok (.getfield 42, 3) := by decide +kernel
theorem d_Rdr_readWord_31 : decode prog_4_method_17_code 31 = .ok (.iconst 1, 1) := by decide +kernel
theorem d_Rdr_readWord_32 : decode prog_4_method_17_code 32 = .ok (.iadd, 1) := by decide +kernel
theorem d_Rdr_readWord_33 : decode prog_4_method_17_code 33 = .ok (.putfield 42, 3) := by decide +kernel
theorem d_Rdr_readWord_36 : decode prog_4_method_17_code 36 = .ok (.iinc 1 1, 3) := by decide +kernel
theorem d_Rdr_readWord_39 : decode prog_4_method_17_code 39 = .ok (.goto (-37), 3) := by decide +kernel
theorem d_Rdr_readWord_42 : decode prog_4_method_17_code 42 = .ok (.aload_n 0, 1) := by decide +kernel
theorem d_Rdr_readWord_43 : decode prog_4_method_17_code 43 = .ok (.ldc 147, 2) := by decide +kernel
theorem d_Rdr_readWord_45 : decode prog_4_method_17_code 45 = .ok (.invokevirtual 149, 3) := by decide +kernel
theorem d_Rdr_readWord_48 : decode prog_4_method_17_code 48 = .ok (.ifCond .eq 26, 3) := by decide +kernel
theorem d_Rdr_readWord_51 : decode prog_4_method_17_code 51 = .ok (.aload_n 0, 1) := by decide +kernel
theorem d_Rdr_readWord_52 : decode prog_4_method_17_code 52 = .ok (.iconst 2, 1) := by decide +kernel
theorem d_Rdr_readWord_53 : decode prog_4_method_17_code 53 = .ok (.invokevirtual 138, 3) := by decide +kernel
theorem d_Rdr_readWord_56 : decode prog_4_method_17_code 56 = .ok (.ifCond .eq 16, 3) := by decide +kernel
theorem d_Rdr_readWord_59 : decode prog_4_method_17_code 59 = .ok (.aload_n 0, 1) := by decide +kernel
theorem d_Rdr_readWord_60 : decode prog_4_method_17_code 60 = .ok (.getfield 105, 3) := by decide +kernel
theorem d_Rdr_readWord_63 : decode prog_4_method_17_code 63 = .ok (.bipush 20, 2) := by decide +kernel
theorem d_Rdr_readWord_65 : decode prog_4_method_17_code 65 = .ok (.if_icmp .ge 7, 3) := by decide +kernel
theorem d_Rdr_readWord_68 : decode prog_4_method_17_code 68 = .ok (.iconst 3, 1) := by decide +kernel
theorem d_Rdr_readWord_69 : decode prog_4_method_17_code 69 = .ok (.goto 4, 3) := by decide +kernel
theorem d_Rdr_readWord_72 : decode prog_4_method_17_code 72 = .ok (.iconst 1, 1) := by decide +kernel
theorem d_Rdr_readWord_73 : decode prog_4_method_17_code 73 = .ok (.ireturn, 1) := by decide +kernel
theorem d_Rdr_readWord_74 : decode prog_4_method_17_code 74 = .ok (.aload_n 0, 1) := by decide +kernel
theorem d_Rdr_readWord_75 : decode prog_4_method_17_code 75 = .ok (.ldc 153, 2) := by decide +kernel
theorem d_Rdr_readWord_77 : decode prog_4_method_17_code 77 = .ok (.invokevirtual 149, 3) := by decide +kernel
theorem d_Rdr_readWord_80 : decode prog_4_method_17_code 80 = .ok (.ifCond .eq 5, 3) := by decide +kernel
theorem d_Rdr_readWord_83 : decode prog_4_method_17_code 83 = .ok (.iconst 4, 1) := by decide +kernel
theorem d_Rdr_readWord_84 : decode prog_4_method_17_code 84 = .ok (.ireturn, 1) := by decide +kernel
theorem d_Rdr_readWord_85 : decode prog_4_method_17_code 85 = .ok (.aload_n 0, 1) := by decide +kernel
theorem d_Rdr_readWord_86 : decode prog_4_method_17_code 86 = .ok (.ldc 155, 2) := by decide +kernel
theorem d_Rdr_readWord_88 : decode prog_4_method_17_code 88 = .ok (.invokevirtual 149, 3) := by decide +kernel
theorem d_Rdr_readWord_91 : decode prog_4_method_17_code 91 = .ok (.ifCond .eq 5, 3) := by decide +kernel
theorem d_Rdr_readWord_94 : decode prog_4_method_17_code 94 = .ok (.iconst 5, 1) := by decide +kernel
theorem d_Rdr_readWord_95 : decode prog_4_method_17_code 95 = .ok (.ireturn, 1) := by decide +kernel
theorem d_Rdr_readWord_96 : decode prog_4_method_17_code 96 = .ok (.aload_n 0, 1) := by decide +kernel
theorem d_Rdr_readWord_97 : decode prog_4_method_17_code 97 = .ok (.ldc 157, 2) := by decide +kernel
theorem d_Rdr_readWord_99 : decode prog_4_method_17_code 99 = .ok (.invokevirtual 149, 3) := by decide +kernel
theorem d_Rdr_readWord_102 : decode prog_4_method_17_code 102 = .ok (.ifCond .eq 6, 3) := by decide +kernel
theorem d_Rdr_readWord_105 : decode prog_4_method_17_code 105 = .ok (.bipush 6, 2) := by decide +kernel
theorem d_Rdr_readWord_107 : decode prog_4_method_17_code 107 = .ok (.ireturn, 1) := by decide +kernel
theorem d_Rdr_readWord_108 : decode prog_4_method_17_code 108 = .ok (.aload_n 0, 1) := by decide +kernel
theorem d_Rdr_readWord_109 : decode prog_4_method_17_code 109 = .ok (.ldc 159, 2) := by decide +kernel
theorem d_Rdr_readWord_111 : decode prog_4_method_17_code 111 = .ok (.invokevirtual 149, 3) := by decide +kernel
theorem d_Rdr_readWord_114 : decode prog_4_method_17_code 114 = .ok (.ifCond .eq 8, 3) := by decide +kernel
theorem d_Rdr_readWord_117 : decode prog_4_method_17_code 117 = .ok (.bipush 7, 2) := by decide +kernel
theorem d_Rdr_readWord_119 : decode prog_4_method_17_code 119 = .ok (.goto 4, 3) := by decide +kernel
theorem d_Rdr_readWord_122 : decode prog_4_method_17_code 122 = .ok (.iconst 1, 1) := by decide +kernel
theorem d_Rdr_readWord_123 : decode prog_4_method_17_code 123 = .ok (.ireturn, 1) := by decide +kernel
set_option maxHeartbeats 4000000 in
set_option maxRecDepth 100000 in
theorem c_Rdr_readWord (hP : zP b0 N f (wRdr ck A g len st)) (hlen : len ≤ 200) : zK l D ck ad b0 y_Rdr_readWord prog_4_method_17_code 2 ((some FieldType.int)) 5 0 0 [.ref (A 0)] N f (fun r N' f' => r = some (.int (zWord g len st.1).1) ∧ N = N' ∧ zP b0 N f' (wRdr ck A g len (((zWord g len st.1).2, st.2))) ∧ zF N f f' (AA A)) := by
  refine zM.of zG_w (by decide) (Nat.le_of_ble_eq_true rfl) ?_
  intro zp ze zst zm zar zbe zme zc X hnm hb0
  have hF : zF N f f (AA A) := zF.rf
  have L2 : ∀ (nn : Nat) (i : Nat) (p : Int32) (f1 : Nat → va_E), (i ≤ 200 ∧ i + nn = 201) → zsk zlet g len 200 (st.1 10) = zsk zlet g len (200 - i) p → zP b0 N f1 (wRdr ck A g len (upd st.1 10 p, st.2)) → zF N f f1 (AA A) → zW zp l ze (zR 5 0 0) zst zm zar zbe zme zc D zcl b0 2 0 0 (MQ zbe (zQ D zcl b0 (fun r N' f' => r = some (.int (zWord g len st.1).1) ∧ N = N' ∧ zP b0 N f' (wRdr ck A g len (((zWord g len st.1).2, st.2))) ∧ zF N f f' (AA A))) zar zst 0 0 (zA b0)) N f1 2 [(0, .ref (A 0)), (1, .int (nI i))] [] := by
    intro nn
    induction nn with
    | zero =>
      intro i p f1 hi hz0 hP hF
      omega
    | succ nn ih =>
      intro i p f1 hi hz0 hP hF
      refine z_iload_n X d_Rdr_readWord_2 rfl ?_
      refine z_sipush X d_Rdr_readWord_3 (v := 200) (by decide) ?_
      refine z_icmp_ge X 42 d_Rdr_readWord_6 (by decide) (fun h6 => ?_) (fun h6 => ?_)
      · skip
        have hi2 : i = 200 := by have := (nI_leI (a := 200) (b := i) (by decide) (by omega)).mp h6; omega
        subst hi2
        have hz : zsk zlet g len 200 (st.1 10) = p := hz0
        rw [← hz] at hP
        refine z_aload_n X d_Rdr_readWord_42 rfl ?_
        refine z_ldcS X d_Rdr_readWord_43 (zG_sr (j := 1) X.2.2.2.2.2.1 (by decide)) ?_
        refine z_callV X zG_ok (c_Rdr_isWord hP hlen (j := 1) (by decide)) d_Rdr_readWord_45 ⟨(z_cb (n := 1) X.2.2.2.2.1 ml_Rdr_149 mc_Rdr_isWord ini_Rdr (by decide +kernel) rfl rfl ⟨Nat.le_of_ble_eq_true rfl, Nat.le_of_ble_eq_true rfl⟩), X.2.2.2.2.1 _ im_Rdr_isWord, X.2.2.2.2.1 _ sel_Rdr_isWord⟩ (hP.lo 0 rfl) (hP.at 0 rfl) cl_Rdr rfl rfl (Nat.le_of_ble_eq_true rfl) ⟨Nat.le_of_ble_eq_true rfl, Nat.le_of_ble_eq_true rfl⟩ (fun r N1 f1 hp hN1 => ?_)
        obtain ⟨rfl, rfl, rfl⟩ := hp
        refine z_if_eq X 74 d_Rdr_readWord_48 (by decide) (fun h48 => ?_) (fun h48 => ?_)
        · skip
          have w1 := zb_f h48
          refine z_aload_n X d_Rdr_readWord_74 rfl ?_
          refine z_ldcS X d_Rdr_readWord_75 (zG_sr (j := 2) X.2.2.2.2.2.1 (by decide)) ?_
          refine z_callV X zG_ok (c_Rdr_isWord hP hlen (j := 2) (by decide)) d_Rdr_readWord_77 ⟨(z_cb (n := 1) X.2.2.2.2.1 ml_Rdr_149 mc_Rdr_isWord ini_Rdr (by decide +kernel) rfl rfl ⟨Nat.le_of_ble_eq_true rfl, Nat.le_of_ble_eq_true rfl⟩), X.2.2.2.2.1 _ im_Rdr_isWord, X.2.2.2.2.1 _ sel_Rdr_isWord⟩ (hP.lo 0 rfl) (hP.at 0 rfl) cl_Rdr rfl rfl (Nat.le_of_ble_eq_true rfl) ⟨Nat.le_of_ble_eq_true rfl, Nat.le_of_ble_eq_true rfl⟩ (fun r N1 f1 hp hN1 => ?_)
          obtain ⟨rfl, rfl, rfl⟩ := hp
          refine z_if_eq X 85 d_Rdr_readWord_80 (by decide) (fun h80 => ?_) (fun h80 => ?_)
          · skip
            have w2 := zb_f h80
            refine z_aload_n X d_Rdr_readWord_85 rfl ?_
            refine z_ldcS X d_Rdr_readWord_86 (zG_sr (j := 3) X.2.2.2.2.2.1 (by decide)) ?_
            refine z_callV X zG_ok (c_Rdr_isWord hP hlen (j := 3) (by decide)) d_Rdr_readWord_88 ⟨(z_cb (n := 1) X.2.2.2.2.1 ml_Rdr_149 mc_Rdr_isWord ini_Rdr (by decide +kernel) rfl rfl ⟨Nat.le_of_ble_eq_true rfl, Nat.le_of_ble_eq_true rfl⟩), X.2.2.2.2.1 _ im_Rdr_isWord, X.2.2.2.2.1 _ sel_Rdr_isWord⟩ (hP.lo 0 rfl) (hP.at 0 rfl) cl_Rdr rfl rfl (Nat.le_of_ble_eq_true rfl) ⟨Nat.le_of_ble_eq_true rfl, Nat.le_of_ble_eq_true rfl⟩ (fun r N1 f1 hp hN1 => ?_)
            obtain ⟨rfl, rfl, rfl⟩ := hp
            refine z_if_eq X 96 d_Rdr_readWord_91 (by decide) (fun h91 => ?_) (fun h91 => ?_)
            · skip
              have w3 := zb_f h91
              refine z_aload_n X d_Rdr_readWord_96 rfl ?_
              refine z_ldcS X d_Rdr_readWord_97 (zG_sr (j := 4) X.2.2.2.2.2.1 (by decide)) ?_
              refine z_callV X zG_ok (c_Rdr_isWord hP hlen (j := 4) (by decide)) d_Rdr_readWord_99 ⟨(z_cb (n := 1) X.2.2.2.2.1 ml_Rdr_149 mc_Rdr_isWord ini_Rdr (by decide +kernel) rfl rfl ⟨Nat.le_of_ble_eq_true rfl, Nat.le_of_ble_eq_true rfl⟩), X.2.2.2.2.1 _ im_Rdr_isWord, X.2.2.2.2.1 _ sel_Rdr_isWord⟩ (hP.lo 0 rfl) (hP.at 0 rfl) cl_Rdr rfl rfl (Nat.le_of_ble_eq_true rfl) ⟨Nat.le_of_ble_eq_true rfl, Nat.le_of_ble_eq_true rfl⟩ (fun r N1 f1 hp hN1 => ?_)
              obtain ⟨rfl, rfl, rfl⟩ := hp
              refine z_if_eq X 108 d_Rdr_readWord_102 (by decide) (fun h102 => ?_) (fun h102 => ?_)
              · skip
                have w4 := zb_f h102
                refine z_aload_n X d_Rdr_readWord_108 rfl ?_
                refine z_ldcS X d_Rdr_readWord_109 (zG_sr (j := 5) X.2.2.2.2.2.1 (by decide)) ?_
                refine z_callV X zG_ok (c_Rdr_isWord hP hlen (j := 5) (by decide)) d_Rdr_readWord_111 ⟨(z_cb (n := 1) X.2.2.2.2.1 ml_Rdr_149 mc_Rdr_isWord ini_Rdr (by decide +kernel) rfl rfl ⟨Nat.le_of_ble_eq_true rfl, Nat.le_of_ble_eq_true rfl⟩), X.2.2.2.2.1 _ im_Rdr_isWord, X.2.2.2.2.1 _ sel_Rdr_isWord⟩ (hP.lo 0 rfl) (hP.at 0 rfl) cl_Rdr rfl rfl (Nat.le_of_ble_eq_true rfl) ⟨Nat.le_of_ble_eq_true rfl, Nat.le_of_ble_eq_true rfl⟩ (fun r N1 f1 hp hN1 => ?_)
                obtain ⟨rfl, rfl, rfl⟩ := hp
                refine z_if_eq X 122 d_Rdr_readWord_114 (by decide) (fun h114 => ?_) (fun h114 => ?_)
                · skip
                  have w5 := zb_f h114
                  refine z_iconst X d_Rdr_readWord_122 (v := 1) (by decide) ?_
                  exact z_iret X d_Rdr_readWord_123 ⟨by first | (simp only [zWord]; rw [if_neg w1, if_neg w2, if_neg w3, if_neg w4, if_pos w5]) | (simp only [zWord]; rw [if_neg w1, if_neg w2, if_neg w3, if_neg w4, if_neg w5]), rfl, by simp only [zWord]; rw [if_neg w1]; exact hP, hF⟩
                · skip
                  have w5 := zb_t h114
                  refine z_bipush X d_Rdr_readWord_117 (v := 7) (by decide) ?_
                  refine z_goto X 123 d_Rdr_readWord_119 (by decide) ?_
                  exact z_iret X d_Rdr_readWord_123 ⟨by first | (simp only [zWord]; rw [if_neg w1, if_neg w2, if_neg w3, if_neg w4, if_pos w5]) | (simp only [zWord]; rw [if_neg w1, if_neg w2, if_neg w3, if_neg w4, if_neg w5]), rfl, by simp only [zWord]; rw [if_neg w1]; exact hP, hF⟩
              · skip
                have w4 := zb_t h102
                refine z_bipush X d_Rdr_readWord_105 (v := 6) (by decide) ?_
                exact z_iret X d_Rdr_readWord_107 ⟨by simp only [zWord]; rw [if_neg w1, if_neg w2, if_neg w3, if_pos w4], rfl, by simp only [zWord]; rw [if_neg w1]; exact hP, hF⟩
            · skip
              have w3 := zb_t h91
              refine z_iconst X d_Rdr_readWord_94 (v := 5) (by decide) ?_
              exact z_iret X d_Rdr_readWord_95 ⟨by simp only [zWord]; rw [if_neg w1, if_neg w2, if_pos w3], rfl, by simp only [zWord]; rw [if_neg w1]; exact hP, hF⟩
          · skip
            have w2 := zb_t h80
            refine z_iconst X d_Rdr_readWord_83 (v := 4) (by decide) ?_
            exact z_iret X d_Rdr_readWord_84 ⟨by simp only [zWord]; rw [if_neg w1, if_pos w2], rfl, by simp only [zWord]; rw [if_neg w1]; exact hP, hF⟩
        · skip
          have w1 := zb_t h48
          refine z_aload_n X d_Rdr_readWord_51 rfl ?_
          refine z_iconst X d_Rdr_readWord_52 (v := 2) (by decide) ?_
          refine z_callV X zG_ok (c_Rdr_readNumber hP hlen) d_Rdr_readWord_53 ⟨(z_cb (n := 1) X.2.2.2.2.1 ml_Rdr_138 mc_Rdr_readNumber ini_Rdr (by decide +kernel) rfl rfl ⟨Nat.le_of_ble_eq_true rfl, Nat.le_of_ble_eq_true rfl⟩), X.2.2.2.2.1 _ im_Rdr_readNumber, X.2.2.2.2.1 _ sel_Rdr_readNumber⟩ (hP.lo 0 rfl) (hP.at 0 rfl) cl_Rdr rfl rfl (Nat.le_of_ble_eq_true rfl) ⟨Nat.le_of_ble_eq_true rfl, Nat.le_of_ble_eq_true rfl⟩ (fun r N1 f1 hp hN1 => ?_)
          obtain ⟨rfl, rfl, hP, hF1⟩ := hp
          have hF := hF.join hF1 (Nat.le_refl _) (fun _ h => Or.inl h)
          refine z_if_eq X 72 d_Rdr_readWord_56 (by decide) (fun h56 => ?_) (fun h56 => ?_)
          · skip
            have nb := zb_0.mp h56
            refine z_iconst X d_Rdr_readWord_72 (v := 1) (by decide) ?_
            exact z_iret X d_Rdr_readWord_73 ⟨by first | (simp only [zWord]; rw [if_pos w1, if_pos nb, if_pos h65]) | (simp only [zWord]; rw [if_pos w1, if_pos nb, if_neg h65]) | (simp only [zWord]; rw [if_pos w1, if_neg (by rw [nb]; decide)]), rfl, by simp only [zWord]; rw [if_pos w1]; exact hP, hF⟩
          · skip
            have nb : (zNum g len 2 (upd st.1 10 (zsk zlet g len 200 (st.1 10)))).1 = true := by
              cases hq : (zNum g len 2 (upd st.1 10 (zsk zlet g len 200 (st.1 10)))).1
              · exact absurd (zb_0.mpr hq) h56
              · rfl
            refine z_aload_n X d_Rdr_readWord_59 rfl ?_
            refine z_get X d_Rdr_readWord_60 (hP.lo 0 rfl) (hP.at 0 rfl) cl_Rdr in_Rdr 13 (by decide) fl_Rdr_105 rfl rfl ?_
            refine z_bipush X d_Rdr_readWord_63 (v := 20) (by decide) ?_
            refine z_icmp_ge X 72 d_Rdr_readWord_65 (by decide) (fun h65 => ?_) (fun h65 => ?_)
            · skip
              refine z_iconst X d_Rdr_readWord_72 (v := 1) (by decide) ?_
              exact z_iret X d_Rdr_readWord_73 ⟨by first | (simp only [zWord]; rw [if_pos w1, if_pos nb, if_pos h65]) | (simp only [zWord]; rw [if_pos w1, if_pos nb, if_neg h65]) | (simp only [zWord]; rw [if_pos w1, if_neg (by rw [nb]; decide)]), rfl, by simp only [zWord]; rw [if_pos w1]; exact hP, hF⟩
            · skip
              refine z_iconst X d_Rdr_readWord_68 (v := 3) (by decide) ?_
              refine z_goto X 73 d_Rdr_readWord_69 (by decide) ?_
              exact z_iret X d_Rdr_readWord_73 ⟨by first | (simp only [zWord]; rw [if_pos w1, if_pos nb, if_pos h65]) | (simp only [zWord]; rw [if_pos w1, if_pos nb, if_neg h65]) | (simp only [zWord]; rw [if_pos w1, if_neg (by rw [nb]; decide)]), rfl, by simp only [zWord]; rw [if_pos w1]; exact hP, hF⟩
      · skip
        have hi2 : i < 200 := by
          rcases Nat.lt_or_ge i 200 with z | z
          · exact z
          · exact absurd (nI_le (a := 200) (b := i) z (by omega)) h6
        refine z_aload_n X d_Rdr_readWord_9 rfl ?_
        refine z_get X d_Rdr_readWord_10 (hP.lo 0 rfl) (hP.at 0 rfl) cl_Rdr in_Rdr 0 (by decide) fl_Rdr_12 rfl rfl ?_
        refine z_aload_n X d_Rdr_readWord_13 rfl ?_
        refine z_get X d_Rdr_readWord_14 (hP.lo 0 rfl) (hP.at 0 rfl) cl_Rdr in_Rdr 10 (by decide) fl_Rdr_42 rfl rfl ?_
        refine z_callV X zG_ok (c_Sgn_get (hP.sub [1, 2] (by decide) rfl) hlen) d_Rdr_readWord_17 ⟨(z_cb (n := 1) X.2.2.2.2.1 ml_Rdr_132 mc_Sgn_get ini_Sgn (by decide +kernel) rfl rfl ⟨Nat.le_of_ble_eq_true rfl, Nat.le_of_ble_eq_true rfl⟩), X.2.2.2.2.1 _ im_Sgn_get, X.2.2.2.2.1 _ sel_Sgn_get⟩ (hP.lo 1 rfl) (hP.at 1 rfl) cl_Sgn rfl rfl (Nat.le_of_ble_eq_true rfl) ⟨Nat.le_of_ble_eq_true rfl, Nat.le_of_ble_eq_true rfl⟩ (fun r N1 f1 hp hN1 => ?_)
        obtain ⟨rfl, rfl, rfl⟩ := hp
        refine z_callS X zG_ok c_Rdr_isLetter d_Rdr_readWord_20 ⟨(z_cb (n := 1) X.2.2.2.2.1 ml_Rdr_141 mc_Rdr_isLetter ini_Rdr (by decide +kernel) rfl rfl ⟨Nat.le_of_ble_eq_true rfl, Nat.le_of_ble_eq_true rfl⟩), X.2.2.2.2.1 _ st_Rdr_isLetter⟩ rfl rfl (Nat.le_of_ble_eq_true rfl) ⟨Nat.le_of_ble_eq_true rfl, Nat.le_of_ble_eq_true rfl⟩ (fun r N1 f1 hp hN1 => ?_)
        obtain ⟨rfl, rfl, rfl⟩ := hp
        refine z_if_eq X 42 d_Rdr_readWord_23 (by decide) (fun h23 => ?_) (fun h23 => ?_)
        · skip
          have hd : ¬ zlet (sgv g len p) = true := zb_f h23
          have hz : zsk zlet g len 200 (st.1 10) = p := by rw [hz0, show 200 - i = (200 - (i + 1)) + 1 by omega, zsk, if_neg hd]
          rw [← hz] at hP
          refine z_aload_n X d_Rdr_readWord_42 rfl ?_
          refine z_ldcS X d_Rdr_readWord_43 (zG_sr (j := 1) X.2.2.2.2.2.1 (by decide)) ?_
          refine z_callV X zG_ok (c_Rdr_isWord hP hlen (j := 1) (by decide)) d_Rdr_readWord_45 ⟨(z_cb (n := 1) X.2.2.2.2.1 ml_Rdr_149 mc_Rdr_isWord ini_Rdr (by decide +kernel) rfl rfl ⟨Nat.le_of_ble_eq_true rfl, Nat.le_of_ble_eq_true rfl⟩), X.2.2.2.2.1 _ im_Rdr_isWord, X.2.2.2.2.1 _ sel_Rdr_isWord⟩ (hP.lo 0 rfl) (hP.at 0 rfl) cl_Rdr rfl rfl (Nat.le_of_ble_eq_true rfl) ⟨Nat.le_of_ble_eq_true rfl, Nat.le_of_ble_eq_true rfl⟩ (fun r N1 f1 hp hN1 => ?_)
          obtain ⟨rfl, rfl, rfl⟩ := hp
          refine z_if_eq X 74 d_Rdr_readWord_48 (by decide) (fun h48 => ?_) (fun h48 => ?_)
          · skip
            have w1 := zb_f h48
            refine z_aload_n X d_Rdr_readWord_74 rfl ?_
            refine z_ldcS X d_Rdr_readWord_75 (zG_sr (j := 2) X.2.2.2.2.2.1 (by decide)) ?_
            refine z_callV X zG_ok (c_Rdr_isWord hP hlen (j := 2) (by decide)) d_Rdr_readWord_77 ⟨(z_cb (n := 1) X.2.2.2.2.1 ml_Rdr_149 mc_Rdr_isWord ini_Rdr (by decide +kernel) rfl rfl ⟨Nat.le_of_ble_eq_true rfl, Nat.le_of_ble_eq_true rfl⟩), X.2.2.2.2.1 _ im_Rdr_isWord, X.2.2.2.2.1 _ sel_Rdr_isWord⟩ (hP.lo 0 rfl) (hP.at 0 rfl) cl_Rdr rfl rfl (Nat.le_of_ble_eq_true rfl) ⟨Nat.le_of_ble_eq_true rfl, Nat.le_of_ble_eq_true rfl⟩ (fun r N1 f1 hp hN1 => ?_)
            obtain ⟨rfl, rfl, rfl⟩ := hp
            refine z_if_eq X 85 d_Rdr_readWord_80 (by decide) (fun h80 => ?_) (fun h80 => ?_)
            · skip
              have w2 := zb_f h80
              refine z_aload_n X d_Rdr_readWord_85 rfl ?_
              refine z_ldcS X d_Rdr_readWord_86 (zG_sr (j := 3) X.2.2.2.2.2.1 (by decide)) ?_
              refine z_callV X zG_ok (c_Rdr_isWord hP hlen (j := 3) (by decide)) d_Rdr_readWord_88 ⟨(z_cb (n := 1) X.2.2.2.2.1 ml_Rdr_149 mc_Rdr_isWord ini_Rdr (by decide +kernel) rfl rfl ⟨Nat.le_of_ble_eq_true rfl, Nat.le_of_ble_eq_true rfl⟩), X.2.2.2.2.1 _ im_Rdr_isWord, X.2.2.2.2.1 _ sel_Rdr_isWord⟩ (hP.lo 0 rfl) (hP.at 0 rfl) cl_Rdr rfl rfl (Nat.le_of_ble_eq_true rfl) ⟨Nat.le_of_ble_eq_true rfl, Nat.le_of_ble_eq_true rfl⟩ (fun r N1 f1 hp hN1 => ?_)
              obtain ⟨rfl, rfl, rfl⟩ := hp
              refine z_if_eq X 96 d_Rdr_readWord_91 (by decide) (fun h91 => ?_) (fun h91 => ?_)
              · skip
                have w3 := zb_f h91
                refine z_aload_n X d_Rdr_readWord_96 rfl ?_
                refine z_ldcS X d_Rdr_readWord_97 (zG_sr (j := 4) X.2.2.2.2.2.1 (by decide)) ?_
                refine z_callV X zG_ok (c_Rdr_isWord hP hlen (j := 4) (by decide)) d_Rdr_readWord_99 ⟨(z_cb (n := 1) X.2.2.2.2.1 ml_Rdr_149 mc_Rdr_isWord ini_Rdr (by decide +kernel) rfl rfl ⟨Nat.le_of_ble_eq_true rfl, Nat.le_of_ble_eq_true rfl⟩), X.2.2.2.2.1 _ im_Rdr_isWord, X.2.2.2.2.1 _ sel_Rdr_isWord⟩ (hP.lo 0 rfl) (hP.at 0 rfl) cl_Rdr rfl rfl (Nat.le_of_ble_eq_true rfl) ⟨Nat.le_of_ble_eq_true rfl, Nat.le_of_ble_eq_true rfl⟩ (fun r N1 f1 hp hN1 => ?_)
                obtain ⟨rfl, rfl, rfl⟩ := hp
                refine z_if_eq X 108 d_Rdr_readWord_102 (by decide) (fun h102 => ?_) (fun h102 => ?_)
                · skip
                  have w4 := zb_f h102
                  refine z_aload_n X d_Rdr_readWord_108 rfl ?_
                  refine z_ldcS X d_Rdr_readWord_109 (zG_sr (j := 5) X.2.2.2.2.2.1 (by decide)) ?_
                  refine z_callV X zG_ok (c_Rdr_isWord hP hlen (j := 5) (by decide)) d_Rdr_readWord_111 ⟨(z_cb (n := 1) X.2.2.2.2.1 ml_Rdr_149 mc_Rdr_isWord ini_Rdr (by decide +kernel) rfl rfl ⟨Nat.le_of_ble_eq_true rfl, Nat.le_of_ble_eq_true rfl⟩), X.2.2.2.2.1 _ im_Rdr_isWord, X.2.2.2.2.1 _ sel_Rdr_isWord⟩ (hP.lo 0 rfl) (hP.at 0 rfl) cl_Rdr rfl rfl (Nat.le_of_ble_eq_true rfl) ⟨Nat.le_of_ble_eq_true rfl, Nat.le_of_ble_eq_true rfl⟩ (fun r N1 f1 hp hN1 => ?_)
                  obtain ⟨rfl, rfl, rfl⟩ := hp
                  refine z_if_eq X 122 d_Rdr_readWord_114 (by decide) (fun h114 => ?_) (fun h114 => ?_)
                  · skip
                    have w5 := zb_f h114
                    refine z_iconst X d_Rdr_readWord_122 (v := 1) (by decide) ?_
                    exact z_iret X d_Rdr_readWord_123 ⟨by first | (simp only [zWord]; rw [if_neg w1, if_neg w2, if_neg w3, if_neg w4, if_pos w5]) | (simp only [zWord]; rw [if_neg w1, if_neg w2, if_neg w3, if_neg w4, if_neg w5]), rfl, by simp only [zWord]; rw [if_neg w1]; exact hP, hF⟩
                  · skip
                    have w5 := zb_t h114
                    refine z_bipush X d_Rdr_readWord_117 (v := 7) (by decide) ?_
                    refine z_goto X 123 d_Rdr_readWord_119 (by decide) ?_
                    exact z_iret X d_Rdr_readWord_123 ⟨by first | (simp only [zWord]; rw [if_neg w1, if_neg w2, if_neg w3, if_neg w4, if_pos w5]) | (simp only [zWord]; rw [if_neg w1, if_neg w2, if_neg w3, if_neg w4, if_neg w5]), rfl, by simp only [zWord]; rw [if_neg w1]; exact hP, hF⟩
                · skip
                  have w4 := zb_t h102
                  refine z_bipush X d_Rdr_readWord_105 (v := 6) (by decide) ?_
                  exact z_iret X d_Rdr_readWord_107 ⟨by simp only [zWord]; rw [if_neg w1, if_neg w2, if_neg w3, if_pos w4], rfl, by simp only [zWord]; rw [if_neg w1]; exact hP, hF⟩
              · skip
                have w3 := zb_t h91
                refine z_iconst X d_Rdr_readWord_94 (v := 5) (by decide) ?_
                exact z_iret X d_Rdr_readWord_95 ⟨by simp only [zWord]; rw [if_neg w1, if_neg w2, if_pos w3], rfl, by simp only [zWord]; rw [if_neg w1]; exact hP, hF⟩
            · skip
              have w2 := zb_t h80
              refine z_iconst X d_Rdr_readWord_83 (v := 4) (by decide) ?_
              exact z_iret X d_Rdr_readWord_84 ⟨by simp only [zWord]; rw [if_neg w1, if_pos w2], rfl, by simp only [zWord]; rw [if_neg w1]; exact hP, hF⟩
          · skip
            have w1 := zb_t h48
            refine z_aload_n X d_Rdr_readWord_51 rfl ?_
            refine z_iconst X d_Rdr_readWord_52 (v := 2) (by decide) ?_
            refine z_callV X zG_ok (c_Rdr_readNumber hP hlen) d_Rdr_readWord_53 ⟨(z_cb (n := 1) X.2.2.2.2.1 ml_Rdr_138 mc_Rdr_readNumber ini_Rdr (by decide +kernel) rfl rfl ⟨Nat.le_of_ble_eq_true rfl, Nat.le_of_ble_eq_true rfl⟩), X.2.2.2.2.1 _ im_Rdr_readNumber, X.2.2.2.2.1 _ sel_Rdr_readNumber⟩ (hP.lo 0 rfl) (hP.at 0 rfl) cl_Rdr rfl rfl (Nat.le_of_ble_eq_true rfl) ⟨Nat.le_of_ble_eq_true rfl, Nat.le_of_ble_eq_true rfl⟩ (fun r N1 f1 hp hN1 => ?_)
            obtain ⟨rfl, rfl, hP, hF1⟩ := hp
            have hF := hF.join hF1 (Nat.le_refl _) (fun _ h => Or.inl h)
            refine z_if_eq X 72 d_Rdr_readWord_56 (by decide) (fun h56 => ?_) (fun h56 => ?_)
            · skip
              have nb := zb_0.mp h56
              refine z_iconst X d_Rdr_readWord_72 (v := 1) (by decide) ?_
              exact z_iret X d_Rdr_readWord_73 ⟨by first | (simp only [zWord]; rw [if_pos w1, if_pos nb, if_pos h65]) | (simp only [zWord]; rw [if_pos w1, if_pos nb, if_neg h65]) | (simp only [zWord]; rw [if_pos w1, if_neg (by rw [nb]; decide)]), rfl, by simp only [zWord]; rw [if_pos w1]; exact hP, hF⟩
            · skip
              have nb : (zNum g len 2 (upd st.1 10 (zsk zlet g len 200 (st.1 10)))).1 = true := by
                cases hq : (zNum g len 2 (upd st.1 10 (zsk zlet g len 200 (st.1 10)))).1
                · exact absurd (zb_0.mpr hq) h56
                · rfl
              refine z_aload_n X d_Rdr_readWord_59 rfl ?_
              refine z_get X d_Rdr_readWord_60 (hP.lo 0 rfl) (hP.at 0 rfl) cl_Rdr in_Rdr 13 (by decide) fl_Rdr_105 rfl rfl ?_
              refine z_bipush X d_Rdr_readWord_63 (v := 20) (by decide) ?_
              refine z_icmp_ge X 72 d_Rdr_readWord_65 (by decide) (fun h65 => ?_) (fun h65 => ?_)
              · skip
                refine z_iconst X d_Rdr_readWord_72 (v := 1) (by decide) ?_
                exact z_iret X d_Rdr_readWord_73 ⟨by first | (simp only [zWord]; rw [if_pos w1, if_pos nb, if_pos h65]) | (simp only [zWord]; rw [if_pos w1, if_pos nb, if_neg h65]) | (simp only [zWord]; rw [if_pos w1, if_neg (by rw [nb]; decide)]), rfl, by simp only [zWord]; rw [if_pos w1]; exact hP, hF⟩
              · skip
                refine z_iconst X d_Rdr_readWord_68 (v := 3) (by decide) ?_
                refine z_goto X 73 d_Rdr_readWord_69 (by decide) ?_
                exact z_iret X d_Rdr_readWord_73 ⟨by first | (simp only [zWord]; rw [if_pos w1, if_pos nb, if_pos h65]) | (simp only [zWord]; rw [if_pos w1, if_pos nb, if_neg h65]) | (simp only [zWord]; rw [if_pos w1, if_neg (by rw [nb]; decide)]), rfl, by simp only [zWord]; rw [if_pos w1]; exact hP, hF⟩
        · skip
          have hd : zlet (sgv g len p) = true := zb_t h23
          refine z_aload_n X d_Rdr_readWord_26 rfl ?_
          refine z_dup X d_Rdr_readWord_27 rfl ?_
          refine z_get X d_Rdr_readWord_28 (hP.lo 0 rfl) (hP.at 0 rfl) cl_Rdr in_Rdr 10 (by decide) fl_Rdr_42 rfl rfl ?_
          refine z_iconst X d_Rdr_readWord_31 (v := 1) (by decide) ?_
          refine z_iadd X d_Rdr_readWord_32 ?_
          refine z_putP X t_Rdr ty_Rdr n_Rdr d_Rdr_readWord_33 hP 0 rfl cl_Rdr in_Rdr 10 (by decide) fl_Rdr_42 rfl rfl rfl rfl rfl (Nat.le_of_ble_eq_true rfl) (fun hP => ?_)
          have hF := hF.by (by simp) hP
          refine z_iinc X d_Rdr_readWord_36 rfl (nI_1 _) (by decide) rfl ?_
          refine z_goto X 2 d_Rdr_readWord_39 (by decide) ?_
          refine ih (i + 1) (p + 1) _ (by omega) ?_ hP hF
          rw [hz0, show 200 - i = (200 - (i + 1)) + 1 by omega, zsk, if_pos hd]
  refine z_iconst X d_Rdr_readWord_0 (v := 0) (by decide) ?_
  refine z_istore_n X d_Rdr_readWord_1 (by decide) rfl ?_
  exact L2 201 0 (st.1 10) f (by omega) rfl (by rw [upd_self10]; exact hP) hF
theorem d_Rdr_readToken_0 : decode prog_4_method_15_code 0 = .ok (.iconst 0, 1) := by decide +kernel
theorem d_Rdr_readToken_1 : decode prog_4_method_15_code 1 = .ok (.istore_n 1, 1) := by decide +kernel
theorem d_Rdr_readToken_2 : decode prog_4_method_15_code 2 = .ok (.iload_n 1, 1) := by decide +kernel
theorem d_Rdr_readToken_3 : decode prog_4_method_15_code 3 = .ok (.sipush 200, 3) := by decide +kernel
theorem d_Rdr_readToken_6 : decode prog_4_method_15_code 6 = .ok (.if_icmp .ge 35, 3) := by decide +kernel
theorem d_Rdr_readToken_9 : decode prog_4_method_15_code 9 = .ok (.aload_n 0, 1) := by decide +kernel
theorem d_Rdr_readToken_10 : decode prog_4_method_15_code 10 = .ok (.getfield 12, 3) := by decide +kernel
theorem d_Rdr_readToken_13 : decode prog_4_method_15_code 13 = .ok (.aload_n 0, 1) := by decide +kernel
theorem d_Rdr_readToken_14 : decode prog_4_method_15_code 14 = .ok (.getfield 42, 3) := by decide +kernel
theorem d_Rdr_readToken_17 : decode prog_4_method_15_code 17 = .ok (.invokevirtual 132, 3) := by decide +kernel
theorem d_Rdr_readToken_20 : decode prog_4_method_15_code 20 = .ok (.bipush 32, 2) := by decide +kernel
theorem d_Rdr_readToken_22 : decode prog_4_method_15_code 22 = .ok (.if_icmp .ne 19, 3) := by decide +kernel
theorem d_Rdr_readToken_25 : decode prog_4_method_15_code 25 = .ok (.aload_n 0, 1) := by decide +kernel
theorem d_Rdr_readToken_26 : decode prog_4_method_15_code 26 = .ok (.dup, 1) := by decide +kernel
theorem d_Rdr_readToken_27 : decode prog_4_method_15_code 27 = .ok (.getfield 42, 3) := by decide +kernel
theorem d_Rdr_readToken_30 : decode prog_4_method_15_code 30 = .ok (.iconst 1, 1) := by decide +kernel
theorem d_Rdr_readToken_31 : decode prog_4_method_15_code 31 = .ok (.iadd, 1) := by decide +kernel
theorem d_Rdr_readToken_32 : decode prog_4_method_15_code 32 = .ok (.putfield 42, 3) := by decide +kernel
theorem d_Rdr_readToken_35 : decode prog_4_method_15_code 35 = .ok (.iinc 1 1, 3) := by decide +kernel
theorem d_Rdr_readToken_38 : decode prog_4_method_15_code 38 = .ok (.goto (-36), 3) := by decide +kernel
theorem d_Rdr_readToken_41 : decode prog_4_method_15_code 41 = .ok (.aload_n 0, 1) := by decide +kernel
theorem d_Rdr_readToken_42 : decode prog_4_method_15_code 42 = .ok (.aload_n 0, 1) := by decide +kernel
theorem d_Rdr_readToken_43 : decode prog_4_method_15_code 43 = .ok (.getfield 42, 3) := by decide +kernel
theorem d_Rdr_readToken_46 : decode prog_4_method_15_code 46 = .ok (.putfield 60, 3) := by decide +kernel
theorem d_Rdr_readToken_49 : decode prog_4_method_15_code 49 = .ok (.aload_n 0, 1) := by decide +kernel
theorem d_Rdr_readToken_50 : decode prog_4_method_15_code 50 = .ok (.getfield 12, 3) := by decide +kernel
theorem d_Rdr_readToken_53 : decode prog_4_method_15_code 53 = .ok (.aload_n 0, 1) := by decide +kernel
theorem d_Rdr_readToken_54 : decode prog_4_method_15_code 54 = .ok (.getfield 42, 3) := by decide +kernel
theorem d_Rdr_readToken_57 : decode prog_4_method_15_code 57 = .ok (.invokevirtual 132, 3) := by decide +kernel
theorem d_Rdr_readToken_60 : decode prog_4_method_15_code 60 = .ok (.istore_n 1, 1) := by decide +kernel
theorem d_Rdr_readToken_61 : decode prog_4_method_15_code 61 = .ok (.iload_n 1, 1) := by decide +kernel
theorem d_Rdr_readToken_62 : decode prog_4_method_15_code 62 = .ok (.iconst (-1), 1) := by decide +kernel
theorem d_Rdr_readToken_63 : decode prog_4_method_15_code 63 = .ok (.if_icmp .ne 11, 3) := by decide +kernel
theorem d_Rdr_readToken_66 : decode prog_4_method_15_code 66 = .ok (.aload_n 0, 1) := by decide +kernel
theorem d_Rdr_readToken_67 : decode prog_4_method_15_code 67 = .ok (.iconst 0, 1) := by decide +kernel
theorem d_Rdr_readToken_68 : decode prog_4_method_15_code 68 = .ok (.putfield 63, 3) := by decide +kernel
theorem d_Rdr_readToken_71 : decode prog_4_method_15_code 71 = .ok (.goto 64, 3) := by decide +kernel
theorem d_Rdr_readToken_74 : decode prog_4_method_15_code 74 = .ok (.iload_n 1, 1) := by decide +kernel
theorem d_Rdr_readToken_75 : decode prog_4_method_15_code 75 = .ok (.invokestatic 135, 3) := by decide +kernel
theorem d_Rdr_readToken_78 : decode prog_4_method_15_code 78 = .ok (.ifCond .eq 24, 3) := by decide +kernel
theorem d_Rdr_readToken_81 : decode prog_4_method_15_code 81 = .ok (.aload_n 0, 1) := by decide +kernel
theorem d_Rdr_readToken_82 : decode prog_4_method_15_code 82 = .ok (.aload_n 0, 1) := by decide +kernel
theorem d_Rdr_readToken_83 : decode prog_4_method_15_code 83 = .ok (.bipush 7, 2) := by decide +kernel
theorem d_Rdr_readToken_85 : decode prog_4_method_15_code 85 = .ok (.invokevirtual 138, 3) := by decide +kernel
theorem d_Rdr_readToken_88 : decode prog_4_method_15_code 88 = .ok (.ifCond .eq 7, 3) := by decide +kernel
theorem d_Rdr_readToken_91 : decode prog_4_method_15_code 91 = .ok (.iconst 2, 1) := by decide +kernel
theorem d_Rdr_readToken_92 : decode prog_4_method_15_code 92 = .ok (.goto 4, 3) := by decide +kernel
theorem d_Rdr_readToken_95 : decode prog_4_method_15_code 95 = .ok (.iconst 1, 1) := by decide +kernel
theorem d_Rdr_readToken_96 : decode prog_4_method_15_code 96 = .ok (.putfield 63, 3) := by decide +kernel
theorem d_Rdr_readToken_99 : decode prog_4_method_15_code 99 = .ok (.goto 36, 3) := by decide +kernel
theorem d_Rdr_readToken_102 : decode prog_4_method_15_code 102 = .ok (.iload_n 1, 1) := by decide +kernel
theorem d_Rdr_readToken_103 : decode prog_4_method_15_code 103 = .ok (.invokestatic 141, 3) := by decide +kernel
theorem d_Rdr_readToken_106 : decode prog_4_method_15_code 106 = .ok (.ifCond .eq 14, 3) := by decide +kernel
theorem d_Rdr_readToken_109 : decode prog_4_method_15_code 109 = .ok (.aload_n 0, 1) := by decide +kernel
theorem d_Rdr_readToken_110 : decode prog_4_method_15_code 110 = .ok (.aload_n 0, 1) := by decide +kernel
theorem d_Rdr_readToken_111 : decode prog_4_method_15_code 111 = .ok (.invokevirtual 144, 3) := by decide +kernel
theorem d_Rdr_readToken_114 : decode prog_4_method_15_code 114 = .ok (.putfield 63, 3) := by decide +kernel
theorem d_Rdr_readToken_117 : decode prog_4_method_15_code 117 = .ok (.goto 18, 3) := by decide +kernel
theorem d_Rdr_readToken_120 : decode prog_4_method_15_code 120 = .ok (.aload_n 0, 1) := by decide +kernel
theorem d_Rdr_readToken_121 : decode prog_4_method_15_code 121 = .ok (.iload_n 1, 1) := by decide +kernel
theorem d_Rdr_readToken_122 : decode prog_4_method_15_code 122 = .ok (.putfield 63, 3) := by decide +kernel
theorem d_Rdr_readToken_125 : decode prog_4_method_15_code 125 = .ok (.aload_n 0, 1) := by decide +kernel
theorem d_Rdr_readToken_126 : decode prog_4_method_15_code 126 = .ok (.dup, 1) := by decide +kernel
theorem d_Rdr_readToken_127 : decode prog_4_method_15_code 127 = .ok (.getfield 42, 3) := by decide +kernel
theorem d_Rdr_readToken_130 : decode prog_4_method_15_code 130 = .ok (.iconst 1, 1) := by decide +kernel
theorem d_Rdr_readToken_131 : decode prog_4_method_15_code 131 = .ok (.iadd, 1) := by decide +kernel
theorem d_Rdr_readToken_132 : decode prog_4_method_15_code 132 = .ok (.putfield 42, 3) := by decide +kernel
theorem d_Rdr_readToken_135 : decode prog_4_method_15_code 135 = .ok (.return_, 1) := by decide +kernel
set_option maxHeartbeats 4000000 in
set_option maxRecDepth 100000 in
theorem c_Rdr_readToken (hP : zP b0 N f (wRdr ck A g len st)) (hlen : len ≤ 200) : zK l D ck ad b0 y_Rdr_readToken prog_4_method_15_code 2 (none) 6 0 0 [.ref (A 0)] N f (fun r N' f' => r = none ∧ N = N' ∧ zP b0 N f' (wRdr ck A g len ((zTok g len st.1, st.2))) ∧ zF N f f' (AA A)) := by
  refine zM.of zG_w (by decide) (Nat.le_of_ble_eq_true rfl) ?_
  intro zp ze zst zm zar zbe zme zc X hnm hb0
  have hF : zF N f f (AA A) := zF.rf
  have L2 : ∀ (nn : Nat) (i : Nat) (p : Int32) (f1 : Nat → va_E), (i ≤ 200 ∧ i + nn = 201) → zsk zbl g len 200 (st.1 10) = zsk zbl g len (200 - i) p → zP b0 N f1 (wRdr ck A g len (upd st.1 10 p, st.2)) → zF N f f1 (AA A) → zW zp l ze (zR 6 0 0) zst zm zar zbe zme zc D zcl b0 2 0 0 (MQ zbe (zQ D zcl b0 (fun r N' f' => r = none ∧ N = N' ∧ zP b0 N f' (wRdr ck A g len ((zTok g len st.1, st.2))) ∧ zF N f f' (AA A))) zar zst 0 0 (zA b0)) N f1 2 [(0, .ref (A 0)), (1, .int (nI i))] [] := by
    intro nn
    induction nn with
    | zero =>
      intro i p f1 hi hz0 hP hF
      omega
    | succ nn ih =>
      intro i p f1 hi hz0 hP hF
      refine z_iload_n X d_Rdr_readToken_2 rfl ?_
      refine z_sipush X d_Rdr_readToken_3 (v := 200) (by decide) ?_
      refine z_icmp_ge X 41 d_Rdr_readToken_6 (by decide) (fun h6 => ?_) (fun h6 => ?_)
      · skip
        have hi2 : i = 200 := by have := (nI_leI (a := 200) (b := i) (by decide) (by omega)).mp h6; omega
        subst hi2
        have hz : zsk zbl g len 200 (st.1 10) = p := hz0
        have ez : zTok g len st.1 = zTok2 g len (upd (upd st.1 10 p) 12 p) := by rw [zTok, hz]
        refine z_aload_n X d_Rdr_readToken_41 rfl ?_
        refine z_aload_n X d_Rdr_readToken_42 rfl ?_
        refine z_get X d_Rdr_readToken_43 (hP.lo 0 rfl) (hP.at 0 rfl) cl_Rdr in_Rdr 10 (by decide) fl_Rdr_42 rfl rfl ?_
        refine z_putP X t_Rdr ty_Rdr n_Rdr d_Rdr_readToken_46 hP 0 rfl cl_Rdr in_Rdr 12 (by decide) fl_Rdr_60 rfl rfl rfl rfl rfl (Nat.le_of_ble_eq_true rfl) (fun hP => ?_)
        have hF := hF.by (by simp) hP
        refine z_aload_n X d_Rdr_readToken_49 rfl ?_
        refine z_get X d_Rdr_readToken_50 (hP.lo 0 rfl) (hP.at 0 rfl) cl_Rdr in_Rdr 0 (by decide) fl_Rdr_12 rfl rfl ?_
        refine z_aload_n X d_Rdr_readToken_53 rfl ?_
        refine z_get X d_Rdr_readToken_54 (hP.lo 0 rfl) (hP.at 0 rfl) cl_Rdr in_Rdr 10 (by decide) fl_Rdr_42 rfl rfl ?_
        refine z_callV X zG_ok (c_Sgn_get (hP.sub [1, 2] (by decide) rfl) hlen) d_Rdr_readToken_57 ⟨(z_cb (n := 1) X.2.2.2.2.1 ml_Rdr_132 mc_Sgn_get ini_Sgn (by decide +kernel) rfl rfl ⟨Nat.le_of_ble_eq_true rfl, Nat.le_of_ble_eq_true rfl⟩), X.2.2.2.2.1 _ im_Sgn_get, X.2.2.2.2.1 _ sel_Sgn_get⟩ (hP.lo 1 rfl) (hP.at 1 rfl) cl_Sgn rfl rfl (Nat.le_of_ble_eq_true rfl) ⟨Nat.le_of_ble_eq_true rfl, Nat.le_of_ble_eq_true rfl⟩ (fun r N1 f1 hp hN1 => ?_)
        obtain ⟨rfl, rfl, rfl⟩ := hp
        refine z_istore_n X d_Rdr_readToken_60 (by decide) rfl ?_
        refine z_iload_n X d_Rdr_readToken_61 rfl ?_
        refine z_iconst X d_Rdr_readToken_62 (v := -1) (by decide) ?_
        refine z_icmp_ne X 74 d_Rdr_readToken_63 (by decide) (fun h63 => ?_) (fun h63 => ?_)
        · skip
          have h63 : ¬ sgv g len p = -1 := h63
          refine z_iload_n X d_Rdr_readToken_74 rfl ?_
          refine z_callS X zG_ok c_Rdr_isDigit d_Rdr_readToken_75 ⟨(z_cb (n := 1) X.2.2.2.2.1 ml_Rdr_135 mc_Rdr_isDigit ini_Rdr (by decide +kernel) rfl rfl ⟨Nat.le_of_ble_eq_true rfl, Nat.le_of_ble_eq_true rfl⟩), X.2.2.2.2.1 _ st_Rdr_isDigit⟩ rfl rfl (Nat.le_of_ble_eq_true rfl) ⟨Nat.le_of_ble_eq_true rfl, Nat.le_of_ble_eq_true rfl⟩ (fun r N1 f1 hp hN1 => ?_)
          obtain ⟨rfl, rfl, rfl⟩ := hp
          refine z_if_eq X 102 d_Rdr_readToken_78 (by decide) (fun h78 => ?_) (fun h78 => ?_)
          · skip
            have hdg : ¬ zdig (sgv g len p) = true := zb_f h78
            refine z_iload_n X d_Rdr_readToken_102 rfl ?_
            refine z_callS X zG_ok c_Rdr_isLetter d_Rdr_readToken_103 ⟨(z_cb (n := 1) X.2.2.2.2.1 ml_Rdr_141 mc_Rdr_isLetter ini_Rdr (by decide +kernel) rfl rfl ⟨Nat.le_of_ble_eq_true rfl, Nat.le_of_ble_eq_true rfl⟩), X.2.2.2.2.1 _ st_Rdr_isLetter⟩ rfl rfl (Nat.le_of_ble_eq_true rfl) ⟨Nat.le_of_ble_eq_true rfl, Nat.le_of_ble_eq_true rfl⟩ (fun r N1 f1 hp hN1 => ?_)
            obtain ⟨rfl, rfl, rfl⟩ := hp
            refine z_if_eq X 120 d_Rdr_readToken_106 (by decide) (fun h106 => ?_) (fun h106 => ?_)
            · skip
              have hlt : ¬ zlet (sgv g len p) = true := zb_f h106
              have e9 : zTok g len st.1 = upd (upd (upd (upd st.1 10 p) 12 p) 11 (sgv g len p)) 10 (p + 1) := by rw [ez, zTok2, if_neg (show ¬ sgv g len ((upd (upd st.1 10 p) 12 p) 10) = -1 from h63), if_neg (show ¬ zdig (sgv g len ((upd (upd st.1 10 p) 12 p) 10)) = true from hdg), if_neg (show ¬ zlet (sgv g len ((upd (upd st.1 10 p) 12 p) 10)) = true from hlt)]; rfl
              refine z_aload_n X d_Rdr_readToken_120 rfl ?_
              refine z_iload_n X d_Rdr_readToken_121 rfl ?_
              refine z_putP X t_Rdr ty_Rdr n_Rdr d_Rdr_readToken_122 hP 0 rfl cl_Rdr in_Rdr 11 (by decide) fl_Rdr_63 rfl rfl rfl rfl rfl (Nat.le_of_ble_eq_true rfl) (fun hP => ?_)
              have hF := hF.by (by simp) hP
              refine z_aload_n X d_Rdr_readToken_125 rfl ?_
              refine z_dup X d_Rdr_readToken_126 rfl ?_
              refine z_get X d_Rdr_readToken_127 (hP.lo 0 rfl) (hP.at 0 rfl) cl_Rdr in_Rdr 10 (by decide) fl_Rdr_42 rfl rfl ?_
              refine z_iconst X d_Rdr_readToken_130 (v := 1) (by decide) ?_
              refine z_iadd X d_Rdr_readToken_131 ?_
              refine z_putP X t_Rdr ty_Rdr n_Rdr d_Rdr_readToken_132 hP 0 rfl cl_Rdr in_Rdr 10 (by decide) fl_Rdr_42 rfl rfl rfl rfl rfl (Nat.le_of_ble_eq_true rfl) (fun hP => ?_)
              have hF := hF.by (by simp) hP
              exact z_vret X d_Rdr_readToken_135 ⟨rfl, rfl, by rw [e9]; exact hP, hF⟩
            · skip
              have hlt : zlet (sgv g len p) = true := zb_t h106
              have e9 : zTok g len st.1 = upd (zWord g len (upd (upd st.1 10 p) 12 p)).2 11 (zWord g len (upd (upd st.1 10 p) 12 p)).1 := by rw [ez, zTok2, if_neg (show ¬ sgv g len ((upd (upd st.1 10 p) 12 p) 10) = -1 from h63), if_neg (show ¬ zdig (sgv g len ((upd (upd st.1 10 p) 12 p) 10)) = true from hdg), if_pos (show zlet (sgv g len ((upd (upd st.1 10 p) 12 p) 10)) = true from hlt)]
              refine z_aload_n X d_Rdr_readToken_109 rfl ?_
              refine z_aload_n X d_Rdr_readToken_110 rfl ?_
              refine z_callV X zG_ok (c_Rdr_readWord (st := (upd (upd st.1 10 p) 12 p, st.2)) hP hlen) d_Rdr_readToken_111 ⟨(z_cb (n := 0) X.2.2.2.2.1 ml_Rdr_144 mc_Rdr_readWord ini_Rdr (by decide +kernel) rfl rfl ⟨Nat.le_of_ble_eq_true rfl, Nat.le_of_ble_eq_true rfl⟩), X.2.2.2.2.1 _ im_Rdr_readWord, X.2.2.2.2.1 _ sel_Rdr_readWord⟩ (hP.lo 0 rfl) (hP.at 0 rfl) cl_Rdr rfl rfl (Nat.le_of_ble_eq_true rfl) ⟨Nat.le_of_ble_eq_true rfl, Nat.le_of_ble_eq_true rfl⟩ (fun r N1 f1 hp hN1 => ?_)
              obtain ⟨rfl, rfl, hP, hF1⟩ := hp
              have hF := hF.join hF1 (Nat.le_refl _) (fun _ h => Or.inl h)
              refine z_putP X t_Rdr ty_Rdr n_Rdr d_Rdr_readToken_114 hP 0 rfl cl_Rdr in_Rdr 11 (by decide) fl_Rdr_63 rfl rfl rfl rfl rfl (Nat.le_of_ble_eq_true rfl) (fun hP => ?_)
              have hF := hF.by (by simp) hP
              refine z_goto X 135 d_Rdr_readToken_117 (by decide) ?_
              exact z_vret X d_Rdr_readToken_135 ⟨rfl, rfl, by rw [e9]; exact hP, hF⟩
          · skip
            have hdg : zdig (sgv g len p) = true := zb_t h78
            have e8 : zTok g len st.1 = upd (zNum g len 7 (upd (upd st.1 10 p) 12 p)).2 11 (if (zNum g len 7 (upd (upd st.1 10 p) 12 p)).1 = true then 2 else 1) := by rw [ez, zTok2, if_neg (show ¬ sgv g len ((upd (upd st.1 10 p) 12 p) 10) = -1 from h63), if_pos (show zdig (sgv g len ((upd (upd st.1 10 p) 12 p) 10)) = true from hdg)]
            refine z_aload_n X d_Rdr_readToken_81 rfl ?_
            refine z_aload_n X d_Rdr_readToken_82 rfl ?_
            refine z_bipush X d_Rdr_readToken_83 (v := 7) (by decide) ?_
            refine z_callV X zG_ok (c_Rdr_readNumber (st := (upd (upd st.1 10 p) 12 p, st.2)) hP hlen) d_Rdr_readToken_85 ⟨(z_cb (n := 1) X.2.2.2.2.1 ml_Rdr_138 mc_Rdr_readNumber ini_Rdr (by decide +kernel) rfl rfl ⟨Nat.le_of_ble_eq_true rfl, Nat.le_of_ble_eq_true rfl⟩), X.2.2.2.2.1 _ im_Rdr_readNumber, X.2.2.2.2.1 _ sel_Rdr_readNumber⟩ (hP.lo 0 rfl) (hP.at 0 rfl) cl_Rdr rfl rfl (Nat.le_of_ble_eq_true rfl) ⟨Nat.le_of_ble_eq_true rfl, Nat.le_of_ble_eq_true rfl⟩ (fun r N1 f1 hp hN1 => ?_)
            obtain ⟨rfl, rfl, hP, hF1⟩ := hp
            have hF := hF.join hF1 (Nat.le_refl _) (fun _ h => Or.inl h)
            refine z_if_eq X 95 d_Rdr_readToken_88 (by decide) (fun h88 => ?_) (fun h88 => ?_)
            · skip
              have nb := zb_0.mp h88
              have e9 := e8
              rw [if_neg (by rw [nb]; decide)] at e9
              refine z_iconst X d_Rdr_readToken_95 (v := 1) (by decide) ?_
              refine z_putP X t_Rdr ty_Rdr n_Rdr d_Rdr_readToken_96 hP 0 rfl cl_Rdr in_Rdr 11 (by decide) fl_Rdr_63 rfl rfl rfl rfl rfl (Nat.le_of_ble_eq_true rfl) (fun hP => ?_)
              have hF := hF.by (by simp) hP
              refine z_goto X 135 d_Rdr_readToken_99 (by decide) ?_
              exact z_vret X d_Rdr_readToken_135 ⟨rfl, rfl, by rw [e9]; exact hP, hF⟩
            · skip
              have nb : (zNum g len 7 (upd (upd st.1 10 p) 12 p)).1 = true := by
                cases hq : (zNum g len 7 (upd (upd st.1 10 p) 12 p)).1
                · exact absurd (zb_0.mpr hq) h88
                · rfl
              have e9 := e8
              rw [if_pos nb] at e9
              refine z_iconst X d_Rdr_readToken_91 (v := 2) (by decide) ?_
              refine z_goto X 96 d_Rdr_readToken_92 (by decide) ?_
              refine z_putP X t_Rdr ty_Rdr n_Rdr d_Rdr_readToken_96 hP 0 rfl cl_Rdr in_Rdr 11 (by decide) fl_Rdr_63 rfl rfl rfl rfl rfl (Nat.le_of_ble_eq_true rfl) (fun hP => ?_)
              have hF := hF.by (by simp) hP
              refine z_goto X 135 d_Rdr_readToken_99 (by decide) ?_
              exact z_vret X d_Rdr_readToken_135 ⟨rfl, rfl, by rw [e9]; exact hP, hF⟩
        · skip
          have h63 : sgv g len p = -1 := h63
          have e9 : zTok g len st.1 = upd (upd (upd st.1 10 p) 12 p) 11 0 := by rw [ez, zTok2, if_pos (show sgv g len ((upd (upd st.1 10 p) 12 p) 10) = -1 from h63)]
          refine z_aload_n X d_Rdr_readToken_66 rfl ?_
          refine z_iconst X d_Rdr_readToken_67 (v := 0) (by decide) ?_
          refine z_putP X t_Rdr ty_Rdr n_Rdr d_Rdr_readToken_68 hP 0 rfl cl_Rdr in_Rdr 11 (by decide) fl_Rdr_63 rfl rfl rfl rfl rfl (Nat.le_of_ble_eq_true rfl) (fun hP => ?_)
          have hF := hF.by (by simp) hP
          refine z_goto X 135 d_Rdr_readToken_71 (by decide) ?_
          exact z_vret X d_Rdr_readToken_135 ⟨rfl, rfl, by rw [e9]; exact hP, hF⟩
      · skip
        have hi2 : i < 200 := by
          rcases Nat.lt_or_ge i 200 with z | z
          · exact z
          · exact absurd (nI_le (a := 200) (b := i) z (by omega)) h6
        refine z_aload_n X d_Rdr_readToken_9 rfl ?_
        refine z_get X d_Rdr_readToken_10 (hP.lo 0 rfl) (hP.at 0 rfl) cl_Rdr in_Rdr 0 (by decide) fl_Rdr_12 rfl rfl ?_
        refine z_aload_n X d_Rdr_readToken_13 rfl ?_
        refine z_get X d_Rdr_readToken_14 (hP.lo 0 rfl) (hP.at 0 rfl) cl_Rdr in_Rdr 10 (by decide) fl_Rdr_42 rfl rfl ?_
        refine z_callV X zG_ok (c_Sgn_get (hP.sub [1, 2] (by decide) rfl) hlen) d_Rdr_readToken_17 ⟨(z_cb (n := 1) X.2.2.2.2.1 ml_Rdr_132 mc_Sgn_get ini_Sgn (by decide +kernel) rfl rfl ⟨Nat.le_of_ble_eq_true rfl, Nat.le_of_ble_eq_true rfl⟩), X.2.2.2.2.1 _ im_Sgn_get, X.2.2.2.2.1 _ sel_Sgn_get⟩ (hP.lo 1 rfl) (hP.at 1 rfl) cl_Sgn rfl rfl (Nat.le_of_ble_eq_true rfl) ⟨Nat.le_of_ble_eq_true rfl, Nat.le_of_ble_eq_true rfl⟩ (fun r N1 f1 hp hN1 => ?_)
        obtain ⟨rfl, rfl, rfl⟩ := hp
        refine z_bipush X d_Rdr_readToken_20 (v := 32) (by decide) ?_
        refine z_icmp_ne X 41 d_Rdr_readToken_22 (by decide) (fun h22 => ?_) (fun h22 => ?_)
        · skip
          have hd : ¬ zbl (sgv g len p) = true := fun z => h22 (of_decide_eq_true z)
          have hz : zsk zbl g len 200 (st.1 10) = p := by rw [hz0, show 200 - i = (200 - (i + 1)) + 1 by omega, zsk, if_neg hd]
          have ez : zTok g len st.1 = zTok2 g len (upd (upd st.1 10 p) 12 p) := by rw [zTok, hz]
          refine z_aload_n X d_Rdr_readToken_41 rfl ?_
          refine z_aload_n X d_Rdr_readToken_42 rfl ?_
          refine z_get X d_Rdr_readToken_43 (hP.lo 0 rfl) (hP.at 0 rfl) cl_Rdr in_Rdr 10 (by decide) fl_Rdr_42 rfl rfl ?_
          refine z_putP X t_Rdr ty_Rdr n_Rdr d_Rdr_readToken_46 hP 0 rfl cl_Rdr in_Rdr 12 (by decide) fl_Rdr_60 rfl rfl rfl rfl rfl (Nat.le_of_ble_eq_true rfl) (fun hP => ?_)
          have hF := hF.by (by simp) hP
          refine z_aload_n X d_Rdr_readToken_49 rfl ?_
          refine z_get X d_Rdr_readToken_50 (hP.lo 0 rfl) (hP.at 0 rfl) cl_Rdr in_Rdr 0 (by decide) fl_Rdr_12 rfl rfl ?_
          refine z_aload_n X d_Rdr_readToken_53 rfl ?_
          refine z_get X d_Rdr_readToken_54 (hP.lo 0 rfl) (hP.at 0 rfl) cl_Rdr in_Rdr 10 (by decide) fl_Rdr_42 rfl rfl ?_
          refine z_callV X zG_ok (c_Sgn_get (hP.sub [1, 2] (by decide) rfl) hlen) d_Rdr_readToken_57 ⟨(z_cb (n := 1) X.2.2.2.2.1 ml_Rdr_132 mc_Sgn_get ini_Sgn (by decide +kernel) rfl rfl ⟨Nat.le_of_ble_eq_true rfl, Nat.le_of_ble_eq_true rfl⟩), X.2.2.2.2.1 _ im_Sgn_get, X.2.2.2.2.1 _ sel_Sgn_get⟩ (hP.lo 1 rfl) (hP.at 1 rfl) cl_Sgn rfl rfl (Nat.le_of_ble_eq_true rfl) ⟨Nat.le_of_ble_eq_true rfl, Nat.le_of_ble_eq_true rfl⟩ (fun r N1 f1 hp hN1 => ?_)
          obtain ⟨rfl, rfl, rfl⟩ := hp
          refine z_istore_n X d_Rdr_readToken_60 (by decide) rfl ?_
          refine z_iload_n X d_Rdr_readToken_61 rfl ?_
          refine z_iconst X d_Rdr_readToken_62 (v := -1) (by decide) ?_
          refine z_icmp_ne X 74 d_Rdr_readToken_63 (by decide) (fun h63 => ?_) (fun h63 => ?_)
          · skip
            have h63 : ¬ sgv g len p = -1 := h63
            refine z_iload_n X d_Rdr_readToken_74 rfl ?_
            refine z_callS X zG_ok c_Rdr_isDigit d_Rdr_readToken_75 ⟨(z_cb (n := 1) X.2.2.2.2.1 ml_Rdr_135 mc_Rdr_isDigit ini_Rdr (by decide +kernel) rfl rfl ⟨Nat.le_of_ble_eq_true rfl, Nat.le_of_ble_eq_true rfl⟩), X.2.2.2.2.1 _ st_Rdr_isDigit⟩ rfl rfl (Nat.le_of_ble_eq_true rfl) ⟨Nat.le_of_ble_eq_true rfl, Nat.le_of_ble_eq_true rfl⟩ (fun r N1 f1 hp hN1 => ?_)
            obtain ⟨rfl, rfl, rfl⟩ := hp
            refine z_if_eq X 102 d_Rdr_readToken_78 (by decide) (fun h78 => ?_) (fun h78 => ?_)
            · skip
              have hdg : ¬ zdig (sgv g len p) = true := zb_f h78
              refine z_iload_n X d_Rdr_readToken_102 rfl ?_
              refine z_callS X zG_ok c_Rdr_isLetter d_Rdr_readToken_103 ⟨(z_cb (n := 1) X.2.2.2.2.1 ml_Rdr_141 mc_Rdr_isLetter ini_Rdr (by decide +kernel) rfl rfl ⟨Nat.le_of_ble_eq_true rfl, Nat.le_of_ble_eq_true rfl⟩), X.2.2.2.2.1 _ st_Rdr_isLetter⟩ rfl rfl (Nat.le_of_ble_eq_true rfl) ⟨Nat.le_of_ble_eq_true rfl, Nat.le_of_ble_eq_true rfl⟩ (fun r N1 f1 hp hN1 => ?_)
              obtain ⟨rfl, rfl, rfl⟩ := hp
              refine z_if_eq X 120 d_Rdr_readToken_106 (by decide) (fun h106 => ?_) (fun h106 => ?_)
              · skip
                have hlt : ¬ zlet (sgv g len p) = true := zb_f h106
                have e9 : zTok g len st.1 = upd (upd (upd (upd st.1 10 p) 12 p) 11 (sgv g len p)) 10 (p + 1) := by rw [ez, zTok2, if_neg (show ¬ sgv g len ((upd (upd st.1 10 p) 12 p) 10) = -1 from h63), if_neg (show ¬ zdig (sgv g len ((upd (upd st.1 10 p) 12 p) 10)) = true from hdg), if_neg (show ¬ zlet (sgv g len ((upd (upd st.1 10 p) 12 p) 10)) = true from hlt)]; rfl
                refine z_aload_n X d_Rdr_readToken_120 rfl ?_
                refine z_iload_n X d_Rdr_readToken_121 rfl ?_
                refine z_putP X t_Rdr ty_Rdr n_Rdr d_Rdr_readToken_122 hP 0 rfl cl_Rdr in_Rdr 11 (by decide) fl_Rdr_63 rfl rfl rfl rfl rfl (Nat.le_of_ble_eq_true rfl) (fun hP => ?_)
                have hF := hF.by (by simp) hP
                refine z_aload_n X d_Rdr_readToken_125 rfl ?_
                refine z_dup X d_Rdr_readToken_126 rfl ?_
                refine z_get X d_Rdr_readToken_127 (hP.lo 0 rfl) (hP.at 0 rfl) cl_Rdr in_Rdr 10 (by decide) fl_Rdr_42 rfl rfl ?_
                refine z_iconst X d_Rdr_readToken_130 (v := 1) (by decide) ?_
                refine z_iadd X d_Rdr_readToken_131 ?_
                refine z_putP X t_Rdr ty_Rdr n_Rdr d_Rdr_readToken_132 hP 0 rfl cl_Rdr in_Rdr 10 (by decide) fl_Rdr_42 rfl rfl rfl rfl rfl (Nat.le_of_ble_eq_true rfl) (fun hP => ?_)
                have hF := hF.by (by simp) hP
                exact z_vret X d_Rdr_readToken_135 ⟨rfl, rfl, by rw [e9]; exact hP, hF⟩
              · skip
                have hlt : zlet (sgv g len p) = true := zb_t h106
                have e9 : zTok g len st.1 = upd (zWord g len (upd (upd st.1 10 p) 12 p)).2 11 (zWord g len (upd (upd st.1 10 p) 12 p)).1 := by rw [ez, zTok2, if_neg (show ¬ sgv g len ((upd (upd st.1 10 p) 12 p) 10) = -1 from h63), if_neg (show ¬ zdig (sgv g len ((upd (upd st.1 10 p) 12 p) 10)) = true from hdg), if_pos (show zlet (sgv g len ((upd (upd st.1 10 p) 12 p) 10)) = true from hlt)]
                refine z_aload_n X d_Rdr_readToken_109 rfl ?_
                refine z_aload_n X d_Rdr_readToken_110 rfl ?_
                refine z_callV X zG_ok (c_Rdr_readWord (st := (upd (upd st.1 10 p) 12 p, st.2)) hP hlen) d_Rdr_readToken_111 ⟨(z_cb (n := 0) X.2.2.2.2.1 ml_Rdr_144 mc_Rdr_readWord ini_Rdr (by decide +kernel) rfl rfl ⟨Nat.le_of_ble_eq_true rfl, Nat.le_of_ble_eq_true rfl⟩), X.2.2.2.2.1 _ im_Rdr_readWord, X.2.2.2.2.1 _ sel_Rdr_readWord⟩ (hP.lo 0 rfl) (hP.at 0 rfl) cl_Rdr rfl rfl (Nat.le_of_ble_eq_true rfl) ⟨Nat.le_of_ble_eq_true rfl, Nat.le_of_ble_eq_true rfl⟩ (fun r N1 f1 hp hN1 => ?_)
                obtain ⟨rfl, rfl, hP, hF1⟩ := hp
                have hF := hF.join hF1 (Nat.le_refl _) (fun _ h => Or.inl h)
                refine z_putP X t_Rdr ty_Rdr n_Rdr d_Rdr_readToken_114 hP 0 rfl cl_Rdr in_Rdr 11 (by decide) fl_Rdr_63 rfl rfl rfl rfl rfl (Nat.le_of_ble_eq_true rfl) (fun hP => ?_)
                have hF := hF.by (by simp) hP
                refine z_goto X 135 d_Rdr_readToken_117 (by decide) ?_
                exact z_vret X d_Rdr_readToken_135 ⟨rfl, rfl, by rw [e9]; exact hP, hF⟩
            · skip
              have hdg : zdig (sgv g len p) = true := zb_t h78
              have e8 : zTok g len st.1 = upd (zNum g len 7 (upd (upd st.1 10 p) 12 p)).2 11 (if (zNum g len 7 (upd (upd st.1 10 p) 12 p)).1 = true then 2 else 1) := by rw [ez, zTok2, if_neg (show ¬ sgv g len ((upd (upd st.1 10 p) 12 p) 10) = -1 from h63), if_pos (show zdig (sgv g len ((upd (upd st.1 10 p) 12 p) 10)) = true from hdg)]
              refine z_aload_n X d_Rdr_readToken_81 rfl ?_
              refine z_aload_n X d_Rdr_readToken_82 rfl ?_
              refine z_bipush X d_Rdr_readToken_83 (v := 7) (by decide) ?_
              refine z_callV X zG_ok (c_Rdr_readNumber (st := (upd (upd st.1 10 p) 12 p, st.2)) hP hlen) d_Rdr_readToken_85 ⟨(z_cb (n := 1) X.2.2.2.2.1 ml_Rdr_138 mc_Rdr_readNumber ini_Rdr (by decide +kernel) rfl rfl ⟨Nat.le_of_ble_eq_true rfl, Nat.le_of_ble_eq_true rfl⟩), X.2.2.2.2.1 _ im_Rdr_readNumber, X.2.2.2.2.1 _ sel_Rdr_readNumber⟩ (hP.lo 0 rfl) (hP.at 0 rfl) cl_Rdr rfl rfl (Nat.le_of_ble_eq_true rfl) ⟨Nat.le_of_ble_eq_true rfl, Nat.le_of_ble_eq_true rfl⟩ (fun r N1 f1 hp hN1 => ?_)
              obtain ⟨rfl, rfl, hP, hF1⟩ := hp
              have hF := hF.join hF1 (Nat.le_refl _) (fun _ h => Or.inl h)
              refine z_if_eq X 95 d_Rdr_readToken_88 (by decide) (fun h88 => ?_) (fun h88 => ?_)
              · skip
                have nb := zb_0.mp h88
                have e9 := e8
                rw [if_neg (by rw [nb]; decide)] at e9
                refine z_iconst X d_Rdr_readToken_95 (v := 1) (by decide) ?_
                refine z_putP X t_Rdr ty_Rdr n_Rdr d_Rdr_readToken_96 hP 0 rfl cl_Rdr in_Rdr 11 (by decide) fl_Rdr_63 rfl rfl rfl rfl rfl (Nat.le_of_ble_eq_true rfl) (fun hP => ?_)
                have hF := hF.by (by simp) hP
                refine z_goto X 135 d_Rdr_readToken_99 (by decide) ?_
                exact z_vret X d_Rdr_readToken_135 ⟨rfl, rfl, by rw [e9]; exact hP, hF⟩
              · skip
                have nb : (zNum g len 7 (upd (upd st.1 10 p) 12 p)).1 = true := by
                  cases hq : (zNum g len 7 (upd (upd st.1 10 p) 12 p)).1
                  · exact absurd (zb_0.mpr hq) h88
                  · rfl
                have e9 := e8
                rw [if_pos nb] at e9
                refine z_iconst X d_Rdr_readToken_91 (v := 2) (by decide) ?_
                refine z_goto X 96 d_Rdr_readToken_92 (by decide) ?_
                refine z_putP X t_Rdr ty_Rdr n_Rdr d_Rdr_readToken_96 hP 0 rfl cl_Rdr in_Rdr 11 (by decide) fl_Rdr_63 rfl rfl rfl rfl rfl (Nat.le_of_ble_eq_true rfl) (fun hP => ?_)
                have hF := hF.by (by simp) hP
                refine z_goto X 135 d_Rdr_readToken_99 (by decide) ?_
                exact z_vret X d_Rdr_readToken_135 ⟨rfl, rfl, by rw [e9]; exact hP, hF⟩
          · skip
            have h63 : sgv g len p = -1 := h63
            have e9 : zTok g len st.1 = upd (upd (upd st.1 10 p) 12 p) 11 0 := by rw [ez, zTok2, if_pos (show sgv g len ((upd (upd st.1 10 p) 12 p) 10) = -1 from h63)]
            refine z_aload_n X d_Rdr_readToken_66 rfl ?_
            refine z_iconst X d_Rdr_readToken_67 (v := 0) (by decide) ?_
            refine z_putP X t_Rdr ty_Rdr n_Rdr d_Rdr_readToken_68 hP 0 rfl cl_Rdr in_Rdr 11 (by decide) fl_Rdr_63 rfl rfl rfl rfl rfl (Nat.le_of_ble_eq_true rfl) (fun hP => ?_)
            have hF := hF.by (by simp) hP
            refine z_goto X 135 d_Rdr_readToken_71 (by decide) ?_
            exact z_vret X d_Rdr_readToken_135 ⟨rfl, rfl, by rw [e9]; exact hP, hF⟩
        · skip
          have hd : zbl (sgv g len p) = true := decide_eq_true h22
          refine z_aload_n X d_Rdr_readToken_25 rfl ?_
          refine z_dup X d_Rdr_readToken_26 rfl ?_
          refine z_get X d_Rdr_readToken_27 (hP.lo 0 rfl) (hP.at 0 rfl) cl_Rdr in_Rdr 10 (by decide) fl_Rdr_42 rfl rfl ?_
          refine z_iconst X d_Rdr_readToken_30 (v := 1) (by decide) ?_
          refine z_iadd X d_Rdr_readToken_31 ?_
          refine z_putP X t_Rdr ty_Rdr n_Rdr d_Rdr_readToken_32 hP 0 rfl cl_Rdr in_Rdr 10 (by decide) fl_Rdr_42 rfl rfl rfl rfl rfl (Nat.le_of_ble_eq_true rfl) (fun hP => ?_)
          have hF := hF.by (by simp) hP
          refine z_iinc X d_Rdr_readToken_35 rfl (nI_1 _) (by decide) rfl ?_
          refine z_goto X 2 d_Rdr_readToken_38 (by decide) ?_
          refine ih (i + 1) (p + 1) _ (by omega) ?_ hP hF
          rw [hz0, show 200 - i = (200 - (i + 1)) + 1 by omega, zsk, if_pos hd]
  refine z_iconst X d_Rdr_readToken_0 (v := 0) (by decide) ?_
  refine z_istore_n X d_Rdr_readToken_1 (by decide) rfl ?_
  exact L2 201 0 (st.1 10) f (by omega) rfl (by rw [upd_self10]; exact hP) hF
end
