section
variable {l : Launch} {D : va_G} {ck : Nat → ClassId} {ad : (Nat → Nat) × (Nat → Nat)} {b0 N : Nat} {f : Nat → va_E}
theorem d_Wrk_workOutNode_0 : decode prog_8_method_3_code 0 = .ok (.aload_n 1, 1) := by decide +kernel
theorem d_Wrk_workOutNode_1 : decode prog_8_method_3_code 1 = .ok (.iload_n 2, 1) := by decide +kernel
theorem d_Wrk_workOutNode_2 : decode prog_8_method_3_code 2 = .ok (.invokevirtual 47, 3) := by decide +kernel
theorem d_Wrk_workOutNode_5 : decode prog_8_method_3_code 5 = .ok (.istore_n 3, 1) := by decide +kernel
theorem d_Wrk_workOutNode_6 : decode prog_8_method_3_code 6 = .ok (.aload_n 1, 1) := by decide +kernel
theorem d_Wrk_workOutNode_7 : decode prog_8_method_3_code 7 = .ok (.iload_n 2, 1) := by decide +kernel
theorem d_Wrk_workOutNode_8 : decode prog_8_method_3_code 8 = .ok (.invokevirtual 51, 3) := by decide +kernel
theorem d_Wrk_workOutNode_11 : decode prog_8_method_3_code 11 = .ok (.istore 4, 2) := by decide +kernel
theorem d_Wrk_workOutNode_13 : decode prog_8_method_3_code 13 = .ok (.iload_n 3, 1) := by decide +kernel
theorem d_Wrk_workOutNode_14 : decode prog_8_method_3_code 14 = .ok (.tableswitch 161 3 14 #[106, 106, 161, 161, 161, 161, 161, 161, 62, 124, 72, 89], 62) := by decide +kernel
theorem d_Wrk_workOutNode_76 : decode prog_8_method_3_code 76 = .ok (.aload_n 0, 1) := by decide +kernel
theorem d_Wrk_workOutNode_77 : decode prog_8_method_3_code 77 = .ok (.iload_n 2, 1) := by decide +kernel
theorem d_Wrk_workOutNode_78 : decode prog_8_method_3_code 78 = .ok (.iload 4, 2) := by decide +kernel
theorem d_Wrk_workOutNode_80 : decode prog_8_method_3_code 80 = .ok (.invokevirtual 54, 3) := by decide +kernel
theorem d_Wrk_workOutNode_83 : decode prog_8_method_3_code 83 = .ok (.goto 149, 3) := by decide +kernel
theorem d_Wrk_workOutNode_86 : decode prog_8_method_3_code 86 = .ok (.aload_n 0, 1) := by decide +kernel
theorem d_Wrk_workOutNode_87 : decode prog_8_method_3_code 87 = .ok (.iload_n 2, 1) := by decide +kernel
theorem d_Wrk_workOutNode_88 : decode prog_8_method_3_code 88 = .ok (.aload_n 0, 1) := by decide +kernel
theorem d_Wrk_workOutNode_89 : decode prog_8_method_3_code 89 = .ok (.getfield 12, 3) := by decide +kernel
theorem d_Wrk_workOutNode_92 : decode prog_8_method_3_code 92 = .ok (.iload 4, 2) := by decide +kernel
theorem d_Wrk_workOutNode_94 : decode prog_8_method_3_code 94 = .ok (.invokevirtual 58, 3) := by decide +kernel
theorem d_Wrk_workOutNode_97 : decode prog_8_method_3_code 97 = .ok (.invokevirtual 54, 3) := by decide +kernel
theorem d_Wrk_workOutNode_100 : decode prog_8_method_3_code 100 = .ok (.goto 132, 3) := by decide +kernel
theorem d_Wrk_workOutNode_103 : decode prog_8_method_3_code 103 = .ok (.aload_n 0, 1) := by decide +kernel
theorem d_Wrk_workOutNode_104 : decode prog_8_method_3_code 104 = .ok (.iload_n 2, 1) := by decide +kernel
theorem d_Wrk_workOutNode_105 : decode prog_8_method_3_code 105 = .ok (.aload_n 0, 1) := by decide +kernel
theorem d_Wrk_workOutNode_106 : decode prog_8_method_3_code 106 = .ok (.getfield 12, 3) := by decide +kernel
theorem d_Wrk_workOutNode_109 : decode prog_8_method_3_code 109 = .ok (.iload 4, 2) := by decide +kernel
theorem d_Wrk_workOutNode_111 : decode prog_8_method_3_code 111 = .ok (.invokevirtual 61, 3) := by decide +kernel
theorem d_Wrk_workOutNode_114 : decode prog_8_method_3_code 114 = .ok (.invokevirtual 54, 3) := by decide +kernel
theorem d_Wrk_workOutNode_117 : decode prog_8_method_3_code 117 = .ok (.goto 115, 3) := by decide +kernel
theorem d_Wrk_workOutNode_120 : decode prog_8_method_3_code 120 = .ok (.aload_n 0, 1) := by decide +kernel
theorem d_Wrk_workOutNode_121 : decode prog_8_method_3_code 121 = .ok (.iload_n 2, 1) := by decide +kernel
theorem d_Wrk_workOutNode_122 : decode prog_8_method_3_code 122 = .ok (.aload_n 0, 1) := by decide +kernel
theorem d_Wrk_workOutNode_123 : decode prog_8_method_3_code 123 = .ok (.iload_n 3, 1) := by decide +kernel
theorem d_Wrk_workOutNode_124 : decode prog_8_method_3_code 124 = .ok (.aload_n 1, 1) := by decide +kernel
theorem d_Wrk_workOutNode_125 : decode prog_8_method_3_code 125 = .ok (.iload_n 2, 1) := by decide +kernel
theorem d_Wrk_workOutNode_126 : decode prog_8_method_3_code 126 = .ok (.invokevirtual 64, 3) := by decide +kernel
theorem d_Wrk_workOutNode_129 : decode prog_8_method_3_code 129 = .ok (.invokevirtual 67, 3) := by decide +kernel
theorem d_Wrk_workOutNode_132 : decode prog_8_method_3_code 132 = .ok (.invokevirtual 54, 3) := by decide +kernel
theorem d_Wrk_workOutNode_135 : decode prog_8_method_3_code 135 = .ok (.goto 97, 3) := by decide +kernel
theorem d_Wrk_workOutNode_138 : decode prog_8_method_3_code 138 = .ok (.iconst 0, 1) := by decide +kernel
theorem d_Wrk_workOutNode_139 : decode prog_8_method_3_code 139 = .ok (.istore 5, 2) := by decide +kernel
theorem d_Wrk_workOutNode_141 : decode prog_8_method_3_code 141 = .ok (.iload 5, 2) := by decide +kernel
theorem d_Wrk_workOutNode_143 : decode prog_8_method_3_code 143 = .ok (.bipush 10, 2) := by decide +kernel
theorem d_Wrk_workOutNode_145 : decode prog_8_method_3_code 145 = .ok (.if_icmp .ge 27, 3) := by decide +kernel
theorem d_Wrk_workOutNode_148 : decode prog_8_method_3_code 148 = .ok (.aload_n 0, 1) := by decide +kernel
theorem d_Wrk_workOutNode_149 : decode prog_8_method_3_code 149 = .ok (.iload_n 2, 1) := by decide +kernel
theorem d_Wrk_workOutNode_150 : decode prog_8_method_3_code 150 = .ok (.iload 5, 2) := by decide +kernel
theorem d_Wrk_workOutNode_152 : decode prog_8_method_3_code 152 = .ok (.aload_n 0, 1) := by decide +kernel
theorem d_Wrk_workOutNode_153 : decode prog_8_method_3_code 153 = .ok (.getfield 12, 3) := by decide +kernel
theorem d_Wrk_workOutNode_156 : decode prog_8_method_3_code 156 = .ok (.iload 4, 2) := by decide +kernel
theorem d_Wrk_workOutNode_158 : decode prog_8_method_3_code 158 = .ok (.iload 5, 2) := by decide +kernel
theorem d_Wrk_workOutNode_160 : decode prog_8_method_3_code 160 = .ok (.invokevirtual 70, 3) := by decide +kernel
theorem d_Wrk_workOutNode_163 : decode prog_8_method_3_code 163 = .ok (.invokevirtual 73, 3) := by decide +kernel
theorem d_Wrk_workOutNode_166 : decode prog_8_method_3_code 166 = .ok (.iinc 5 1, 3) := by decide +kernel
theorem d_Wrk_workOutNode_169 : decode prog_8_method_3_code 169 = .ok (.goto (-28), 3) := by decide +kernel
theorem d_Wrk_workOutNode_172 : decode prog_8_method_3_code 172 = .ok (.goto 60, 3) := by decide +kernel
theorem d_Wrk_workOutNode_175 : decode prog_8_method_3_code 175 = .ok (.iconst 0, 1) := by decide +kernel
theorem d_Wrk_workOutNode_176 : decode prog_8_method_3_code 176 = .ok (.istore 5, 2) := by decide +kernel
theorem d_Wrk_workOutNode_178 : decode prog_8_method_3_code 178 = .ok (.iload 5, 2) := by decide +kernel
theorem d_Wrk_workOutNode_180 : decode prog_8_method_3_code 180 = .ok (.bipush 10, 2) := by decide +kernel
theorem d_Wrk_workOutNode_182 : decode prog_8_method_3_code 182 = .ok (.if_icmp .ge 50, 3) := by decide +kernel
theorem d_Wrk_workOutNode_185 : decode prog_8_method_3_code 185 = .ok (.aload_n 0, 1) := by decide +kernel
theorem d_Wrk_workOutNode_186 : decode prog_8_method_3_code 186 = .ok (.aload_n 1, 1) := by decide +kernel
theorem d_Wrk_workOutNode_187 : decode prog_8_method_3_code 187 = .ok (.iload_n 2, 1) := by decide +kernel
theorem d_Wrk_workOutNode_188 : decode prog_8_method_3_code 188 = .ok (.invokevirtual 64, 3) := by decide +kernel
theorem d_Wrk_workOutNode_191 : decode prog_8_method_3_code 191 = .ok (.iload 5, 2) := by decide +kernel
theorem d_Wrk_workOutNode_193 : decode prog_8_method_3_code 193 = .ok (.invokevirtual 44, 3) := by decide +kernel
theorem d_Wrk_workOutNode_196 : decode prog_8_method_3_code 196 = .ok (.istore 6, 2) := by decide +kernel
theorem d_Wrk_workOutNode_198 : decode prog_8_method_3_code 198 = .ok (.aload_n 0, 1) := by decide +kernel
theorem d_Wrk_workOutNode_199 : decode prog_8_method_3_code 199 = .ok (.aload_n 1, 1) := by decide +kernel
theorem d_Wrk_workOutNode_200 : decode prog_8_method_3_code 200 = .ok (.iload_n 2, 1) := by decide +kernel
theorem d_Wrk_workOutNode_201 : decode prog_8_method_3_code 201 = .ok (.invokevirtual 77, 3) := by decide +kernel
theorem d_Wrk_workOutNode_204 : decode prog_8_method_3_code 204 = .ok (.iload 5, 2) := by decide +kernel
theorem d_Wrk_workOutNode_206 : decode prog_8_method_3_code 206 = .ok (.invokevirtual 44, 3) := by decide +kernel
theorem d_Wrk_workOutNode_209 : decode prog_8_method_3_code 209 = .ok (.istore 7, 2) := by decide +kernel
theorem d_Wrk_workOutNode_211 : decode prog_8_method_3_code 211 = .ok (.aload_n 0, 1) := by decide +kernel
theorem d_Wrk_workOutNode_212 : decode prog_8_method_3_code 212 = .ok (.iload_n 2, 1) := by decide +kernel
theorem d_Wrk_workOutNode_213 : decode prog_8_method_3_code 213 = .ok (.iload 5, 2) := by decide +kernel
theorem d_Wrk_workOutNode_215 : decode prog_8_method_3_code 215 = .ok (.iload_n 3, 1) := by decide +kernel
theorem d_Wrk_workOutNode_216 : decode prog_8_method_3_code 216 = .ok (.iload 6, 2) := by decide +kernel
theorem d_Wrk_workOutNode_218 : decode prog_8_method_3_code 218 = .ok (.iload 7, 2) := by decide +kernel
theorem d_Wrk_workOutNode_220 : decode prog_8_method_3_code 220 = .ok (.invokestatic 80, 3) := by decide +kernel
theorem d_Wrk_workOutNode_223 : decode prog_8_method_3_code 223 = .ok (.invokevirtual 73, 3) := by decide +kernel
theorem d_Wrk_workOutNode_226 : decode prog_8_method_3_code 226 = .ok (.iinc 5 1, 3) := by decide +kernel
theorem d_Wrk_workOutNode_229 : decode prog_8_method_3_code 229 = .ok (.goto (-51), 3) := by decide +kernel
theorem d_Wrk_workOutNode_232 : decode prog_8_method_3_code 232 = .ok (.return_, 1) := by decide +kernel
set_option maxHeartbeats 4000000 in
set_option maxRecDepth 100000 in
theorem c_Wrk_workOutNode {wk dc rs va tr ka vb ra n u : Nat} {lb : Int32} {G v K V R : Nat → Int32} (hP : zP b0 N f (wWrk ck wk dc rs va lb (G) v ++ wTre ck tr ka vb ra n K V R u)) (hu : u ≤ n) (hn : n ≤ 40) {a : Nat} {cl cr : Option Nat} (ha : a < u) (hcl : tleft K u (nI a) = wix cl) (hcr : R a = wix cr) (hl : ∀ z, cl = some z → z < 40 ∧ z ≠ a) (hr : ∀ z, cr = some z → z < 40 ∧ z ≠ a) : zK l D ck ad b0 y_Wrk_workOutNode prog_8_method_3_code 8 (none) 3 0 0 [.ref wk, .ref tr, .int (nI a)] N f (fun r N' f' => r = none ∧ N = N' ∧ zP b0 N f' (wWrk ck wk dc rs va lb (wsetk G a (wrow (K a) (V a) v lb G cl cr) 10) v ++ wTre ck tr ka vb ra n K V R u) ∧ zF N f f' [wk, rs]) := by
  refine zM.of zG_w (by decide) (Nat.le_of_ble_eq_true rfl) ?_
  intro zp ze zst zm zar zbe zme zc X hnm hb0
  have hcl40 : ∀ z, cl = some z → z < 40 := fun z h => (hl z h).1
  have hcr40 : ∀ z, cr = some z → z < 40 := fun z h => (hr z h).1
  have hcla : cl ≠ some a := fun h => (hl a h).2 rfl
  have hcra : cr ≠ some a := fun h => (hr a h).2 rfl
  have eK : sgv K u (nI a) = K a := sgv_nI ha (by omega)
  have eV : sgv V u (nI a) = V a := sgv_nI ha (by omega)
  have eR : sgv R u (nI a) = wix cr := by rw [sgv_nI ha (by omega)]; exact hcr
  have L141 : ∀ (nn : Nat) (j : Nat) (f1 : Nat → va_E), (j ≤ 10 ∧ j + nn = 11) → zP b0 N f1 (wWrk ck wk dc rs va lb (wsetk G a (wrow (K a) (V a) v lb G cl cr) j) v ++ wTre ck tr ka vb ra n K V R u) → zF N f f1 [wk, rs] → K a = 12 → zW zp l ze (zR 3 0 0) zst zm zar zbe zme zc D zcl b0 8 0 0 (MQ zbe (zQ D zcl b0 (fun r N' f' => r = none ∧ N = N' ∧ zP b0 N f' (wWrk ck wk dc rs va lb (wsetk G a (wrow (K a) (V a) v lb G cl cr) 10) v ++ wTre ck tr ka vb ra n K V R u) ∧ zF N f f' [wk, rs])) zar zst 0 0 (zA b0)) N f1 141 [(0, .ref wk), (1, .ref tr), (2, .int (nI a)), (3, .int (sgv K u (nI a))), (4, .int (sgv V u (nI a))), (5, .int (nI j))] [] := by
    intro nn
    induction nn with
    | zero =>
      intro j f1 hj0 hP hF hk
      omega
    | succ nn ih =>
      intro j f1 hj0 hP hF hk
      refine z_iload X d_Wrk_workOutNode_141 rfl ?_
      refine z_bipush X d_Wrk_workOutNode_143 (v := 10) (by decide) ?_
      refine z_icmp_ge X 172 d_Wrk_workOutNode_145 (by decide) (fun h145 => ?_) (fun h145 => ?_)
      · skip
        have hj : j = 10 := by have := (nI_leI (a := 10) (b := j) (by decide) (by omega)).mp h145; omega
        subst hj
        refine z_goto X 232 d_Wrk_workOutNode_172 (by decide) ?_
        exact z_vret X d_Wrk_workOutNode_232 ⟨rfl, rfl, hP, hF⟩
      · skip
        have hj : j < 10 := by
          rcases Nat.lt_or_ge j 10 with z | z
          · exact z
          · exact absurd (nI_le (a := 10) (b := j) z (by omega)) h145
        refine z_aload_n X d_Wrk_workOutNode_148 rfl ?_
        refine z_iload_n X d_Wrk_workOutNode_149 rfl ?_
        refine z_iload X d_Wrk_workOutNode_150 rfl ?_
        refine z_aload_n X d_Wrk_workOutNode_152 rfl ?_
        refine z_get X d_Wrk_workOutNode_153 (hP.lo 0 rfl) (hP.at 0 rfl) cl_Wrk in_Wrk 0 (by decide) fl_Wrk_12 rfl rfl ?_
        refine z_iload X d_Wrk_workOutNode_156 rfl ?_
        refine z_iload X d_Wrk_workOutNode_158 rfl ?_
        refine z_callV X zG_ok (c_Decl_valueOn (hP.sub [2, 3] (by decide) rfl)) d_Wrk_workOutNode_160 ⟨(z_cb (n := 2) X.2.2.2.2.1 ml_Wrk_70 mc_Decl_valueOn ini_Decl (by decide +kernel) rfl rfl ⟨Nat.le_of_ble_eq_true rfl, Nat.le_of_ble_eq_true rfl⟩), X.2.2.2.2.1 _ im_Decl_valueOn, X.2.2.2.2.1 _ sel_Decl_valueOn⟩ (hP.lo 2 rfl) (hP.at 2 rfl) cl_Decl rfl rfl (Nat.le_of_ble_eq_true rfl) ⟨Nat.le_of_ble_eq_true rfl, Nat.le_of_ble_eq_true rfl⟩ (fun r N1 f1 hp hN1 => ?_)
        obtain ⟨rfl, rfl, rfl⟩ := hp
        refine z_callV X zG_ok (c_Wrk_setResult (hP.sub [0, 1] (by decide) rfl) (a := a) (b := j) (by omega) hj) d_Wrk_workOutNode_163 ⟨(z_cb (n := 3) X.2.2.2.2.1 ml_Wrk_73 mc_Wrk_setResult ini_Wrk (by decide +kernel) rfl rfl ⟨Nat.le_of_ble_eq_true rfl, Nat.le_of_ble_eq_true rfl⟩), X.2.2.2.2.1 _ im_Wrk_setResult, X.2.2.2.2.1 _ sel_Wrk_setResult⟩ (hP.lo 0 rfl) (hP.at 0 rfl) cl_Wrk rfl rfl (Nat.le_of_ble_eq_true rfl) ⟨Nat.le_of_ble_eq_true rfl, Nat.le_of_ble_eq_true rfl⟩ (fun r N1 f1 hp hN1 => ?_)
        obtain ⟨rfl, rfl, rfl⟩ := hp
        have hP := hP.put 1 rfl (aI ck 400 (upd (wsetk G a (wrow (K a) (V a) v lb G cl cr) j) (a * 10 + j) (dval v (sgv V u (nI a)) (nI j))))
        have hF := hF.by (by simp) hP
        refine z_iinc X d_Wrk_workOutNode_166 rfl (nI_1 _) (by decide) rfl ?_
        refine z_goto X 141 d_Wrk_workOutNode_169 (by decide) ?_
        exact ih (j + 1) _ (by omega) (hP.eq (by
          have e9 : wrow (K a) (V a) v lb G cl cr j = dval v (sgv V u (nI a)) (nI j) := by
            simp only [wrow]
            rw [if_neg (by rw [hk]; decide), if_neg (by rw [hk]; decide), if_neg (by rw [hk]; decide), if_neg (by rw [hk]; decide), if_pos hk, eV]
          rw [← e9, wsetk_s]; rfl)) hF hk
  have L178 : ∀ (nn : Nat) (j : Nat) (f1 : Nat → va_E), (j ≤ 10 ∧ j + nn = 11) → zP b0 N f1 (wWrk ck wk dc rs va lb (wsetk G a (wrow (K a) (V a) v lb G cl cr) j) v ++ wTre ck tr ka vb ra n K V R u) → zF N f f1 [wk, rs] → (∀ b, wrow (K a) (V a) v lb G cl cr b = wJoin (K a) (wres G cl b) (wres G cr b)) → zW zp l ze (zR 3 0 0) zst zm zar zbe zme zc D zcl b0 8 0 0 (MQ zbe (zQ D zcl b0 (fun r N' f' => r = none ∧ N = N' ∧ zP b0 N f' (wWrk ck wk dc rs va lb (wsetk G a (wrow (K a) (V a) v lb G cl cr) 10) v ++ wTre ck tr ka vb ra n K V R u) ∧ zF N f f' [wk, rs])) zar zst 0 0 (zA b0)) N f1 178 [(0, .ref wk), (1, .ref tr), (2, .int (nI a)), (3, .int (sgv K u (nI a))), (4, .int (sgv V u (nI a))), (5, .int (nI j))] [] := by
    intro nn
    induction nn with
    | zero =>
      intro j f1 hj0 hP hF hrow
      omega
    | succ nn ih =>
      intro j f1 hj0 hP hF hrow
      refine z_iload X d_Wrk_workOutNode_178 rfl ?_
      refine z_bipush X d_Wrk_workOutNode_180 (v := 10) (by decide) ?_
      refine z_icmp_ge X 232 d_Wrk_workOutNode_182 (by decide) (fun h182 => ?_) (fun h182 => ?_)
      · skip
        have hj : j = 10 := by have := (nI_leI (a := 10) (b := j) (by decide) (by omega)).mp h182; omega
        subst hj
        exact z_vret X d_Wrk_workOutNode_232 ⟨rfl, rfl, hP, hF⟩
      · skip
        have hj : j < 10 := by
          rcases Nat.lt_or_ge j 10 with z | z
          · exact z
          · exact absurd (nI_le (a := 10) (b := j) z (by omega)) h182
        refine z_aload_n X d_Wrk_workOutNode_185 rfl ?_
        refine z_aload_n X d_Wrk_workOutNode_186 rfl ?_
        refine z_iload_n X d_Wrk_workOutNode_187 rfl ?_
        refine z_callV X zG_ok (c_Tre_leftOf (hP.sub [4, 5, 6, 7] (by decide) rfl) hu hn) d_Wrk_workOutNode_188 ⟨(z_cb (n := 1) X.2.2.2.2.1 ml_Wrk_64 mc_Tre_leftOf ini_Tre (by decide +kernel) rfl rfl ⟨Nat.le_of_ble_eq_true rfl, Nat.le_of_ble_eq_true rfl⟩), X.2.2.2.2.1 _ im_Tre_leftOf, X.2.2.2.2.1 _ sel_Tre_leftOf⟩ (hP.lo 4 rfl) (hP.at 4 rfl) cl_Tre rfl rfl (Nat.le_of_ble_eq_true rfl) ⟨Nat.le_of_ble_eq_true rfl, Nat.le_of_ble_eq_true rfl⟩ (fun r N1 f1 hp hN1 => ?_)
        obtain ⟨rfl, rfl, rfl⟩ := hp
        rw [hcl]
        refine z_iload X d_Wrk_workOutNode_191 rfl ?_
        refine z_callV X zG_ok (c_Wrk_resultOf (hP.sub [0, 1] (by decide) rfl) (c := cl) (b := j) hcl40 hj) d_Wrk_workOutNode_193 ⟨(z_cb (n := 2) X.2.2.2.2.1 ml_Wrk_44 mc_Wrk_resultOf ini_Wrk (by decide +kernel) rfl rfl ⟨Nat.le_of_ble_eq_true rfl, Nat.le_of_ble_eq_true rfl⟩), X.2.2.2.2.1 _ im_Wrk_resultOf, X.2.2.2.2.1 _ sel_Wrk_resultOf⟩ (hP.lo 0 rfl) (hP.at 0 rfl) cl_Wrk rfl rfl (Nat.le_of_ble_eq_true rfl) ⟨Nat.le_of_ble_eq_true rfl, Nat.le_of_ble_eq_true rfl⟩ (fun r N1 f1 hp hN1 => ?_)
        obtain ⟨rfl, rfl, rfl⟩ := hp
        rw [wres_set hcla (by omega) hj]
        refine z_istore X d_Wrk_workOutNode_196 (by decide) rfl ?_
        refine z_aload_n X d_Wrk_workOutNode_198 rfl ?_
        refine z_aload_n X d_Wrk_workOutNode_199 rfl ?_
        refine z_iload_n X d_Wrk_workOutNode_200 rfl ?_
        refine z_callV X zG_ok (c_Tre_rightOf (hP.sub [4, 5, 6, 7] (by decide) rfl) hu hn) d_Wrk_workOutNode_201 ⟨(z_cb (n := 1) X.2.2.2.2.1 ml_Wrk_77 mc_Tre_rightOf ini_Tre (by decide +kernel) rfl rfl ⟨Nat.le_of_ble_eq_true rfl, Nat.le_of_ble_eq_true rfl⟩), X.2.2.2.2.1 _ im_Tre_rightOf, X.2.2.2.2.1 _ sel_Tre_rightOf⟩ (hP.lo 4 rfl) (hP.at 4 rfl) cl_Tre rfl rfl (Nat.le_of_ble_eq_true rfl) ⟨Nat.le_of_ble_eq_true rfl, Nat.le_of_ble_eq_true rfl⟩ (fun r N1 f1 hp hN1 => ?_)
        obtain ⟨rfl, rfl, rfl⟩ := hp
        rw [eR]
        refine z_iload X d_Wrk_workOutNode_204 rfl ?_
        refine z_callV X zG_ok (c_Wrk_resultOf (hP.sub [0, 1] (by decide) rfl) (c := cr) (b := j) hcr40 hj) d_Wrk_workOutNode_206 ⟨(z_cb (n := 2) X.2.2.2.2.1 ml_Wrk_44 mc_Wrk_resultOf ini_Wrk (by decide +kernel) rfl rfl ⟨Nat.le_of_ble_eq_true rfl, Nat.le_of_ble_eq_true rfl⟩), X.2.2.2.2.1 _ im_Wrk_resultOf, X.2.2.2.2.1 _ sel_Wrk_resultOf⟩ (hP.lo 0 rfl) (hP.at 0 rfl) cl_Wrk rfl rfl (Nat.le_of_ble_eq_true rfl) ⟨Nat.le_of_ble_eq_true rfl, Nat.le_of_ble_eq_true rfl⟩ (fun r N1 f1 hp hN1 => ?_)
        obtain ⟨rfl, rfl, rfl⟩ := hp
        rw [wres_set hcra (by omega) hj]
        refine z_istore X d_Wrk_workOutNode_209 (by decide) rfl ?_
        refine z_aload_n X d_Wrk_workOutNode_211 rfl ?_
        refine z_iload_n X d_Wrk_workOutNode_212 rfl ?_
        refine z_iload X d_Wrk_workOutNode_213 rfl ?_
        refine z_iload_n X d_Wrk_workOutNode_215 rfl ?_
        refine z_iload X d_Wrk_workOutNode_216 rfl ?_
        refine z_iload X d_Wrk_workOutNode_218 rfl ?_
        refine z_callS X zG_ok c_Wrk_joined d_Wrk_workOutNode_220 ⟨(z_cb (n := 3) X.2.2.2.2.1 ml_Wrk_80 mc_Wrk_joined ini_Wrk (by decide +kernel) rfl rfl ⟨Nat.le_of_ble_eq_true rfl, Nat.le_of_ble_eq_true rfl⟩), X.2.2.2.2.1 _ st_Wrk_joined⟩ rfl rfl (Nat.le_of_ble_eq_true rfl) ⟨Nat.le_of_ble_eq_true rfl, Nat.le_of_ble_eq_true rfl⟩ (fun r N1 f1 hp hN1 => ?_)
        obtain ⟨rfl, rfl, rfl⟩ := hp
        rw [eK]
        refine z_callV X zG_ok (c_Wrk_setResult (hP.sub [0, 1] (by decide) rfl) (a := a) (b := j) (by omega) hj) d_Wrk_workOutNode_223 ⟨(z_cb (n := 3) X.2.2.2.2.1 ml_Wrk_73 mc_Wrk_setResult ini_Wrk (by decide +kernel) rfl rfl ⟨Nat.le_of_ble_eq_true rfl, Nat.le_of_ble_eq_true rfl⟩), X.2.2.2.2.1 _ im_Wrk_setResult, X.2.2.2.2.1 _ sel_Wrk_setResult⟩ (hP.lo 0 rfl) (hP.at 0 rfl) cl_Wrk rfl rfl (Nat.le_of_ble_eq_true rfl) ⟨Nat.le_of_ble_eq_true rfl, Nat.le_of_ble_eq_true rfl⟩ (fun r N1 f1 hp hN1 => ?_)
        obtain ⟨rfl, rfl, rfl⟩ := hp
        have hP := hP.put 1 rfl (aI ck 400 (upd (wsetk G a (wrow (K a) (V a) v lb G cl cr) j) (a * 10 + j) (wJoin (K a) (wres G cl j) (wres G cr j))))
        have hF := hF.by (by simp) hP
        refine z_iinc X d_Wrk_workOutNode_226 rfl (nI_1 _) (by decide) rfl ?_
        refine z_goto X 178 d_Wrk_workOutNode_229 (by decide) ?_
        refine zW.pick [0, 1, 2, 3, 4, 5] (lv' := [(0, .ref wk), (1, .ref tr), (2, .int (nI a)), (3, .int (sgv K u (nI a))), (4, .int (sgv V u (nI a))), (5, .int (nI (j + 1)))]) (by rw [eK]; rfl) ?_
        exact ih (j + 1) _ (by omega) (hP.eq (by rw [← hrow j, wsetk_s]; rfl)) hF hrow
  refine z_aload_n X d_Wrk_workOutNode_0 rfl ?_
  refine z_iload_n X d_Wrk_workOutNode_1 rfl ?_
  refine z_callV X zG_ok (c_Tre_kindOf (hP.sub [4, 5, 6, 7] (by decide) rfl) hu hn) d_Wrk_workOutNode_2 ⟨(z_cb (n := 1) X.2.2.2.2.1 ml_Wrk_47 mc_Tre_kindOf ini_Tre (by decide +kernel) rfl rfl ⟨Nat.le_of_ble_eq_true rfl, Nat.le_of_ble_eq_true rfl⟩), X.2.2.2.2.1 _ im_Tre_kindOf, X.2.2.2.2.1 _ sel_Tre_kindOf⟩ (hP.lo 4 rfl) (hP.at 4 rfl) cl_Tre rfl rfl (Nat.le_of_ble_eq_true rfl) ⟨Nat.le_of_ble_eq_true rfl, Nat.le_of_ble_eq_true rfl⟩ (fun r N1 f1 hp hN1 => ?_)
  obtain ⟨rfl, rfl, rfl⟩ := hp
  refine z_istore_n X d_Wrk_workOutNode_5 (by decide) rfl ?_
  refine z_aload_n X d_Wrk_workOutNode_6 rfl ?_
  refine z_iload_n X d_Wrk_workOutNode_7 rfl ?_
  refine z_callV X zG_ok (c_Tre_valueOf (hP.sub [4, 5, 6, 7] (by decide) rfl) hu hn) d_Wrk_workOutNode_8 ⟨(z_cb (n := 1) X.2.2.2.2.1 ml_Wrk_51 mc_Tre_valueOf ini_Tre (by decide +kernel) rfl rfl ⟨Nat.le_of_ble_eq_true rfl, Nat.le_of_ble_eq_true rfl⟩), X.2.2.2.2.1 _ im_Tre_valueOf, X.2.2.2.2.1 _ sel_Tre_valueOf⟩ (hP.lo 4 rfl) (hP.at 4 rfl) cl_Tre rfl rfl (Nat.le_of_ble_eq_true rfl) ⟨Nat.le_of_ble_eq_true rfl, Nat.le_of_ble_eq_true rfl⟩ (fun r N1 f1 hp hN1 => ?_)
  obtain ⟨rfl, rfl, rfl⟩ := hp
  refine z_istore X d_Wrk_workOutNode_11 (by decide) rfl ?_
  refine z_iload_n X d_Wrk_workOutNode_13 rfl ?_
  refine z_tableL X 175 [120, 120, 175, 175, 175, 175, 175, 175, 76, 138, 86, 103] d_Wrk_workOutNode_14 (by decide) (by decide) (by decide) (fun i hi hx => ?_) (fun hd => ?_) (by decide)
  · match i, hi, hx with
    | 0, _, hx =>
      have g14 : _ = (3 : Int32) := hx
      have hk : K a = 3 ∨ K a = 4 := by rw [← eK]; exact Or.inl g14
      refine zW.topc (pc' := 120) rfl ?_
      refine z_aload_n X d_Wrk_workOutNode_120 rfl ?_
      refine z_iload_n X d_Wrk_workOutNode_121 rfl ?_
      refine z_aload_n X d_Wrk_workOutNode_122 rfl ?_
      refine z_iload_n X d_Wrk_workOutNode_123 rfl ?_
      refine z_aload_n X d_Wrk_workOutNode_124 rfl ?_
      refine z_iload_n X d_Wrk_workOutNode_125 rfl ?_
      refine z_callV X zG_ok (c_Tre_leftOf (hP.sub [4, 5, 6, 7] (by decide) rfl) hu hn) d_Wrk_workOutNode_126 ⟨(z_cb (n := 1) X.2.2.2.2.1 ml_Wrk_64 mc_Tre_leftOf ini_Tre (by decide +kernel) rfl rfl ⟨Nat.le_of_ble_eq_true rfl, Nat.le_of_ble_eq_true rfl⟩), X.2.2.2.2.1 _ im_Tre_leftOf, X.2.2.2.2.1 _ sel_Tre_leftOf⟩ (hP.lo 4 rfl) (hP.at 4 rfl) cl_Tre rfl rfl (Nat.le_of_ble_eq_true rfl) ⟨Nat.le_of_ble_eq_true rfl, Nat.le_of_ble_eq_true rfl⟩ (fun r N1 f1 hp hN1 => ?_)
      obtain ⟨rfl, rfl, rfl⟩ := hp
      rw [hcl]
      refine z_callV X zG_ok (c_Wrk_overLines (hP.sub [0, 1] (by decide) rfl) hcl40) d_Wrk_workOutNode_129 ⟨(z_cb (n := 2) X.2.2.2.2.1 ml_Wrk_67 mc_Wrk_overLines ini_Wrk (by decide +kernel) rfl rfl ⟨Nat.le_of_ble_eq_true rfl, Nat.le_of_ble_eq_true rfl⟩), X.2.2.2.2.1 _ im_Wrk_overLines, X.2.2.2.2.1 _ sel_Wrk_overLines⟩ (hP.lo 0 rfl) (hP.at 0 rfl) cl_Wrk rfl rfl (Nat.le_of_ble_eq_true rfl) ⟨Nat.le_of_ble_eq_true rfl, Nat.le_of_ble_eq_true rfl⟩ (fun r N1 f1 hp hN1 => ?_)
      obtain ⟨rfl, rfl, rfl⟩ := hp
      refine z_callV X zG_ok (c_Wrk_setOnAllLines (hP.sub [0, 1] (by decide) rfl) (show a < 40 by omega)) d_Wrk_workOutNode_132 ⟨(z_cb (n := 2) X.2.2.2.2.1 ml_Wrk_54 mc_Wrk_setOnAllLines ini_Wrk (by decide +kernel) rfl rfl ⟨Nat.le_of_ble_eq_true rfl, Nat.le_of_ble_eq_true rfl⟩), X.2.2.2.2.1 _ im_Wrk_setOnAllLines, X.2.2.2.2.1 _ sel_Wrk_setOnAllLines⟩ (hP.lo 0 rfl) (hP.at 0 rfl) cl_Wrk rfl rfl (Nat.le_of_ble_eq_true rfl) ⟨Nat.le_of_ble_eq_true rfl, Nat.le_of_ble_eq_true rfl⟩ (fun r N1 f1 hp hN1 => ?_)
      obtain ⟨rfl, rfl, hP1, hF⟩ := hp
      have e9 : (fun _ : Nat => wover (sgv K u (nI a)) lb G cl 9) = wrow (K a) (V a) v lb G cl cr := by
        funext b
        simp only [wrow]; rw [if_neg (by rcases hk with h | h <;> rw [h] <;> decide), if_neg (by rcases hk with h | h <;> rw [h] <;> decide), if_neg (by rcases hk with h | h <;> rw [h] <;> decide), if_pos hk, eK]
      rw [e9] at hP1
      have hP : zP b0 N f1 (wWrk ck wk dc rs va lb (wsetk G a (wrow (K a) (V a) v lb G cl cr) 10) v ++ wTre ck tr ka vb ra n K V R u) := ((hP.jn [0, 1] [2, 3, 4, 5, 6, 7] rfl (by decide) (by simp) (by decide) hF (Nat.le_refl _) hP1 (fun _ h => Or.inl h)).sel [6, 7, 0, 1, 2, 3, 4, 5] (by decide) (by simp))
      refine z_goto X 232 d_Wrk_workOutNode_135 (by decide) ?_
      exact z_vret X d_Wrk_workOutNode_232 ⟨rfl, rfl, hP, hF⟩
    | 1, _, hx =>
      have g14 : _ = (4 : Int32) := hx
      have hk : K a = 3 ∨ K a = 4 := by rw [← eK]; exact Or.inr g14
      refine zW.topc (pc' := 120) rfl ?_
      refine z_aload_n X d_Wrk_workOutNode_120 rfl ?_
      refine z_iload_n X d_Wrk_workOutNode_121 rfl ?_
      refine z_aload_n X d_Wrk_workOutNode_122 rfl ?_
      refine z_iload_n X d_Wrk_workOutNode_123 rfl ?_
      refine z_aload_n X d_Wrk_workOutNode_124 rfl ?_
      refine z_iload_n X d_Wrk_workOutNode_125 rfl ?_
      refine z_callV X zG_ok (c_Tre_leftOf (hP.sub [4, 5, 6, 7] (by decide) rfl) hu hn) d_Wrk_workOutNode_126 ⟨(z_cb (n := 1) X.2.2.2.2.1 ml_Wrk_64 mc_Tre_leftOf ini_Tre (by decide +kernel) rfl rfl ⟨Nat.le_of_ble_eq_true rfl, Nat.le_of_ble_eq_true rfl⟩), X.2.2.2.2.1 _ im_Tre_leftOf, X.2.2.2.2.1 _ sel_Tre_leftOf⟩ (hP.lo 4 rfl) (hP.at 4 rfl) cl_Tre rfl rfl (Nat.le_of_ble_eq_true rfl) ⟨Nat.le_of_ble_eq_true rfl, Nat.le_of_ble_eq_true rfl⟩ (fun r N1 f1 hp hN1 => ?_)
      obtain ⟨rfl, rfl, rfl⟩ := hp
      rw [hcl]
      refine z_callV X zG_ok (c_Wrk_overLines (hP.sub [0, 1] (by decide) rfl) hcl40) d_Wrk_workOutNode_129 ⟨(z_cb (n := 2) X.2.2.2.2.1 ml_Wrk_67 mc_Wrk_overLines ini_Wrk (by decide +kernel) rfl rfl ⟨Nat.le_of_ble_eq_true rfl, Nat.le_of_ble_eq_true rfl⟩), X.2.2.2.2.1 _ im_Wrk_overLines, X.2.2.2.2.1 _ sel_Wrk_overLines⟩ (hP.lo 0 rfl) (hP.at 0 rfl) cl_Wrk rfl rfl (Nat.le_of_ble_eq_true rfl) ⟨Nat.le_of_ble_eq_true rfl, Nat.le_of_ble_eq_true rfl⟩ (fun r N1 f1 hp hN1 => ?_)
      obtain ⟨rfl, rfl, rfl⟩ := hp
      refine z_callV X zG_ok (c_Wrk_setOnAllLines (hP.sub [0, 1] (by decide) rfl) (show a < 40 by omega)) d_Wrk_workOutNode_132 ⟨(z_cb (n := 2) X.2.2.2.2.1 ml_Wrk_54 mc_Wrk_setOnAllLines ini_Wrk (by decide +kernel) rfl rfl ⟨Nat.le_of_ble_eq_true rfl, Nat.le_of_ble_eq_true rfl⟩), X.2.2.2.2.1 _ im_Wrk_setOnAllLines, X.2.2.2.2.1 _ sel_Wrk_setOnAllLines⟩ (hP.lo 0 rfl) (hP.at 0 rfl) cl_Wrk rfl rfl (Nat.le_of_ble_eq_true rfl) ⟨Nat.le_of_ble_eq_true rfl, Nat.le_of_ble_eq_true rfl⟩ (fun r N1 f1 hp hN1 => ?_)
      obtain ⟨rfl, rfl, hP1, hF⟩ := hp
      have e9 : (fun _ : Nat => wover (sgv K u (nI a)) lb G cl 9) = wrow (K a) (V a) v lb G cl cr := by
        funext b
        simp only [wrow]; rw [if_neg (by rcases hk with h | h <;> rw [h] <;> decide), if_neg (by rcases hk with h | h <;> rw [h] <;> decide), if_neg (by rcases hk with h | h <;> rw [h] <;> decide), if_pos hk, eK]
      rw [e9] at hP1
      have hP : zP b0 N f1 (wWrk ck wk dc rs va lb (wsetk G a (wrow (K a) (V a) v lb G cl cr) 10) v ++ wTre ck tr ka vb ra n K V R u) := ((hP.jn [0, 1] [2, 3, 4, 5, 6, 7] rfl (by decide) (by simp) (by decide) hF (Nat.le_refl _) hP1 (fun _ h => Or.inl h)).sel [6, 7, 0, 1, 2, 3, 4, 5] (by decide) (by simp))
      refine z_goto X 232 d_Wrk_workOutNode_135 (by decide) ?_
      exact z_vret X d_Wrk_workOutNode_232 ⟨rfl, rfl, hP, hF⟩
    | 2, _, hx =>
      have g14 : _ = (5 : Int32) := hx
      have hk : K a = 5 := by rw [← eK]; exact g14
      have hrow : ∀ b, wrow (K a) (V a) v lb G cl cr b = wJoin (K a) (wres G cl b) (wres G cr b) := by
        intro b
        simp only [wrow]
        rw [if_neg (by rw [hk]; decide), if_neg (by rw [hk]; decide), if_neg (by rw [hk]; decide), if_neg (by rw [hk]; decide), if_neg (by rw [hk]; decide)]
      refine zW.topc (pc' := 175) rfl ?_
      refine z_iconst X d_Wrk_workOutNode_175 (v := 0) (by decide) ?_
      refine z_istore X d_Wrk_workOutNode_176 (by decide) rfl ?_
      exact L178 11 0 f (by omega) (hP.eq (by rw [wsetk_0])) zF.rf hrow
    | 3, _, hx =>
      have g14 : _ = (6 : Int32) := hx
      have hk : K a = 6 := by rw [← eK]; exact g14
      have hrow : ∀ b, wrow (K a) (V a) v lb G cl cr b = wJoin (K a) (wres G cl b) (wres G cr b) := by
        intro b
        simp only [wrow]
        rw [if_neg (by rw [hk]; decide), if_neg (by rw [hk]; decide), if_neg (by rw [hk]; decide), if_neg (by rw [hk]; decide), if_neg (by rw [hk]; decide)]
      refine zW.topc (pc' := 175) rfl ?_
      refine z_iconst X d_Wrk_workOutNode_175 (v := 0) (by decide) ?_
      refine z_istore X d_Wrk_workOutNode_176 (by decide) rfl ?_
      exact L178 11 0 f (by omega) (hP.eq (by rw [wsetk_0])) zF.rf hrow
    | 4, _, hx =>
      have g14 : _ = (7 : Int32) := hx
      have hk : K a = 7 := by rw [← eK]; exact g14
      have hrow : ∀ b, wrow (K a) (V a) v lb G cl cr b = wJoin (K a) (wres G cl b) (wres G cr b) := by
        intro b
        simp only [wrow]
        rw [if_neg (by rw [hk]; decide), if_neg (by rw [hk]; decide), if_neg (by rw [hk]; decide), if_neg (by rw [hk]; decide), if_neg (by rw [hk]; decide)]
      refine zW.topc (pc' := 175) rfl ?_
      refine z_iconst X d_Wrk_workOutNode_175 (v := 0) (by decide) ?_
      refine z_istore X d_Wrk_workOutNode_176 (by decide) rfl ?_
      exact L178 11 0 f (by omega) (hP.eq (by rw [wsetk_0])) zF.rf hrow
    | 5, _, hx =>
      have g14 : _ = (8 : Int32) := hx
      have hk : K a = 8 := by rw [← eK]; exact g14
      have hrow : ∀ b, wrow (K a) (V a) v lb G cl cr b = wJoin (K a) (wres G cl b) (wres G cr b) := by
        intro b
        simp only [wrow]
        rw [if_neg (by rw [hk]; decide), if_neg (by rw [hk]; decide), if_neg (by rw [hk]; decide), if_neg (by rw [hk]; decide), if_neg (by rw [hk]; decide)]
      refine zW.topc (pc' := 175) rfl ?_
      refine z_iconst X d_Wrk_workOutNode_175 (v := 0) (by decide) ?_
      refine z_istore X d_Wrk_workOutNode_176 (by decide) rfl ?_
      exact L178 11 0 f (by omega) (hP.eq (by rw [wsetk_0])) zF.rf hrow
    | 6, _, hx =>
      have g14 : _ = (9 : Int32) := hx
      have hk : K a = 9 := by rw [← eK]; exact g14
      have hrow : ∀ b, wrow (K a) (V a) v lb G cl cr b = wJoin (K a) (wres G cl b) (wres G cr b) := by
        intro b
        simp only [wrow]
        rw [if_neg (by rw [hk]; decide), if_neg (by rw [hk]; decide), if_neg (by rw [hk]; decide), if_neg (by rw [hk]; decide), if_neg (by rw [hk]; decide)]
      refine zW.topc (pc' := 175) rfl ?_
      refine z_iconst X d_Wrk_workOutNode_175 (v := 0) (by decide) ?_
      refine z_istore X d_Wrk_workOutNode_176 (by decide) rfl ?_
      exact L178 11 0 f (by omega) (hP.eq (by rw [wsetk_0])) zF.rf hrow
    | 7, _, hx =>
      have g14 : _ = (10 : Int32) := hx
      have hk : K a = 10 := by rw [← eK]; exact g14
      have hrow : ∀ b, wrow (K a) (V a) v lb G cl cr b = wJoin (K a) (wres G cl b) (wres G cr b) := by
        intro b
        simp only [wrow]
        rw [if_neg (by rw [hk]; decide), if_neg (by rw [hk]; decide), if_neg (by rw [hk]; decide), if_neg (by rw [hk]; decide), if_neg (by rw [hk]; decide)]
      refine zW.topc (pc' := 175) rfl ?_
      refine z_iconst X d_Wrk_workOutNode_175 (v := 0) (by decide) ?_
      refine z_istore X d_Wrk_workOutNode_176 (by decide) rfl ?_
      exact L178 11 0 f (by omega) (hP.eq (by rw [wsetk_0])) zF.rf hrow
    | 8, _, hx =>
      have g14 : _ = (11 : Int32) := hx
      have hk : K a = 11 := by rw [← eK]; exact g14
      refine zW.topc (pc' := 76) rfl ?_
      refine z_aload_n X d_Wrk_workOutNode_76 rfl ?_
      refine z_iload_n X d_Wrk_workOutNode_77 rfl ?_
      refine z_iload X d_Wrk_workOutNode_78 rfl ?_
      refine z_callV X zG_ok (c_Wrk_setOnAllLines (hP.sub [0, 1] (by decide) rfl) (show a < 40 by omega)) d_Wrk_workOutNode_80 ⟨(z_cb (n := 2) X.2.2.2.2.1 ml_Wrk_54 mc_Wrk_setOnAllLines ini_Wrk (by decide +kernel) rfl rfl ⟨Nat.le_of_ble_eq_true rfl, Nat.le_of_ble_eq_true rfl⟩), X.2.2.2.2.1 _ im_Wrk_setOnAllLines, X.2.2.2.2.1 _ sel_Wrk_setOnAllLines⟩ (hP.lo 0 rfl) (hP.at 0 rfl) cl_Wrk rfl rfl (Nat.le_of_ble_eq_true rfl) ⟨Nat.le_of_ble_eq_true rfl, Nat.le_of_ble_eq_true rfl⟩ (fun r N1 f1 hp hN1 => ?_)
      obtain ⟨rfl, rfl, hP1, hF⟩ := hp
      have e9 : (fun _ : Nat => sgv V u (nI a)) = wrow (K a) (V a) v lb G cl cr := by
        funext b
        simp only [wrow]; rw [if_pos hk, eV]
      rw [e9] at hP1
      have hP : zP b0 N f1 (wWrk ck wk dc rs va lb (wsetk G a (wrow (K a) (V a) v lb G cl cr) 10) v ++ wTre ck tr ka vb ra n K V R u) := ((hP.jn [0, 1] [2, 3, 4, 5, 6, 7] rfl (by decide) (by simp) (by decide) hF (Nat.le_refl _) hP1 (fun _ h => Or.inl h)).sel [6, 7, 0, 1, 2, 3, 4, 5] (by decide) (by simp))
      refine z_goto X 232 d_Wrk_workOutNode_83 (by decide) ?_
      exact z_vret X d_Wrk_workOutNode_232 ⟨rfl, rfl, hP, hF⟩
    | 9, _, hx =>
      have g14 : _ = (12 : Int32) := hx
      have hk : K a = 12 := by rw [← eK]; exact g14
      refine zW.topc (pc' := 138) rfl ?_
      refine z_iconst X d_Wrk_workOutNode_138 (v := 0) (by decide) ?_
      refine z_istore X d_Wrk_workOutNode_139 (by decide) rfl ?_
      exact L141 11 0 f (by omega) (hP.eq (by rw [wsetk_0])) zF.rf hk
    | 10, _, hx =>
      have g14 : _ = (13 : Int32) := hx
      have hk : K a = 13 := by rw [← eK]; exact g14
      refine zW.topc (pc' := 86) rfl ?_
      refine z_aload_n X d_Wrk_workOutNode_86 rfl ?_
      refine z_iload_n X d_Wrk_workOutNode_87 rfl ?_
      refine z_aload_n X d_Wrk_workOutNode_88 rfl ?_
      refine z_get X d_Wrk_workOutNode_89 (hP.lo 0 rfl) (hP.at 0 rfl) cl_Wrk in_Wrk 0 (by decide) fl_Wrk_12 rfl rfl ?_
      refine z_iload X d_Wrk_workOutNode_92 rfl ?_
      refine z_callV X zG_ok (c_Decl_sumOf (hP.sub [2, 3] (by decide) rfl)) d_Wrk_workOutNode_94 ⟨(z_cb (n := 1) X.2.2.2.2.1 ml_Wrk_58 mc_Decl_sumOf ini_Decl (by decide +kernel) rfl rfl ⟨Nat.le_of_ble_eq_true rfl, Nat.le_of_ble_eq_true rfl⟩), X.2.2.2.2.1 _ im_Decl_sumOf, X.2.2.2.2.1 _ sel_Decl_sumOf⟩ (hP.lo 2 rfl) (hP.at 2 rfl) cl_Decl rfl rfl (Nat.le_of_ble_eq_true rfl) ⟨Nat.le_of_ble_eq_true rfl, Nat.le_of_ble_eq_true rfl⟩ (fun r N1 f1 hp hN1 => ?_)
      obtain ⟨rfl, rfl, rfl⟩ := hp
      refine z_callV X zG_ok (c_Wrk_setOnAllLines (hP.sub [0, 1] (by decide) rfl) (show a < 40 by omega)) d_Wrk_workOutNode_97 ⟨(z_cb (n := 2) X.2.2.2.2.1 ml_Wrk_54 mc_Wrk_setOnAllLines ini_Wrk (by decide +kernel) rfl rfl ⟨Nat.le_of_ble_eq_true rfl, Nat.le_of_ble_eq_true rfl⟩), X.2.2.2.2.1 _ im_Wrk_setOnAllLines, X.2.2.2.2.1 _ sel_Wrk_setOnAllLines⟩ (hP.lo 0 rfl) (hP.at 0 rfl) cl_Wrk rfl rfl (Nat.le_of_ble_eq_true rfl) ⟨Nat.le_of_ble_eq_true rfl, Nat.le_of_ble_eq_true rfl⟩ (fun r N1 f1 hp hN1 => ?_)
      obtain ⟨rfl, rfl, hP1, hF⟩ := hp
      have e9 : (fun _ : Nat => dsum v (sgv V u (nI a)) 9) = wrow (K a) (V a) v lb G cl cr := by
        funext b
        simp only [wrow]; rw [if_neg (by rw [hk]; decide), if_pos hk, eV]
      rw [e9] at hP1
      have hP : zP b0 N f1 (wWrk ck wk dc rs va lb (wsetk G a (wrow (K a) (V a) v lb G cl cr) 10) v ++ wTre ck tr ka vb ra n K V R u) := ((hP.jn [0, 1] [2, 3, 4, 5, 6, 7] rfl (by decide) (by simp) (by decide) hF (Nat.le_refl _) hP1 (fun _ h => Or.inl h)).sel [6, 7, 0, 1, 2, 3, 4, 5] (by decide) (by simp))
      refine z_goto X 232 d_Wrk_workOutNode_100 (by decide) ?_
      exact z_vret X d_Wrk_workOutNode_232 ⟨rfl, rfl, hP, hF⟩
    | 11, _, hx =>
      have g14 : _ = (14 : Int32) := hx
      have hk : K a = 14 := by rw [← eK]; exact g14
      refine zW.topc (pc' := 103) rfl ?_
      refine z_aload_n X d_Wrk_workOutNode_103 rfl ?_
      refine z_iload_n X d_Wrk_workOutNode_104 rfl ?_
      refine z_aload_n X d_Wrk_workOutNode_105 rfl ?_
      refine z_get X d_Wrk_workOutNode_106 (hP.lo 0 rfl) (hP.at 0 rfl) cl_Wrk in_Wrk 0 (by decide) fl_Wrk_12 rfl rfl ?_
      refine z_iload X d_Wrk_workOutNode_109 rfl ?_
      refine z_callV X zG_ok (c_Decl_countOf (hP.sub [2, 3] (by decide) rfl)) d_Wrk_workOutNode_111 ⟨(z_cb (n := 1) X.2.2.2.2.1 ml_Wrk_61 mc_Decl_countOf ini_Decl (by decide +kernel) rfl rfl ⟨Nat.le_of_ble_eq_true rfl, Nat.le_of_ble_eq_true rfl⟩), X.2.2.2.2.1 _ im_Decl_countOf, X.2.2.2.2.1 _ sel_Decl_countOf⟩ (hP.lo 2 rfl) (hP.at 2 rfl) cl_Decl rfl rfl (Nat.le_of_ble_eq_true rfl) ⟨Nat.le_of_ble_eq_true rfl, Nat.le_of_ble_eq_true rfl⟩ (fun r N1 f1 hp hN1 => ?_)
      obtain ⟨rfl, rfl, rfl⟩ := hp
      refine z_callV X zG_ok (c_Wrk_setOnAllLines (hP.sub [0, 1] (by decide) rfl) (show a < 40 by omega)) d_Wrk_workOutNode_114 ⟨(z_cb (n := 2) X.2.2.2.2.1 ml_Wrk_54 mc_Wrk_setOnAllLines ini_Wrk (by decide +kernel) rfl rfl ⟨Nat.le_of_ble_eq_true rfl, Nat.le_of_ble_eq_true rfl⟩), X.2.2.2.2.1 _ im_Wrk_setOnAllLines, X.2.2.2.2.1 _ sel_Wrk_setOnAllLines⟩ (hP.lo 0 rfl) (hP.at 0 rfl) cl_Wrk rfl rfl (Nat.le_of_ble_eq_true rfl) ⟨Nat.le_of_ble_eq_true rfl, Nat.le_of_ble_eq_true rfl⟩ (fun r N1 f1 hp hN1 => ?_)
      obtain ⟨rfl, rfl, hP1, hF⟩ := hp
      have e9 : (fun _ : Nat => dcnt v (sgv V u (nI a)) 9) = wrow (K a) (V a) v lb G cl cr := by
        funext b
        simp only [wrow]; rw [if_neg (by rw [hk]; decide), if_neg (by rw [hk]; decide), if_pos hk, eV]
      rw [e9] at hP1
      have hP : zP b0 N f1 (wWrk ck wk dc rs va lb (wsetk G a (wrow (K a) (V a) v lb G cl cr) 10) v ++ wTre ck tr ka vb ra n K V R u) := ((hP.jn [0, 1] [2, 3, 4, 5, 6, 7] rfl (by decide) (by simp) (by decide) hF (Nat.le_refl _) hP1 (fun _ h => Or.inl h)).sel [6, 7, 0, 1, 2, 3, 4, 5] (by decide) (by simp))
      refine z_goto X 232 d_Wrk_workOutNode_117 (by decide) ?_
      exact z_vret X d_Wrk_workOutNode_232 ⟨rfl, rfl, hP, hF⟩
    | j + 12, hi, _ => exact absurd hi (by simp)
  · skip
    have g14_0 : ¬ _ = (3 : Int32) := hd 0 (by decide)
    have g14_1 : ¬ _ = (4 : Int32) := hd 1 (by decide)
    have g14_2 : ¬ _ = (5 : Int32) := hd 2 (by decide)
    have g14_3 : ¬ _ = (6 : Int32) := hd 3 (by decide)
    have g14_4 : ¬ _ = (7 : Int32) := hd 4 (by decide)
    have g14_5 : ¬ _ = (8 : Int32) := hd 5 (by decide)
    have g14_6 : ¬ _ = (9 : Int32) := hd 6 (by decide)
    have g14_7 : ¬ _ = (10 : Int32) := hd 7 (by decide)
    have g14_8 : ¬ _ = (11 : Int32) := hd 8 (by decide)
    have g14_9 : ¬ _ = (12 : Int32) := hd 9 (by decide)
    have g14_10 : ¬ _ = (13 : Int32) := hd 10 (by decide)
    have g14_11 : ¬ _ = (14 : Int32) := hd 11 (by decide)
    rw [eK] at g14_0 g14_1 g14_8 g14_9 g14_10 g14_11
    have hrow : ∀ b, wrow (K a) (V a) v lb G cl cr b = wJoin (K a) (wres G cl b) (wres G cr b) := by
      intro b
      simp only [wrow]
      rw [if_neg g14_8, if_neg g14_10, if_neg g14_11, if_neg (by rintro (h | h); exact g14_0 h; exact g14_1 h), if_neg g14_9]
    refine z_iconst X d_Wrk_workOutNode_175 (v := 0) (by decide) ?_
    refine z_istore X d_Wrk_workOutNode_176 (by decide) rfl ?_
    exact L178 11 0 f (by omega) (hP.eq (by rw [wsetk_0])) zF.rf hrow
/-- Worker.workOut: the rows after the last k nodes -/
def wfd (K V R : Nat → Int32) (CL CR : Nat → Option Nat) (v : Nat → Int32) (LB : Int32) (G : Nat → Int32) (u : Nat) : Nat → (Nat → Int32)
  | 0 => G
  | k + 1 => wsetk (wfd K V R CL CR v LB G u k) (u - 1 - k) (wrow (K (u - 1 - k)) (V (u - 1 - k)) v LB (wfd K V R CL CR v LB G u k) (CL (u - 1 - k)) (CR (u - 1 - k))) 10
/-- a tree whose nodes name their lefts and rights -/
def tok (K R : Nat → Int32) (u : Nat) (CL CR : Nat → Option Nat) : Prop := ∀ a, a < u → tleft K u (nI a) = wix (CL a) ∧ R a = wix (CR a) ∧ (∀ z, CL a = some z → z < 40 ∧ z ≠ a) ∧ (∀ z, CR a = some z → z < 40 ∧ z ≠ a)
theorem d_Wrk_workOut_0 : decode prog_8_method_2_code 0 = .ok (.aload_n 0, 1) := by decide +kernel
theorem d_Wrk_workOut_1 : decode prog_8_method_2_code 1 = .ok (.aload_n 0, 1) := by decide +kernel
theorem d_Wrk_workOut_2 : decode prog_8_method_2_code 2 = .ok (.getfield 12, 3) := by decide +kernel
theorem d_Wrk_workOut_5 : decode prog_8_method_2_code 5 = .ok (.invokevirtual 22, 3) := by decide +kernel
theorem d_Wrk_workOut_8 : decode prog_8_method_2_code 8 = .ok (.putfield 26, 3) := by decide +kernel
theorem d_Wrk_workOut_11 : decode prog_8_method_2_code 11 = .ok (.aload_n 1, 1) := by decide +kernel
theorem d_Wrk_workOut_12 : decode prog_8_method_2_code 12 = .ok (.invokevirtual 29, 3) := by decide +kernel
theorem d_Wrk_workOut_15 : decode prog_8_method_2_code 15 = .ok (.bipush 40, 2) := by decide +kernel
theorem d_Wrk_workOut_17 : decode prog_8_method_2_code 17 = .ok (.invokestatic 34, 3) := by decide +kernel
theorem d_Wrk_workOut_20 : decode prog_8_method_2_code 20 = .ok (.iconst 1, 1) := by decide +kernel
theorem d_Wrk_workOut_21 : decode prog_8_method_2_code 21 = .ok (.isub, 1) := by decide +kernel
theorem d_Wrk_workOut_22 : decode prog_8_method_2_code 22 = .ok (.istore_n 2, 1) := by decide +kernel
theorem d_Wrk_workOut_23 : decode prog_8_method_2_code 23 = .ok (.iload_n 2, 1) := by decide +kernel
theorem d_Wrk_workOut_24 : decode prog_8_method_2_code 24 = .ok (.ifCond .lt 15, 3) := by decide +kernel
theorem d_Wrk_workOut_27 : decode prog_8_method_2_code 27 = .ok (.aload_n 0, 1) := by decide +kernel
theorem d_Wrk_workOut_28 : decode prog_8_method_2_code 28 = .ok (.aload_n 1, 1) := by decide +kernel
theorem d_Wrk_workOut_29 : decode prog_8_method_2_code 29 = .ok (.iload_n 2, 1) := by decide +kernel
theorem d_Wrk_workOut_30 : decode prog_8_method_2_code 30 = .ok (.invokevirtual 40, 3) := by decide +kernel
theorem d_Wrk_workOut_33 : decode prog_8_method_2_code 33 = .ok (.iinc 2 (-1), 3) := by decide +kernel
theorem d_Wrk_workOut_36 : decode prog_8_method_2_code 36 = .ok (.goto (-13), 3) := by decide +kernel
theorem d_Wrk_workOut_39 : decode prog_8_method_2_code 39 = .ok (.aload_n 0, 1) := by decide +kernel
theorem d_Wrk_workOut_40 : decode prog_8_method_2_code 40 = .ok (.iconst 0, 1) := by decide +kernel
theorem d_Wrk_workOut_41 : decode prog_8_method_2_code 41 = .ok (.iconst 0, 1) := by decide +kernel
theorem d_Wrk_workOut_42 : decode prog_8_method_2_code 42 = .ok (.invokevirtual 44, 3) := by decide +kernel
theorem d_Wrk_workOut_45 : decode prog_8_method_2_code 45 = .ok (.ireturn, 1) := by decide +kernel
set_option maxHeartbeats 4000000 in
set_option maxRecDepth 100000 in
theorem c_Wrk_workOut {wk dc rs va tr ka vb ra n u : Nat} {lb : Int32} {G v K V R : Nat → Int32} (hP : zP b0 N f (wWrk ck wk dc rs va lb (G) v ++ wTre ck tr ka vb ra n K V R u)) (hu : u ≤ n) (hn : n ≤ 40) {CL CR : Nat → Option Nat} (hok : tok K R u CL CR) : zK l D ck ad b0 y_Wrk_workOut prog_8_method_2_code 3 ((some FieldType.int)) 4 0 0 [.ref wk, .ref tr] N f (fun r N' f' => r = some (.int ((wfd K V R CL CR v (dbits v 9) G u (u)) 0)) ∧ N = N' ∧ zP b0 N f' (wWrk ck wk dc rs va (dbits v 9) (wfd K V R CL CR v (dbits v 9) G u (u)) v ++ wTre ck tr ka vb ra n K V R u) ∧ zF N f f' [wk, rs]) := by
  refine zM.of zG_w (by decide) (Nat.le_of_ble_eq_true rfl) ?_
  intro zp ze zst zm zar zbe zme zc X hnm hb0
  have hF : zF N f f [wk, rs] := zF.rf
  have L23 : ∀ (nn : Nat) (t : Nat) (f1 : Nat → va_E), (t ≤ u ∧ t < nn) → zP b0 N f1 (wWrk ck wk dc rs va (dbits v 9) (wfd K V R CL CR v (dbits v 9) G u (u - t)) v ++ wTre ck tr ka vb ra n K V R u) → zF N f f1 [wk, rs] → zW zp l ze (zR 4 0 0) zst zm zar zbe zme zc D zcl b0 3 0 0 (MQ zbe (zQ D zcl b0 (fun r N' f' => r = some (.int ((wfd K V R CL CR v (dbits v 9) G u (u)) 0)) ∧ N = N' ∧ zP b0 N f' (wWrk ck wk dc rs va (dbits v 9) (wfd K V R CL CR v (dbits v 9) G u (u)) v ++ wTre ck tr ka vb ra n K V R u) ∧ zF N f f' [wk, rs])) zar zst 0 0 (zA b0)) N f1 23 [(0, .ref wk), (1, .ref tr), (2, .int (nI t - 1))] [] := by
    intro nn
    induction nn with
    | zero =>
      intro t f1 ht0 hP hF
      omega
    | succ nn ih =>
      intro t f1 ht0 hP hF
      refine z_iload_n X d_Wrk_workOut_23 rfl ?_
      refine z_if_lt X 39 d_Wrk_workOut_24 (by decide) (fun h24 => ?_) (fun h24 => ?_)
      · skip
        have ht : t = 0 := by
          rcases Nat.eq_zero_or_pos t with z | z
          · exact z
          · rw [show nI t - 1 = nI (t - 1) from pk_sub (b := 1) (by omega)] at h24
            exact absurd h24 (nI_pos (by omega))
        subst ht
        refine z_aload_n X d_Wrk_workOut_39 rfl ?_
        refine z_iconst X d_Wrk_workOut_40 (v := 0) (by decide) ?_
        refine z_iconst X d_Wrk_workOut_41 (v := 0) (by decide) ?_
        refine z_callV X zG_ok (c_Wrk_resultOf_s (hP.sub [0, 1] (by decide) rfl) (c := 0) (b := 0) (by decide) (by decide)) d_Wrk_workOut_42 ⟨(z_cb (n := 2) X.2.2.2.2.1 ml_Wrk_44 mc_Wrk_resultOf ini_Wrk (by decide +kernel) rfl rfl ⟨Nat.le_of_ble_eq_true rfl, Nat.le_of_ble_eq_true rfl⟩), X.2.2.2.2.1 _ im_Wrk_resultOf, X.2.2.2.2.1 _ sel_Wrk_resultOf⟩ (hP.lo 0 rfl) (hP.at 0 rfl) cl_Wrk rfl rfl (Nat.le_of_ble_eq_true rfl) ⟨Nat.le_of_ble_eq_true rfl, Nat.le_of_ble_eq_true rfl⟩ (fun r N1 f1 hp hN1 => ?_)
        obtain ⟨rfl, rfl, rfl⟩ := hp
        exact z_iret X d_Wrk_workOut_45 ⟨rfl, rfl, hP, hF⟩
      · skip
        obtain ⟨t, rfl⟩ : ∃ t1, t = t1 + 1 := ⟨t - 1, by rcases Nat.eq_zero_or_pos t with z | z; exact absurd (by rw [z]; decide) h24; omega⟩
        rw [show nI (t + 1) - 1 = nI t from nI_pred t]
        refine z_aload_n X d_Wrk_workOut_27 rfl ?_
        refine z_aload_n X d_Wrk_workOut_28 rfl ?_
        refine z_iload_n X d_Wrk_workOut_29 rfl ?_
        refine z_callV X zG_ok (c_Wrk_workOutNode hP hu hn (a := t) (by omega) (hok t (by omega)).1 (hok t (by omega)).2.1 (hok t (by omega)).2.2.1 (hok t (by omega)).2.2.2) d_Wrk_workOut_30 ⟨(z_cb (n := 2) X.2.2.2.2.1 ml_Wrk_40 mc_Wrk_workOutNode ini_Wrk (by decide +kernel) rfl rfl ⟨Nat.le_of_ble_eq_true rfl, Nat.le_of_ble_eq_true rfl⟩), X.2.2.2.2.1 _ im_Wrk_workOutNode, X.2.2.2.2.1 _ sel_Wrk_workOutNode⟩ (hP.lo 0 rfl) (hP.at 0 rfl) cl_Wrk rfl rfl (Nat.le_of_ble_eq_true rfl) ⟨Nat.le_of_ble_eq_true rfl, Nat.le_of_ble_eq_true rfl⟩ (fun r N1 f1 hp hN1 => ?_)
        obtain ⟨rfl, rfl, hP, hF1⟩ := hp
        have hF := hF.join hF1 (Nat.le_refl _) (fun _ h => Or.inl h)
        refine z_iinc X d_Wrk_workOut_33 rfl (show nI t + Int32.ofInt (-1) = nI t - 1 from by rw [Int32.sub_eq_add_neg]; rfl) (by decide) rfl ?_
        refine z_goto X 23 d_Wrk_workOut_36 (by decide) ?_
        refine zW.pick [0, 1, 2] (lv' := [(0, .ref wk), (1, .ref tr), (2, .int (nI t - 1))]) rfl ?_
        exact ih t _ (by omega) (hP.eq (by rw [show u - t = (u - (t + 1)) + 1 by omega]; simp only [wfd]; rw [show u - 1 - (u - (t + 1)) = t by omega])) hF
  refine z_aload_n X d_Wrk_workOut_0 rfl ?_
  refine z_aload_n X d_Wrk_workOut_1 rfl ?_
  refine z_get X d_Wrk_workOut_2 (hP.lo 0 rfl) (hP.at 0 rfl) cl_Wrk in_Wrk 0 (by decide) fl_Wrk_12 rfl rfl ?_
  refine z_callV X zG_ok (c_Decl_lineBits (hP.sub [2, 3] (by decide) rfl)) d_Wrk_workOut_5 ⟨(z_cb (n := 0) X.2.2.2.2.1 ml_Wrk_22 mc_Decl_lineBits ini_Decl (by decide +kernel) rfl rfl ⟨Nat.le_of_ble_eq_true rfl, Nat.le_of_ble_eq_true rfl⟩), X.2.2.2.2.1 _ im_Decl_lineBits, X.2.2.2.2.1 _ sel_Decl_lineBits⟩ (hP.lo 2 rfl) (hP.at 2 rfl) cl_Decl rfl rfl (Nat.le_of_ble_eq_true rfl) ⟨Nat.le_of_ble_eq_true rfl, Nat.le_of_ble_eq_true rfl⟩ (fun r N1 f1 hp hN1 => ?_)
  obtain ⟨rfl, rfl, rfl⟩ := hp
  refine z_putP X t_Wrk ty_Wrk n_Wrk d_Wrk_workOut_8 hP 0 rfl cl_Wrk in_Wrk 2 (by decide) fl_Wrk_26 rfl rfl rfl rfl rfl (Nat.le_of_ble_eq_true rfl) (fun hP => ?_)
  have hF := hF.by (by simp) hP
  refine z_aload_n X d_Wrk_workOut_11 rfl ?_
  refine z_callV X zG_ok (c_Tre_size (hP.sub [4, 5, 6, 7] (by decide) rfl)) d_Wrk_workOut_12 ⟨(z_cb (n := 0) X.2.2.2.2.1 ml_Wrk_29 mc_Tre_size ini_Tre (by decide +kernel) rfl rfl ⟨Nat.le_of_ble_eq_true rfl, Nat.le_of_ble_eq_true rfl⟩), X.2.2.2.2.1 _ im_Tre_size, X.2.2.2.2.1 _ sel_Tre_size⟩ (hP.lo 4 rfl) (hP.at 4 rfl) cl_Tre rfl rfl (Nat.le_of_ble_eq_true rfl) ⟨Nat.le_of_ble_eq_true rfl, Nat.le_of_ble_eq_true rfl⟩ (fun r N1 f1 hp hN1 => ?_)
  obtain ⟨rfl, rfl, rfl⟩ := hp
  refine z_bipush X d_Wrk_workOut_15 (v := 40) (by decide) ?_
  refine z_mmin X d_Wrk_workOut_17 ml_Wrk_34 st_Math_min ini_Math mc_lib_min (Nat.le_of_ble_eq_true rfl) (Nat.le_of_ble_eq_true rfl) (Nat.zero_le _) (Nat.zero_le _) ?_
  refine z_iconst X d_Wrk_workOut_20 (v := 1) (by decide) ?_
  refine z_isub X d_Wrk_workOut_21 ?_
  refine z_istore_n X d_Wrk_workOut_22 (by decide) rfl ?_
  refine zW.pick [0, 1, 2] (lv' := [(0, .ref wk), (1, .ref tr), (2, .int (nI u - 1))]) (by rw [if_neg (show ¬ (40 : Int32) < nI u from nI_nlt (a := 40) (b := u) (by omega) (by decide))]; rfl) ?_
  exact L23 (u + 1) u _ (by omega) (hP.eq (by rw [Nat.sub_self]; rfl)) hF
end
