section
variable {l : Launch} {D : va_G} {ck : Nat → ClassId} {ad : (Nat → Nat) × (Nat → Nat)} {b0 N : Nat} {f : Nat → va_E}
theorem d_Mod_term_0 : decode prog_10_method_16_code 0 = .ok (.aload_n 0, 1) := by decide +kernel
theorem d_Mod_term_1 : decode prog_10_method_16_code 1 = .ok (.invokevirtual 147, 3) := by decide +kernel
theorem d_Mod_term_4 : decode prog_10_method_16_code 4 = .ok (.istore_n 1, 1) := by decide +kernel
theorem d_Mod_term_5 : decode prog_10_method_16_code 5 = .ok (.aload_n 0, 1) := by decide +kernel
theorem d_Mod_term_6 : decode prog_10_method_16_code 6 = .ok (.getfield 107, 3) := by decide +kernel
theorem d_Mod_term_9 : decode prog_10_method_16_code 9 = .ok (.istore_n 2, 1) := by decide +kernel
theorem d_Mod_term_10 : decode prog_10_method_16_code 10 = .ok (.iload_n 1, 1) := by decide +kernel
theorem d_Mod_term_11 : decode prog_10_method_16_code 11 = .ok (.iconst (-1), 1) := by decide +kernel
theorem d_Mod_term_12 : decode prog_10_method_16_code 12 = .ok (.if_icmp .ne 7, 3) := by decide +kernel
theorem d_Mod_term_15 : decode prog_10_method_16_code 15 = .ok (.iconst 0, 1) := by decide +kernel
theorem d_Mod_term_16 : decode prog_10_method_16_code 16 = .ok (.goto 7, 3) := by decide +kernel
theorem d_Mod_term_19 : decode prog_10_method_16_code 19 = .ok (.aload_n 0, 1) := by decide +kernel
theorem d_Mod_term_20 : decode prog_10_method_16_code 20 = .ok (.invokevirtual 151, 3) := by decide +kernel
theorem d_Mod_term_23 : decode prog_10_method_16_code 23 = .ok (.istore_n 3, 1) := by decide +kernel
theorem d_Mod_term_24 : decode prog_10_method_16_code 24 = .ok (.iload_n 1, 1) := by decide +kernel
theorem d_Mod_term_25 : decode prog_10_method_16_code 25 = .ok (.invokestatic 144, 3) := by decide +kernel
theorem d_Mod_term_28 : decode prog_10_method_16_code 28 = .ok (.ifCond .eq 44, 3) := by decide +kernel
theorem d_Mod_term_31 : decode prog_10_method_16_code 31 = .ok (.aload_n 0, 1) := by decide +kernel
theorem d_Mod_term_32 : decode prog_10_method_16_code 32 = .ok (.bipush 7, 2) := by decide +kernel
theorem d_Mod_term_34 : decode prog_10_method_16_code 34 = .ok (.iload_n 2, 1) := by decide +kernel
theorem d_Mod_term_35 : decode prog_10_method_16_code 35 = .ok (.invokevirtual 154, 3) := by decide +kernel
theorem d_Mod_term_38 : decode prog_10_method_16_code 38 = .ok (.istore 4, 2) := by decide +kernel
theorem d_Mod_term_40 : decode prog_10_method_16_code 40 = .ok (.aload_n 0, 1) := by decide +kernel
theorem d_Mod_term_41 : decode prog_10_method_16_code 41 = .ok (.getfield 128, 3) := by decide +kernel
theorem d_Mod_term_44 : decode prog_10_method_16_code 44 = .ok (.ifCond .ge 13, 3) := by decide +kernel
theorem d_Mod_term_47 : decode prog_10_method_16_code 47 = .ok (.aload_n 0, 1) := by decide +kernel
theorem d_Mod_term_48 : decode prog_10_method_16_code 48 = .ok (.bipush 11, 2) := by decide +kernel
theorem d_Mod_term_50 : decode prog_10_method_16_code 50 = .ok (.iload_n 2, 1) := by decide +kernel
theorem d_Mod_term_51 : decode prog_10_method_16_code 51 = .ok (.invokevirtual 158, 3) := by decide +kernel
theorem d_Mod_term_54 : decode prog_10_method_16_code 54 = .ok (.goto 4, 3) := by decide +kernel
theorem d_Mod_term_57 : decode prog_10_method_16_code 57 = .ok (.iconst 0, 1) := by decide +kernel
theorem d_Mod_term_58 : decode prog_10_method_16_code 58 = .ok (.istore 5, 2) := by decide +kernel
theorem d_Mod_term_60 : decode prog_10_method_16_code 60 = .ok (.aload_n 0, 1) := by decide +kernel
theorem d_Mod_term_61 : decode prog_10_method_16_code 61 = .ok (.getfield 59, 3) := by decide +kernel
theorem d_Mod_term_64 : decode prog_10_method_16_code 64 = .ok (.iload 5, 2) := by decide +kernel
theorem d_Mod_term_66 : decode prog_10_method_16_code 66 = .ok (.iload 4, 2) := by decide +kernel
theorem d_Mod_term_68 : decode prog_10_method_16_code 68 = .ok (.iastore, 1) := by decide +kernel
theorem d_Mod_term_69 : decode prog_10_method_16_code 69 = .ok (.iload 5, 2) := by decide +kernel
theorem d_Mod_term_71 : decode prog_10_method_16_code 71 = .ok (.ireturn, 1) := by decide +kernel
theorem d_Mod_term_72 : decode prog_10_method_16_code 72 = .ok (.iload_n 3, 1) := by decide +kernel
theorem d_Mod_term_73 : decode prog_10_method_16_code 73 = .ok (.iconst 1, 1) := by decide +kernel
theorem d_Mod_term_74 : decode prog_10_method_16_code 74 = .ok (.if_icmp .ne 41, 3) := by decide +kernel
theorem d_Mod_term_77 : decode prog_10_method_16_code 77 = .ok (.aload_n 0, 1) := by decide +kernel
theorem d_Mod_term_78 : decode prog_10_method_16_code 78 = .ok (.invokevirtual 161, 3) := by decide +kernel
theorem d_Mod_term_81 : decode prog_10_method_16_code 81 = .ok (.istore 4, 2) := by decide +kernel
theorem d_Mod_term_83 : decode prog_10_method_16_code 83 = .ok (.aload_n 0, 1) := by decide +kernel
theorem d_Mod_term_84 : decode prog_10_method_16_code 84 = .ok (.getfield 128, 3) := by decide +kernel
theorem d_Mod_term_87 : decode prog_10_method_16_code 87 = .ok (.ifCond .ge 13, 3) := by decide +kernel
theorem d_Mod_term_90 : decode prog_10_method_16_code 90 = .ok (.aload_n 0, 1) := by decide +kernel
theorem d_Mod_term_91 : decode prog_10_method_16_code 91 = .ok (.bipush 12, 2) := by decide +kernel
theorem d_Mod_term_93 : decode prog_10_method_16_code 93 = .ok (.iload_n 2, 1) := by decide +kernel
theorem d_Mod_term_94 : decode prog_10_method_16_code 94 = .ok (.invokevirtual 158, 3) := by decide +kernel
theorem d_Mod_term_97 : decode prog_10_method_16_code 97 = .ok (.goto 4, 3) := by decide +kernel
theorem d_Mod_term_100 : decode prog_10_method_16_code 100 = .ok (.iconst 0, 1) := by decide +kernel
theorem d_Mod_term_101 : decode prog_10_method_16_code 101 = .ok (.istore 5, 2) := by decide +kernel
theorem d_Mod_term_103 : decode prog_10_method_16_code 103 = .ok (.aload_n 0, 1) := by decide +kernel
theorem d_Mod_term_104 : decode prog_10_method_16_code 104 = .ok (.getfield 59, 3) := by decide +kernel
theorem d_Mod_term_107 : decode prog_10_method_16_code 107 = .ok (.iload 5, 2) := by decide +kernel
theorem d_Mod_term_109 : decode prog_10_method_16_code 109 = .ok (.iload 4, 2) := by decide +kernel
theorem d_Mod_term_111 : decode prog_10_method_16_code 111 = .ok (.iastore, 1) := by decide +kernel
theorem d_Mod_term_112 : decode prog_10_method_16_code 112 = .ok (.iload 5, 2) := by decide +kernel
theorem d_Mod_term_114 : decode prog_10_method_16_code 114 = .ok (.ireturn, 1) := by decide +kernel
theorem d_Mod_term_115 : decode prog_10_method_16_code 115 = .ok (.iload_n 3, 1) := by decide +kernel
theorem d_Mod_term_116 : decode prog_10_method_16_code 116 = .ok (.iconst 2, 1) := by decide +kernel
theorem d_Mod_term_117 : decode prog_10_method_16_code 117 = .ok (.if_icmp .eq 15, 3) := by decide +kernel
theorem d_Mod_term_120 : decode prog_10_method_16_code 120 = .ok (.iload_n 3, 1) := by decide +kernel
theorem d_Mod_term_121 : decode prog_10_method_16_code 121 = .ok (.iconst 3, 1) := by decide +kernel
theorem d_Mod_term_122 : decode prog_10_method_16_code 122 = .ok (.if_icmp .eq 10, 3) := by decide +kernel
theorem d_Mod_term_125 : decode prog_10_method_16_code 125 = .ok (.aload_n 0, 1) := by decide +kernel
theorem d_Mod_term_126 : decode prog_10_method_16_code 126 = .ok (.iload_n 2, 1) := by decide +kernel
theorem d_Mod_term_127 : decode prog_10_method_16_code 127 = .ok (.invokevirtual 134, 3) := by decide +kernel
theorem d_Mod_term_130 : decode prog_10_method_16_code 130 = .ok (.iconst 0, 1) := by decide +kernel
theorem d_Mod_term_131 : decode prog_10_method_16_code 131 = .ok (.ireturn, 1) := by decide +kernel
theorem d_Mod_term_132 : decode prog_10_method_16_code 132 = .ok (.aload_n 0, 1) := by decide +kernel
theorem d_Mod_term_133 : decode prog_10_method_16_code 133 = .ok (.bipush 11, 2) := by decide +kernel
theorem d_Mod_term_135 : decode prog_10_method_16_code 135 = .ok (.iload_n 3, 1) := by decide +kernel
theorem d_Mod_term_136 : decode prog_10_method_16_code 136 = .ok (.iadd, 1) := by decide +kernel
theorem d_Mod_term_137 : decode prog_10_method_16_code 137 = .ok (.iload_n 2, 1) := by decide +kernel
theorem d_Mod_term_138 : decode prog_10_method_16_code 138 = .ok (.invokevirtual 158, 3) := by decide +kernel
theorem d_Mod_term_141 : decode prog_10_method_16_code 141 = .ok (.istore 4, 2) := by decide +kernel
theorem d_Mod_term_143 : decode prog_10_method_16_code 143 = .ok (.aload_n 0, 1) := by decide +kernel
theorem d_Mod_term_144 : decode prog_10_method_16_code 144 = .ok (.dup, 1) := by decide +kernel
theorem d_Mod_term_145 : decode prog_10_method_16_code 145 = .ok (.getfield 107, 3) := by decide +kernel
theorem d_Mod_term_148 : decode prog_10_method_16_code 148 = .ok (.iload_n 3, 1) := by decide +kernel
theorem d_Mod_term_149 : decode prog_10_method_16_code 149 = .ok (.iconst 2, 1) := by decide +kernel
theorem d_Mod_term_150 : decode prog_10_method_16_code 150 = .ok (.if_icmp .ne 7, 3) := by decide +kernel
theorem d_Mod_term_153 : decode prog_10_method_16_code 153 = .ok (.iconst 3, 1) := by decide +kernel
theorem d_Mod_term_154 : decode prog_10_method_16_code 154 = .ok (.goto 4, 3) := by decide +kernel
theorem d_Mod_term_157 : decode prog_10_method_16_code 157 = .ok (.iconst 5, 1) := by decide +kernel
theorem d_Mod_term_158 : decode prog_10_method_16_code 158 = .ok (.iadd, 1) := by decide +kernel
theorem d_Mod_term_159 : decode prog_10_method_16_code 159 = .ok (.putfield 107, 3) := by decide +kernel
theorem d_Mod_term_162 : decode prog_10_method_16_code 162 = .ok (.aload_n 0, 1) := by decide +kernel
theorem d_Mod_term_163 : decode prog_10_method_16_code 163 = .ok (.getfield 128, 3) := by decide +kernel
theorem d_Mod_term_166 : decode prog_10_method_16_code 166 = .ok (.ifCond .ge 10, 3) := by decide +kernel
theorem d_Mod_term_169 : decode prog_10_method_16_code 169 = .ok (.aload_n 0, 1) := by decide +kernel
theorem d_Mod_term_170 : decode prog_10_method_16_code 170 = .ok (.invokevirtual 161, 3) := by decide +kernel
theorem d_Mod_term_173 : decode prog_10_method_16_code 173 = .ok (.goto 4, 3) := by decide +kernel
theorem d_Mod_term_176 : decode prog_10_method_16_code 176 = .ok (.iconst 0, 1) := by decide +kernel
theorem d_Mod_term_177 : decode prog_10_method_16_code 177 = .ok (.istore 5, 2) := by decide +kernel
theorem d_Mod_term_179 : decode prog_10_method_16_code 179 = .ok (.aload_n 0, 1) := by decide +kernel
theorem d_Mod_term_180 : decode prog_10_method_16_code 180 = .ok (.getfield 59, 3) := by decide +kernel
theorem d_Mod_term_183 : decode prog_10_method_16_code 183 = .ok (.iload 4, 2) := by decide +kernel
theorem d_Mod_term_185 : decode prog_10_method_16_code 185 = .ok (.iload 5, 2) := by decide +kernel
theorem d_Mod_term_187 : decode prog_10_method_16_code 187 = .ok (.iastore, 1) := by decide +kernel
theorem d_Mod_term_188 : decode prog_10_method_16_code 188 = .ok (.iload 4, 2) := by decide +kernel
theorem d_Mod_term_190 : decode prog_10_method_16_code 190 = .ok (.ireturn, 1) := by decide +kernel
def m_term (μ : MS) : Option (Int32 × MS) := (m_look μ).bind (fun p1 => (if p1.1 = (-1) then (m_isDigit p1.1).bind (fun p25 => (if p25 = 0 then (m_fail (p1.2.1 25) p1.2).bind (fun p127 => some (0, p127)) else (m_digits 7 (p1.2.1 25) p1.2).bind (fun p35 => (if 0 ≤ (p35.2.1 27) then (if inb 0 40 = true then some (0, (sA 21 ((0 : Int32).toNatClampNeg) p35.1 p35.2)) else none) else (m_node 11 (p1.2.1 25) p35.2).bind (fun p51 => (if inb p51.1 40 = true then some (p51.1, (sA 21 (p51.1.toNatClampNeg) p35.1 p51.2)) else none)))))) else (m_word p1.2).bind (fun p20 => (m_isDigit p1.1).bind (fun p25 => (if p25 = 0 then (if p20.1 = 1 then (m_field p20.2).bind (fun p78 => (if 0 ≤ (p78.2.1 27) then (if inb 0 40 = true then some (0, (sA 21 ((0 : Int32).toNatClampNeg) p78.1 p78.2)) else none) else (m_node 12 (p1.2.1 25) p78.2).bind (fun p94 => (if inb p94.1 40 = true then some (p94.1, (sA 21 (p94.1.toNatClampNeg) p78.1 p94.2)) else none)))) else (if p20.1 = 2 then (m_node (11 + p20.1) (p1.2.1 25) p20.2).bind (fun p138 => (if 0 ≤ (p138.2.1 27) then (if inb p138.1 40 = true then some (p138.1, (sA 21 (p138.1.toNatClampNeg) 0 (sI 25 ((p138.2.1 25) + 3) p138.2))) else none) else (m_field (sI 25 ((p138.2.1 25) + 3) p138.2)).bind (fun p170 => (if inb p138.1 40 = true then some (p138.1, (sA 21 (p138.1.toNatClampNeg) p170.1 p170.2)) else none)))) else (if p20.1 = 3 then (m_node (11 + p20.1) (p1.2.1 25) p20.2).bind (fun p138 => (if 0 ≤ (p138.2.1 27) then (if inb p138.1 40 = true then some (p138.1, (sA 21 (p138.1.toNatClampNeg) 0 (sI 25 ((p138.2.1 25) + 5) p138.2))) else none) else (m_field (sI 25 ((p138.2.1 25) + 5) p138.2)).bind (fun p170 => (if inb p138.1 40 = true then some (p138.1, (sA 21 (p138.1.toNatClampNeg) p170.1 p170.2)) else none)))) else (m_fail (p1.2.1 25) p20.2).bind (fun p127 => some (0, p127))))) else (m_digits 7 (p1.2.1 25) p20.2).bind (fun p35 => (if 0 ≤ (p35.2.1 27) then (if inb 0 40 = true then some (0, (sA 21 ((0 : Int32).toNatClampNeg) p35.1 p35.2)) else none) else (m_node 11 (p1.2.1 25) p35.2).bind (fun p51 => (if inb p51.1 40 = true then some (p51.1, (sA 21 (p51.1.toNatClampNeg) p35.1 p51.2)) else none)))))))))
set_option maxHeartbeats 4000000 in
set_option maxRecDepth 100000 in
theorem c_Mod_term {A : Nat → Nat} {f0 : Nat → va_E} {μ : MS} {res : (Int32 × MS)} (hM : zMf ck b0 N A f0 f μ) (h : m_term μ = some res) : zK l D ck ad b0 y_Mod_term prog_10_method_16_code 6 ((some FieldType.int)) 4 0 0 [.ref (A 38)] N f (fun r N' f' => r = some (.int res.1) ∧ N = N' ∧ zMf ck b0 N A f0 f' res.2) := by
  refine zM.of zG_w (by decide) (Nat.le_of_ble_eq_true rfl) ?_
  intro zp ze zst zm zar zbe zme zc X hnm hb0
  rw [m_term] at h
  refine z_aload_n X d_Mod_term_0 rfl ?_
  obtain ⟨p1, q1, h⟩ := bd h
  refine z_callV X zG_ok (c_Mod_look hM q1) d_Mod_term_1 ⟨(z_cb (n := 0) X.2.2.2.2.1 ml_Mod_147 mc_Mod_look ini_Mod (by decide +kernel) rfl rfl ⟨Nat.le_of_ble_eq_true rfl, Nat.le_of_ble_eq_true rfl⟩), X.2.2.2.2.1 _ im_Mod_look, X.2.2.2.2.1 _ sel_Mod_look⟩ (hM.lo 38 (by decide)) hM.ob cl_Mod rfl rfl (Nat.le_of_ble_eq_true rfl) ⟨Nat.le_of_ble_eq_true rfl, Nat.le_of_ble_eq_true rfl⟩ (fun r N1 f1 hp hN1 => ?_)
  obtain ⟨rfl, rfl, hM⟩ := hp
  refine z_istore_n X d_Mod_term_4 (by decide) rfl ?_
  refine z_aload_n X d_Mod_term_5 rfl ?_
  refine z_get X (v := .int (p1.2.1 25)) d_Mod_term_6 (hM.lo 38 (by decide)) hM.ob cl_Mod in_Mod 25 (by decide) fl_Mod_107 rfl rfl ?_
  refine z_istore_n X d_Mod_term_9 (by decide) rfl ?_
  refine z_iload_n X d_Mod_term_10 rfl ?_
  refine z_iconst X d_Mod_term_11 (v := -1) (by decide) ?_
  refine z_icmp_ne X 19 d_Mod_term_12 (by decide) (fun h12 => ?_) (fun h12 => ?_)
  · skip
    have h := (if_neg h12).symm.trans h
    refine z_aload_n X d_Mod_term_19 rfl ?_
    obtain ⟨p20, q20, h⟩ := bd h
    refine z_callV X zG_ok (c_Mod_word hM q20) d_Mod_term_20 ⟨(z_cb (n := 0) X.2.2.2.2.1 ml_Mod_151 mc_Mod_word ini_Mod (by decide +kernel) rfl rfl ⟨Nat.le_of_ble_eq_true rfl, Nat.le_of_ble_eq_true rfl⟩), X.2.2.2.2.1 _ im_Mod_word, X.2.2.2.2.1 _ sel_Mod_word⟩ (hM.lo 38 (by decide)) hM.ob cl_Mod rfl rfl (Nat.le_of_ble_eq_true rfl) ⟨Nat.le_of_ble_eq_true rfl, Nat.le_of_ble_eq_true rfl⟩ (fun r N1 f1 hp hN1 => ?_)
    obtain ⟨rfl, rfl, hM⟩ := hp
    refine z_istore_n X d_Mod_term_23 (by decide) rfl ?_
    refine z_iload_n X d_Mod_term_24 rfl ?_
    obtain ⟨p25, q25, h⟩ := bd h
    refine z_callS X zG_ok (c_Mod_isDigit q25) d_Mod_term_25 ⟨(z_cb (n := 1) X.2.2.2.2.1 ml_Mod_144 mc_Mod_isDigit ini_Mod (by decide +kernel) rfl rfl ⟨Nat.le_of_ble_eq_true rfl, Nat.le_of_ble_eq_true rfl⟩), X.2.2.2.2.1 _ st_Mod_isDigit⟩ rfl rfl (Nat.le_of_ble_eq_true rfl) ⟨Nat.le_of_ble_eq_true rfl, Nat.le_of_ble_eq_true rfl⟩ (fun r N1 f1 hp hN1 => ?_)
    obtain ⟨rfl, rfl, rfl⟩ := hp
    refine z_if_eq X 72 d_Mod_term_28 (by decide) (fun h28 => ?_) (fun h28 => ?_)
    · skip
      have h := (if_pos h28).symm.trans h
      refine z_iload_n X d_Mod_term_72 rfl ?_
      refine z_iconst X d_Mod_term_73 (v := 1) (by decide) ?_
      refine z_icmp_ne X 115 d_Mod_term_74 (by decide) (fun h74 => ?_) (fun h74 => ?_)
      · skip
        have h := (if_neg h74).symm.trans h
        refine z_iload_n X d_Mod_term_115 rfl ?_
        refine z_iconst X d_Mod_term_116 (v := 2) (by decide) ?_
        refine z_icmp_eq X 132 d_Mod_term_117 (by decide) (fun h117 => ?_) (fun h117 => ?_)
        · skip
          have h := (if_pos h117).symm.trans h
          refine z_aload_n X d_Mod_term_132 rfl ?_
          refine z_bipush X d_Mod_term_133 (v := 11) (by decide) ?_
          refine z_iload_n X d_Mod_term_135 rfl ?_
          refine z_iadd X d_Mod_term_136 ?_
          refine z_iload_n X d_Mod_term_137 rfl ?_
          obtain ⟨p138, q138, h⟩ := bd h
          refine z_callV X zG_ok (c_Mod_node hM q138) d_Mod_term_138 ⟨(z_cb (n := 2) X.2.2.2.2.1 ml_Mod_158 mc_Mod_node ini_Mod (by decide +kernel) rfl rfl ⟨Nat.le_of_ble_eq_true rfl, Nat.le_of_ble_eq_true rfl⟩), X.2.2.2.2.1 _ im_Mod_node, X.2.2.2.2.1 _ sel_Mod_node⟩ (hM.lo 38 (by decide)) hM.ob cl_Mod rfl rfl (Nat.le_of_ble_eq_true rfl) ⟨Nat.le_of_ble_eq_true rfl, Nat.le_of_ble_eq_true rfl⟩ (fun r N1 f1 hp hN1 => ?_)
          obtain ⟨rfl, rfl, hM⟩ := hp
          refine z_istore X d_Mod_term_141 (by decide) rfl ?_
          refine z_aload_n X d_Mod_term_143 rfl ?_
          refine z_dup X d_Mod_term_144 rfl ?_
          refine z_get X (v := .int (p138.2.1 25)) d_Mod_term_145 (hM.lo 38 (by decide)) hM.ob cl_Mod in_Mod 25 (by decide) fl_Mod_107 rfl rfl ?_
          refine z_iload_n X d_Mod_term_148 rfl ?_
          refine z_iconst X d_Mod_term_149 (v := 2) (by decide) ?_
          refine z_icmp_ne X 157 d_Mod_term_150 (by decide) (fun h150 => ?_) (fun h150 => ?_)
          · skip
            exact absurd h117 h150
          · skip
            refine z_iconst X d_Mod_term_153 (v := 3) (by decide) ?_
            refine z_goto X 158 d_Mod_term_154 (by decide) ?_
            refine z_iadd X d_Mod_term_158 ?_
            refine z_putM X t_Mod ty_Mod n_Mod d_Mod_term_159 hM cl_Mod in_Mod 25 (by decide) fl_Mod_107 rfl rfl rfl (by decide) rfl (fun hM => ?_)
            refine z_aload_n X d_Mod_term_162 rfl ?_
            refine z_get X (v := .int (p138.2.1 27)) d_Mod_term_163 (hM.lo 38 (by decide)) hM.ob cl_Mod in_Mod 27 (by decide) fl_Mod_128 rfl rfl ?_
            refine z_if_ge X 176 d_Mod_term_166 (by decide) (fun h166 => ?_) (fun h166 => ?_)
            · skip
              have h := (if_pos h166).symm.trans h
              refine z_iconst X d_Mod_term_176 (v := 0) (by decide) ?_
              refine z_istore X d_Mod_term_177 (by decide) rfl ?_
              refine z_aload_n X d_Mod_term_179 rfl ?_
              refine z_get X (v := .ref (A 21)) d_Mod_term_180 (hM.lo 38 (by decide)) hM.ob cl_Mod in_Mod 21 (by decide) fl_Mod_59 rfl rfl ?_
              refine z_iload X d_Mod_term_183 rfl ?_
              refine z_iload X d_Mod_term_185 rfl ?_
              obtain ⟨b187, h⟩ := gd h
              refine z_iastM X d_Mod_term_187 hM 21 40 rfl rfl (vp_of b187) (fun hM => ?_)
              refine z_iload X d_Mod_term_188 rfl ?_
              have e9 := Option.some.inj h
              subst e9
              exact z_iret X d_Mod_term_190 ⟨rfl, rfl, hM⟩
            · skip
              have h := (if_neg h166).symm.trans h
              refine z_aload_n X d_Mod_term_169 rfl ?_
              obtain ⟨p170, q170, h⟩ := bd h
              refine z_callV X zG_ok (c_Mod_field hM q170) d_Mod_term_170 ⟨(z_cb (n := 0) X.2.2.2.2.1 ml_Mod_161 mc_Mod_field ini_Mod (by decide +kernel) rfl rfl ⟨Nat.le_of_ble_eq_true rfl, Nat.le_of_ble_eq_true rfl⟩), X.2.2.2.2.1 _ im_Mod_field, X.2.2.2.2.1 _ sel_Mod_field⟩ (hM.lo 38 (by decide)) hM.ob cl_Mod rfl rfl (Nat.le_of_ble_eq_true rfl) ⟨Nat.le_of_ble_eq_true rfl, Nat.le_of_ble_eq_true rfl⟩ (fun r N1 f1 hp hN1 => ?_)
              obtain ⟨rfl, rfl, hM⟩ := hp
              refine z_goto X 177 d_Mod_term_173 (by decide) ?_
              refine z_istore X d_Mod_term_177 (by decide) rfl ?_
              refine z_aload_n X d_Mod_term_179 rfl ?_
              refine z_get X (v := .ref (A 21)) d_Mod_term_180 (hM.lo 38 (by decide)) hM.ob cl_Mod in_Mod 21 (by decide) fl_Mod_59 rfl rfl ?_
              refine z_iload X d_Mod_term_183 rfl ?_
              refine z_iload X d_Mod_term_185 rfl ?_
              obtain ⟨b187, h⟩ := gd h
              refine z_iastM X d_Mod_term_187 hM 21 40 rfl rfl (vp_of b187) (fun hM => ?_)
              refine z_iload X d_Mod_term_188 rfl ?_
              have e9 := Option.some.inj h
              subst e9
              exact z_iret X d_Mod_term_190 ⟨rfl, rfl, hM⟩
        · skip
          have h := (if_neg h117).symm.trans h
          refine z_iload_n X d_Mod_term_120 rfl ?_
          refine z_iconst X d_Mod_term_121 (v := 3) (by decide) ?_
          refine z_icmp_eq X 132 d_Mod_term_122 (by decide) (fun h122 => ?_) (fun h122 => ?_)
          · skip
            have h := (if_pos h122).symm.trans h
            refine z_aload_n X d_Mod_term_132 rfl ?_
            refine z_bipush X d_Mod_term_133 (v := 11) (by decide) ?_
            refine z_iload_n X d_Mod_term_135 rfl ?_
            refine z_iadd X d_Mod_term_136 ?_
            refine z_iload_n X d_Mod_term_137 rfl ?_
            obtain ⟨p138, q138, h⟩ := bd h
            refine z_callV X zG_ok (c_Mod_node hM q138) d_Mod_term_138 ⟨(z_cb (n := 2) X.2.2.2.2.1 ml_Mod_158 mc_Mod_node ini_Mod (by decide +kernel) rfl rfl ⟨Nat.le_of_ble_eq_true rfl, Nat.le_of_ble_eq_true rfl⟩), X.2.2.2.2.1 _ im_Mod_node, X.2.2.2.2.1 _ sel_Mod_node⟩ (hM.lo 38 (by decide)) hM.ob cl_Mod rfl rfl (Nat.le_of_ble_eq_true rfl) ⟨Nat.le_of_ble_eq_true rfl, Nat.le_of_ble_eq_true rfl⟩ (fun r N1 f1 hp hN1 => ?_)
            obtain ⟨rfl, rfl, hM⟩ := hp
            refine z_istore X d_Mod_term_141 (by decide) rfl ?_
            refine z_aload_n X d_Mod_term_143 rfl ?_
            refine z_dup X d_Mod_term_144 rfl ?_
            refine z_get X (v := .int (p138.2.1 25)) d_Mod_term_145 (hM.lo 38 (by decide)) hM.ob cl_Mod in_Mod 25 (by decide) fl_Mod_107 rfl rfl ?_
            refine z_iload_n X d_Mod_term_148 rfl ?_
            refine z_iconst X d_Mod_term_149 (v := 2) (by decide) ?_
            refine z_icmp_ne X 157 d_Mod_term_150 (by decide) (fun h150 => ?_) (fun h150 => ?_)
            · skip
              refine z_iconst X d_Mod_term_157 (v := 5) (by decide) ?_
              refine z_iadd X d_Mod_term_158 ?_
              refine z_putM X t_Mod ty_Mod n_Mod d_Mod_term_159 hM cl_Mod in_Mod 25 (by decide) fl_Mod_107 rfl rfl rfl (by decide) rfl (fun hM => ?_)
              refine z_aload_n X d_Mod_term_162 rfl ?_
              refine z_get X (v := .int (p138.2.1 27)) d_Mod_term_163 (hM.lo 38 (by decide)) hM.ob cl_Mod in_Mod 27 (by decide) fl_Mod_128 rfl rfl ?_
              refine z_if_ge X 176 d_Mod_term_166 (by decide) (fun h166 => ?_) (fun h166 => ?_)
              · skip
                have h := (if_pos h166).symm.trans h
                refine z_iconst X d_Mod_term_176 (v := 0) (by decide) ?_
                refine z_istore X d_Mod_term_177 (by decide) rfl ?_
                refine z_aload_n X d_Mod_term_179 rfl ?_
                refine z_get X (v := .ref (A 21)) d_Mod_term_180 (hM.lo 38 (by decide)) hM.ob cl_Mod in_Mod 21 (by decide) fl_Mod_59 rfl rfl ?_
                refine z_iload X d_Mod_term_183 rfl ?_
                refine z_iload X d_Mod_term_185 rfl ?_
                obtain ⟨b187, h⟩ := gd h
                refine z_iastM X d_Mod_term_187 hM 21 40 rfl rfl (vp_of b187) (fun hM => ?_)
                refine z_iload X d_Mod_term_188 rfl ?_
                have e9 := Option.some.inj h
                subst e9
                exact z_iret X d_Mod_term_190 ⟨rfl, rfl, hM⟩
              · skip
                have h := (if_neg h166).symm.trans h
                refine z_aload_n X d_Mod_term_169 rfl ?_
                obtain ⟨p170, q170, h⟩ := bd h
                refine z_callV X zG_ok (c_Mod_field hM q170) d_Mod_term_170 ⟨(z_cb (n := 0) X.2.2.2.2.1 ml_Mod_161 mc_Mod_field ini_Mod (by decide +kernel) rfl rfl ⟨Nat.le_of_ble_eq_true rfl, Nat.le_of_ble_eq_true rfl⟩), X.2.2.2.2.1 _ im_Mod_field, X.2.2.2.2.1 _ sel_Mod_field⟩ (hM.lo 38 (by decide)) hM.ob cl_Mod rfl rfl (Nat.le_of_ble_eq_true rfl) ⟨Nat.le_of_ble_eq_true rfl, Nat.le_of_ble_eq_true rfl⟩ (fun r N1 f1 hp hN1 => ?_)
                obtain ⟨rfl, rfl, hM⟩ := hp
                refine z_goto X 177 d_Mod_term_173 (by decide) ?_
                refine z_istore X d_Mod_term_177 (by decide) rfl ?_
                refine z_aload_n X d_Mod_term_179 rfl ?_
                refine z_get X (v := .ref (A 21)) d_Mod_term_180 (hM.lo 38 (by decide)) hM.ob cl_Mod in_Mod 21 (by decide) fl_Mod_59 rfl rfl ?_
                refine z_iload X d_Mod_term_183 rfl ?_
                refine z_iload X d_Mod_term_185 rfl ?_
                obtain ⟨b187, h⟩ := gd h
                refine z_iastM X d_Mod_term_187 hM 21 40 rfl rfl (vp_of b187) (fun hM => ?_)
                refine z_iload X d_Mod_term_188 rfl ?_
                have e9 := Option.some.inj h
                subst e9
                exact z_iret X d_Mod_term_190 ⟨rfl, rfl, hM⟩
            · skip
              exact absurd h150 h117
          · skip
            have h := (if_neg h122).symm.trans h
            refine z_aload_n X d_Mod_term_125 rfl ?_
            refine z_iload_n X d_Mod_term_126 rfl ?_
            obtain ⟨p127, q127, h⟩ := bd h
            refine z_callV X zG_ok (c_Mod_fail hM q127) d_Mod_term_127 ⟨(z_cb (n := 1) X.2.2.2.2.1 ml_Mod_134 mc_Mod_fail ini_Mod (by decide +kernel) rfl rfl ⟨Nat.le_of_ble_eq_true rfl, Nat.le_of_ble_eq_true rfl⟩), X.2.2.2.2.1 _ im_Mod_fail, X.2.2.2.2.1 _ sel_Mod_fail⟩ (hM.lo 38 (by decide)) hM.ob cl_Mod rfl rfl (Nat.le_of_ble_eq_true rfl) ⟨Nat.le_of_ble_eq_true rfl, Nat.le_of_ble_eq_true rfl⟩ (fun r N1 f1 hp hN1 => ?_)
            obtain ⟨rfl, rfl, hM⟩ := hp
            refine z_iconst X d_Mod_term_130 (v := 0) (by decide) ?_
            have e9 := Option.some.inj h
            subst e9
            exact z_iret X d_Mod_term_131 ⟨rfl, rfl, hM⟩
      · skip
        have h := (if_pos h74).symm.trans h
        refine z_aload_n X d_Mod_term_77 rfl ?_
        obtain ⟨p78, q78, h⟩ := bd h
        refine z_callV X zG_ok (c_Mod_field hM q78) d_Mod_term_78 ⟨(z_cb (n := 0) X.2.2.2.2.1 ml_Mod_161 mc_Mod_field ini_Mod (by decide +kernel) rfl rfl ⟨Nat.le_of_ble_eq_true rfl, Nat.le_of_ble_eq_true rfl⟩), X.2.2.2.2.1 _ im_Mod_field, X.2.2.2.2.1 _ sel_Mod_field⟩ (hM.lo 38 (by decide)) hM.ob cl_Mod rfl rfl (Nat.le_of_ble_eq_true rfl) ⟨Nat.le_of_ble_eq_true rfl, Nat.le_of_ble_eq_true rfl⟩ (fun r N1 f1 hp hN1 => ?_)
        obtain ⟨rfl, rfl, hM⟩ := hp
        refine z_istore X d_Mod_term_81 (by decide) rfl ?_
        refine z_aload_n X d_Mod_term_83 rfl ?_
        refine z_get X (v := .int (p78.2.1 27)) d_Mod_term_84 (hM.lo 38 (by decide)) hM.ob cl_Mod in_Mod 27 (by decide) fl_Mod_128 rfl rfl ?_
        refine z_if_ge X 100 d_Mod_term_87 (by decide) (fun h87 => ?_) (fun h87 => ?_)
        · skip
          have h := (if_pos h87).symm.trans h
          refine z_iconst X d_Mod_term_100 (v := 0) (by decide) ?_
          refine z_istore X d_Mod_term_101 (by decide) rfl ?_
          refine z_aload_n X d_Mod_term_103 rfl ?_
          refine z_get X (v := .ref (A 21)) d_Mod_term_104 (hM.lo 38 (by decide)) hM.ob cl_Mod in_Mod 21 (by decide) fl_Mod_59 rfl rfl ?_
          refine z_iload X d_Mod_term_107 rfl ?_
          refine z_iload X d_Mod_term_109 rfl ?_
          obtain ⟨b111, h⟩ := gd h
          refine z_iastM X d_Mod_term_111 hM 21 40 rfl rfl (vp_of b111) (fun hM => ?_)
          refine z_iload X d_Mod_term_112 rfl ?_
          have e9 := Option.some.inj h
          subst e9
          exact z_iret X d_Mod_term_114 ⟨rfl, rfl, hM⟩
        · skip
          have h := (if_neg h87).symm.trans h
          refine z_aload_n X d_Mod_term_90 rfl ?_
          refine z_bipush X d_Mod_term_91 (v := 12) (by decide) ?_
          refine z_iload_n X d_Mod_term_93 rfl ?_
          obtain ⟨p94, q94, h⟩ := bd h
          refine z_callV X zG_ok (c_Mod_node hM q94) d_Mod_term_94 ⟨(z_cb (n := 2) X.2.2.2.2.1 ml_Mod_158 mc_Mod_node ini_Mod (by decide +kernel) rfl rfl ⟨Nat.le_of_ble_eq_true rfl, Nat.le_of_ble_eq_true rfl⟩), X.2.2.2.2.1 _ im_Mod_node, X.2.2.2.2.1 _ sel_Mod_node⟩ (hM.lo 38 (by decide)) hM.ob cl_Mod rfl rfl (Nat.le_of_ble_eq_true rfl) ⟨Nat.le_of_ble_eq_true rfl, Nat.le_of_ble_eq_true rfl⟩ (fun r N1 f1 hp hN1 => ?_)
          obtain ⟨rfl, rfl, hM⟩ := hp
          refine z_goto X 101 d_Mod_term_97 (by decide) ?_
          refine z_istore X d_Mod_term_101 (by decide) rfl ?_
          refine z_aload_n X d_Mod_term_103 rfl ?_
          refine z_get X (v := .ref (A 21)) d_Mod_term_104 (hM.lo 38 (by decide)) hM.ob cl_Mod in_Mod 21 (by decide) fl_Mod_59 rfl rfl ?_
          refine z_iload X d_Mod_term_107 rfl ?_
          refine z_iload X d_Mod_term_109 rfl ?_
          obtain ⟨b111, h⟩ := gd h
          refine z_iastM X d_Mod_term_111 hM 21 40 rfl rfl (vp_of b111) (fun hM => ?_)
          refine z_iload X d_Mod_term_112 rfl ?_
          have e9 := Option.some.inj h
          subst e9
          exact z_iret X d_Mod_term_114 ⟨rfl, rfl, hM⟩
    · skip
      have h := (if_neg h28).symm.trans h
      refine z_aload_n X d_Mod_term_31 rfl ?_
      refine z_bipush X d_Mod_term_32 (v := 7) (by decide) ?_
      refine z_iload_n X d_Mod_term_34 rfl ?_
      obtain ⟨p35, q35, h⟩ := bd h
      refine z_callV X zG_ok (c_Mod_digits hM q35) d_Mod_term_35 ⟨(z_cb (n := 2) X.2.2.2.2.1 ml_Mod_154 mc_Mod_digits ini_Mod (by decide +kernel) rfl rfl ⟨Nat.le_of_ble_eq_true rfl, Nat.le_of_ble_eq_true rfl⟩), X.2.2.2.2.1 _ im_Mod_digits, X.2.2.2.2.1 _ sel_Mod_digits⟩ (hM.lo 38 (by decide)) hM.ob cl_Mod rfl rfl (Nat.le_of_ble_eq_true rfl) ⟨Nat.le_of_ble_eq_true rfl, Nat.le_of_ble_eq_true rfl⟩ (fun r N1 f1 hp hN1 => ?_)
      obtain ⟨rfl, rfl, hM⟩ := hp
      refine z_istore X d_Mod_term_38 (by decide) rfl ?_
      refine z_aload_n X d_Mod_term_40 rfl ?_
      refine z_get X (v := .int (p35.2.1 27)) d_Mod_term_41 (hM.lo 38 (by decide)) hM.ob cl_Mod in_Mod 27 (by decide) fl_Mod_128 rfl rfl ?_
      refine z_if_ge X 57 d_Mod_term_44 (by decide) (fun h44 => ?_) (fun h44 => ?_)
      · skip
        have h := (if_pos h44).symm.trans h
        refine z_iconst X d_Mod_term_57 (v := 0) (by decide) ?_
        refine z_istore X d_Mod_term_58 (by decide) rfl ?_
        refine z_aload_n X d_Mod_term_60 rfl ?_
        refine z_get X (v := .ref (A 21)) d_Mod_term_61 (hM.lo 38 (by decide)) hM.ob cl_Mod in_Mod 21 (by decide) fl_Mod_59 rfl rfl ?_
        refine z_iload X d_Mod_term_64 rfl ?_
        refine z_iload X d_Mod_term_66 rfl ?_
        obtain ⟨b68, h⟩ := gd h
        refine z_iastM X d_Mod_term_68 hM 21 40 rfl rfl (vp_of b68) (fun hM => ?_)
        refine z_iload X d_Mod_term_69 rfl ?_
        have e9 := Option.some.inj h
        subst e9
        exact z_iret X d_Mod_term_71 ⟨rfl, rfl, hM⟩
      · skip
        have h := (if_neg h44).symm.trans h
        refine z_aload_n X d_Mod_term_47 rfl ?_
        refine z_bipush X d_Mod_term_48 (v := 11) (by decide) ?_
        refine z_iload_n X d_Mod_term_50 rfl ?_
        obtain ⟨p51, q51, h⟩ := bd h
        refine z_callV X zG_ok (c_Mod_node hM q51) d_Mod_term_51 ⟨(z_cb (n := 2) X.2.2.2.2.1 ml_Mod_158 mc_Mod_node ini_Mod (by decide +kernel) rfl rfl ⟨Nat.le_of_ble_eq_true rfl, Nat.le_of_ble_eq_true rfl⟩), X.2.2.2.2.1 _ im_Mod_node, X.2.2.2.2.1 _ sel_Mod_node⟩ (hM.lo 38 (by decide)) hM.ob cl_Mod rfl rfl (Nat.le_of_ble_eq_true rfl) ⟨Nat.le_of_ble_eq_true rfl, Nat.le_of_ble_eq_true rfl⟩ (fun r N1 f1 hp hN1 => ?_)
        obtain ⟨rfl, rfl, hM⟩ := hp
        refine z_goto X 58 d_Mod_term_54 (by decide) ?_
        refine z_istore X d_Mod_term_58 (by decide) rfl ?_
        refine z_aload_n X d_Mod_term_60 rfl ?_
        refine z_get X (v := .ref (A 21)) d_Mod_term_61 (hM.lo 38 (by decide)) hM.ob cl_Mod in_Mod 21 (by decide) fl_Mod_59 rfl rfl ?_
        refine z_iload X d_Mod_term_64 rfl ?_
        refine z_iload X d_Mod_term_66 rfl ?_
        obtain ⟨b68, h⟩ := gd h
        refine z_iastM X d_Mod_term_68 hM 21 40 rfl rfl (vp_of b68) (fun hM => ?_)
        refine z_iload X d_Mod_term_69 rfl ?_
        have e9 := Option.some.inj h
        subst e9
        exact z_iret X d_Mod_term_71 ⟨rfl, rfl, hM⟩
  · skip
    have h := (if_pos h12).symm.trans h
    refine z_iconst X d_Mod_term_15 (v := 0) (by decide) ?_
    refine z_goto X 23 d_Mod_term_16 (by decide) ?_
    refine z_istore_n X d_Mod_term_23 (by decide) rfl ?_
    refine z_iload_n X d_Mod_term_24 rfl ?_
    obtain ⟨p25, q25, h⟩ := bd h
    refine z_callS X zG_ok (c_Mod_isDigit q25) d_Mod_term_25 ⟨(z_cb (n := 1) X.2.2.2.2.1 ml_Mod_144 mc_Mod_isDigit ini_Mod (by decide +kernel) rfl rfl ⟨Nat.le_of_ble_eq_true rfl, Nat.le_of_ble_eq_true rfl⟩), X.2.2.2.2.1 _ st_Mod_isDigit⟩ rfl rfl (Nat.le_of_ble_eq_true rfl) ⟨Nat.le_of_ble_eq_true rfl, Nat.le_of_ble_eq_true rfl⟩ (fun r N1 f1 hp hN1 => ?_)
    obtain ⟨rfl, rfl, rfl⟩ := hp
    refine z_if_eq X 72 d_Mod_term_28 (by decide) (fun h28 => ?_) (fun h28 => ?_)
    · skip
      have h := (if_pos h28).symm.trans h
      refine z_iload_n X d_Mod_term_72 rfl ?_
      refine z_iconst X d_Mod_term_73 (v := 1) (by decide) ?_
      refine z_icmp_ne X 115 d_Mod_term_74 (by decide) (fun h74 => ?_) (fun h74 => ?_)
      · skip
        refine z_iload_n X d_Mod_term_115 rfl ?_
        refine z_iconst X d_Mod_term_116 (v := 2) (by decide) ?_
        refine z_icmp_eq X 132 d_Mod_term_117 (by decide) (fun h117 => ?_) (fun h117 => ?_)
        · skip
          exact absurd h117 (by decide)
        · skip
          refine z_iload_n X d_Mod_term_120 rfl ?_
          refine z_iconst X d_Mod_term_121 (v := 3) (by decide) ?_
          refine z_icmp_eq X 132 d_Mod_term_122 (by decide) (fun h122 => ?_) (fun h122 => ?_)
          · skip
            exact absurd h122 (by decide)
          · skip
            refine z_aload_n X d_Mod_term_125 rfl ?_
            refine z_iload_n X d_Mod_term_126 rfl ?_
            obtain ⟨p127, q127, h⟩ := bd h
            refine z_callV X zG_ok (c_Mod_fail hM q127) d_Mod_term_127 ⟨(z_cb (n := 1) X.2.2.2.2.1 ml_Mod_134 mc_Mod_fail ini_Mod (by decide +kernel) rfl rfl ⟨Nat.le_of_ble_eq_true rfl, Nat.le_of_ble_eq_true rfl⟩), X.2.2.2.2.1 _ im_Mod_fail, X.2.2.2.2.1 _ sel_Mod_fail⟩ (hM.lo 38 (by decide)) hM.ob cl_Mod rfl rfl (Nat.le_of_ble_eq_true rfl) ⟨Nat.le_of_ble_eq_true rfl, Nat.le_of_ble_eq_true rfl⟩ (fun r N1 f1 hp hN1 => ?_)
            obtain ⟨rfl, rfl, hM⟩ := hp
            refine z_iconst X d_Mod_term_130 (v := 0) (by decide) ?_
            have e9 := Option.some.inj h
            subst e9
            exact z_iret X d_Mod_term_131 ⟨rfl, rfl, hM⟩
      · skip
        exact absurd h74 (by decide)
    · skip
      have h := (if_neg h28).symm.trans h
      refine z_aload_n X d_Mod_term_31 rfl ?_
      refine z_bipush X d_Mod_term_32 (v := 7) (by decide) ?_
      refine z_iload_n X d_Mod_term_34 rfl ?_
      obtain ⟨p35, q35, h⟩ := bd h
      refine z_callV X zG_ok (c_Mod_digits hM q35) d_Mod_term_35 ⟨(z_cb (n := 2) X.2.2.2.2.1 ml_Mod_154 mc_Mod_digits ini_Mod (by decide +kernel) rfl rfl ⟨Nat.le_of_ble_eq_true rfl, Nat.le_of_ble_eq_true rfl⟩), X.2.2.2.2.1 _ im_Mod_digits, X.2.2.2.2.1 _ sel_Mod_digits⟩ (hM.lo 38 (by decide)) hM.ob cl_Mod rfl rfl (Nat.le_of_ble_eq_true rfl) ⟨Nat.le_of_ble_eq_true rfl, Nat.le_of_ble_eq_true rfl⟩ (fun r N1 f1 hp hN1 => ?_)
      obtain ⟨rfl, rfl, hM⟩ := hp
      refine z_istore X d_Mod_term_38 (by decide) rfl ?_
      refine z_aload_n X d_Mod_term_40 rfl ?_
      refine z_get X (v := .int (p35.2.1 27)) d_Mod_term_41 (hM.lo 38 (by decide)) hM.ob cl_Mod in_Mod 27 (by decide) fl_Mod_128 rfl rfl ?_
      refine z_if_ge X 57 d_Mod_term_44 (by decide) (fun h44 => ?_) (fun h44 => ?_)
      · skip
        have h := (if_pos h44).symm.trans h
        refine z_iconst X d_Mod_term_57 (v := 0) (by decide) ?_
        refine z_istore X d_Mod_term_58 (by decide) rfl ?_
        refine z_aload_n X d_Mod_term_60 rfl ?_
        refine z_get X (v := .ref (A 21)) d_Mod_term_61 (hM.lo 38 (by decide)) hM.ob cl_Mod in_Mod 21 (by decide) fl_Mod_59 rfl rfl ?_
        refine z_iload X d_Mod_term_64 rfl ?_
        refine z_iload X d_Mod_term_66 rfl ?_
        obtain ⟨b68, h⟩ := gd h
        refine z_iastM X d_Mod_term_68 hM 21 40 rfl rfl (vp_of b68) (fun hM => ?_)
        refine z_iload X d_Mod_term_69 rfl ?_
        have e9 := Option.some.inj h
        subst e9
        exact z_iret X d_Mod_term_71 ⟨rfl, rfl, hM⟩
      · skip
        have h := (if_neg h44).symm.trans h
        refine z_aload_n X d_Mod_term_47 rfl ?_
        refine z_bipush X d_Mod_term_48 (v := 11) (by decide) ?_
        refine z_iload_n X d_Mod_term_50 rfl ?_
        obtain ⟨p51, q51, h⟩ := bd h
        refine z_callV X zG_ok (c_Mod_node hM q51) d_Mod_term_51 ⟨(z_cb (n := 2) X.2.2.2.2.1 ml_Mod_158 mc_Mod_node ini_Mod (by decide +kernel) rfl rfl ⟨Nat.le_of_ble_eq_true rfl, Nat.le_of_ble_eq_true rfl⟩), X.2.2.2.2.1 _ im_Mod_node, X.2.2.2.2.1 _ sel_Mod_node⟩ (hM.lo 38 (by decide)) hM.ob cl_Mod rfl rfl (Nat.le_of_ble_eq_true rfl) ⟨Nat.le_of_ble_eq_true rfl, Nat.le_of_ble_eq_true rfl⟩ (fun r N1 f1 hp hN1 => ?_)
        obtain ⟨rfl, rfl, hM⟩ := hp
        refine z_goto X 58 d_Mod_term_54 (by decide) ?_
        refine z_istore X d_Mod_term_58 (by decide) rfl ?_
        refine z_aload_n X d_Mod_term_60 rfl ?_
        refine z_get X (v := .ref (A 21)) d_Mod_term_61 (hM.lo 38 (by decide)) hM.ob cl_Mod in_Mod 21 (by decide) fl_Mod_59 rfl rfl ?_
        refine z_iload X d_Mod_term_64 rfl ?_
        refine z_iload X d_Mod_term_66 rfl ?_
        obtain ⟨b68, h⟩ := gd h
        refine z_iastM X d_Mod_term_68 hM 21 40 rfl rfl (vp_of b68) (fun hM => ?_)
        refine z_iload X d_Mod_term_69 rfl ?_
        have e9 := Option.some.inj h
        subst e9
        exact z_iret X d_Mod_term_71 ⟨rfl, rfl, hM⟩
theorem d_Mod_sum_0 : decode prog_10_method_17_code 0 = .ok (.aload_n 0, 1) := by decide +kernel
theorem d_Mod_sum_1 : decode prog_10_method_17_code 1 = .ok (.invokevirtual 164, 3) := by decide +kernel
theorem d_Mod_sum_4 : decode prog_10_method_17_code 4 = .ok (.istore_n 1, 1) := by decide +kernel
theorem d_Mod_sum_5 : decode prog_10_method_17_code 5 = .ok (.aload_n 0, 1) := by decide +kernel
theorem d_Mod_sum_6 : decode prog_10_method_17_code 6 = .ok (.getfield 128, 3) := by decide +kernel
theorem d_Mod_sum_9 : decode prog_10_method_17_code 9 = .ok (.ifCond .ge 103, 3) := by decide +kernel
theorem d_Mod_sum_12 : decode prog_10_method_17_code 12 = .ok (.aload_n 0, 1) := by decide +kernel
theorem d_Mod_sum_13 : decode prog_10_method_17_code 13 = .ok (.invokevirtual 147, 3) := by decide +kernel
theorem d_Mod_sum_16 : decode prog_10_method_17_code 16 = .ok (.bipush 43, 2) := by decide +kernel
theorem d_Mod_sum_18 : decode prog_10_method_17_code 18 = .ok (.if_icmp .eq 12, 3) := by decide +kernel
theorem d_Mod_sum_21 : decode prog_10_method_17_code 21 = .ok (.aload_n 0, 1) := by decide +kernel
theorem d_Mod_sum_22 : decode prog_10_method_17_code 22 = .ok (.invokevirtual 147, 3) := by decide +kernel
theorem d_Mod_sum_25 : decode prog_10_method_17_code 25 = .ok (.bipush 45, 2) := by decide +kernel
theorem d_Mod_sum_27 : decode prog_10_method_17_code 27 = .ok (.if_icmp .ne 85, 3) := by decide +kernel
theorem d_Mod_sum_30 : decode prog_10_method_17_code 30 = .ok (.aload_n 0, 1) := by decide +kernel
theorem d_Mod_sum_31 : decode prog_10_method_17_code 31 = .ok (.aload_n 0, 1) := by decide +kernel
theorem d_Mod_sum_32 : decode prog_10_method_17_code 32 = .ok (.getfield 7, 3) := by decide +kernel
theorem d_Mod_sum_35 : decode prog_10_method_17_code 35 = .ok (.aload_n 0, 1) := by decide +kernel
theorem d_Mod_sum_36 : decode prog_10_method_17_code 36 = .ok (.getfield 107, 3) := by decide +kernel
theorem d_Mod_sum_39 : decode prog_10_method_17_code 39 = .ok (.iaload, 1) := by decide +kernel
theorem d_Mod_sum_40 : decode prog_10_method_17_code 40 = .ok (.bipush 43, 2) := by decide +kernel
theorem d_Mod_sum_42 : decode prog_10_method_17_code 42 = .ok (.if_icmp .ne 8, 3) := by decide +kernel
theorem d_Mod_sum_45 : decode prog_10_method_17_code 45 = .ok (.bipush 9, 2) := by decide +kernel
theorem d_Mod_sum_47 : decode prog_10_method_17_code 47 = .ok (.goto 5, 3) := by decide +kernel
theorem d_Mod_sum_50 : decode prog_10_method_17_code 50 = .ok (.bipush 10, 2) := by decide +kernel
theorem d_Mod_sum_52 : decode prog_10_method_17_code 52 = .ok (.aload_n 0, 1) := by decide +kernel
theorem d_Mod_sum_53 : decode prog_10_method_17_code 53 = .ok (.getfield 107, 3) := by decide +kernel
theorem d_Mod_sum_56 : decode prog_10_method_17_code 56 = .ok (.invokevirtual 158, 3) := by decide +kernel
theorem d_Mod_sum_59 : decode prog_10_method_17_code 59 = .ok (.istore_n 2, 1) := by decide +kernel
theorem d_Mod_sum_60 : decode prog_10_method_17_code 60 = .ok (.aload_n 0, 1) := by decide +kernel
theorem d_Mod_sum_61 : decode prog_10_method_17_code 61 = .ok (.dup, 1) := by decide +kernel
theorem d_Mod_sum_62 : decode prog_10_method_17_code 62 = .ok (.getfield 107, 3) := by decide +kernel
theorem d_Mod_sum_65 : decode prog_10_method_17_code 65 = .ok (.iconst 1, 1) := by decide +kernel
theorem d_Mod_sum_66 : decode prog_10_method_17_code 66 = .ok (.iadd, 1) := by decide +kernel
theorem d_Mod_sum_67 : decode prog_10_method_17_code 67 = .ok (.putfield 107, 3) := by decide +kernel
theorem d_Mod_sum_70 : decode prog_10_method_17_code 70 = .ok (.aload_n 0, 1) := by decide +kernel
theorem d_Mod_sum_71 : decode prog_10_method_17_code 71 = .ok (.getfield 128, 3) := by decide +kernel
theorem d_Mod_sum_74 : decode prog_10_method_17_code 74 = .ok (.ifCond .ge 10, 3) := by decide +kernel
theorem d_Mod_sum_77 : decode prog_10_method_17_code 77 = .ok (.aload_n 0, 1) := by decide +kernel
theorem d_Mod_sum_78 : decode prog_10_method_17_code 78 = .ok (.invokevirtual 164, 3) := by decide +kernel
theorem d_Mod_sum_81 : decode prog_10_method_17_code 81 = .ok (.goto 4, 3) := by decide +kernel
theorem d_Mod_sum_84 : decode prog_10_method_17_code 84 = .ok (.iconst 0, 1) := by decide +kernel
theorem d_Mod_sum_85 : decode prog_10_method_17_code 85 = .ok (.istore_n 3, 1) := by decide +kernel
theorem d_Mod_sum_86 : decode prog_10_method_17_code 86 = .ok (.aload_n 0, 1) := by decide +kernel
theorem d_Mod_sum_87 : decode prog_10_method_17_code 87 = .ok (.getfield 128, 3) := by decide +kernel
theorem d_Mod_sum_90 : decode prog_10_method_17_code 90 = .ok (.ifCond .ge 17, 3) := by decide +kernel
theorem d_Mod_sum_93 : decode prog_10_method_17_code 93 = .ok (.aload_n 0, 1) := by decide +kernel
theorem d_Mod_sum_94 : decode prog_10_method_17_code 94 = .ok (.getfield 62, 3) := by decide +kernel
theorem d_Mod_sum_97 : decode prog_10_method_17_code 97 = .ok (.iload_n 2, 1) := by decide +kernel
theorem d_Mod_sum_98 : decode prog_10_method_17_code 98 = .ok (.iload_n 1, 1) := by decide +kernel
theorem d_Mod_sum_99 : decode prog_10_method_17_code 99 = .ok (.iastore, 1) := by decide +kernel
theorem d_Mod_sum_100 : decode prog_10_method_17_code 100 = .ok (.aload_n 0, 1) := by decide +kernel
theorem d_Mod_sum_101 : decode prog_10_method_17_code 101 = .ok (.getfield 65, 3) := by decide +kernel
theorem d_Mod_sum_104 : decode prog_10_method_17_code 104 = .ok (.iload_n 2, 1) := by decide +kernel
theorem d_Mod_sum_105 : decode prog_10_method_17_code 105 = .ok (.iload_n 3, 1) := by decide +kernel
theorem d_Mod_sum_106 : decode prog_10_method_17_code 106 = .ok (.iastore, 1) := by decide +kernel
theorem d_Mod_sum_107 : decode prog_10_method_17_code 107 = .ok (.iload_n 2, 1) := by decide +kernel
theorem d_Mod_sum_108 : decode prog_10_method_17_code 108 = .ok (.istore_n 1, 1) := by decide +kernel
theorem d_Mod_sum_109 : decode prog_10_method_17_code 109 = .ok (.goto (-104), 3) := by decide +kernel
theorem d_Mod_sum_112 : decode prog_10_method_17_code 112 = .ok (.iload_n 1, 1) := by decide +kernel
theorem d_Mod_sum_113 : decode prog_10_method_17_code 113 = .ok (.ireturn, 1) := by decide +kernel
def m_sum_B : Nat → Nat → Int32 → Int32 → Int32 → MS → Option (Int32 × MS)
  | 0, _, _, _, _, _ => none
  | n + 1, b, x1, x2, y0, μ => if b = 0 then (if 0 ≤ (μ.1 27) then m_sum_B n 5 x1 0 0 μ else (m_look μ).bind (fun p13 => (if p13.1 = 43 then m_sum_B n 1 x1 0 0 p13.2 else (m_look p13.2).bind (fun p22 => (if p22.1 = 45 then m_sum_B n 1 x1 0 0 p22.2 else m_sum_B n 5 x1 0 0 p22.2)))))
    else if b = 1 then (if inb (μ.1 25) 200 = true then (if ((μ.2.1 1) (μ.1 25).toNatClampNeg) = 43 then m_sum_B n 2 x1 0 9 μ else m_sum_B n 2 x1 0 10 μ) else none)
    else if b = 2 then (m_node y0 (μ.1 25) μ).bind (fun p56 => (if 0 ≤ (p56.2.1 27) then m_sum_B n 3 x1 p56.1 0 (sI 25 ((p56.2.1 25) + 1) p56.2) else (m_term (sI 25 ((p56.2.1 25) + 1) p56.2)).bind (fun p78 => m_sum_B n 3 x1 p56.1 p78.1 p78.2)))
    else if b = 3 then (if 0 ≤ (μ.1 27) then m_sum_B n 4 0 x2 0 μ else (if inb x2 40 = true then m_sum_B n 4 0 x2 0 (sA 23 (x2.toNatClampNeg) y0 (sA 22 (x2.toNatClampNeg) x1 μ)) else none))
    else if b = 4 then m_sum_B n 0 x2 0 0 μ
    else some (x1, μ)
theorem m_sum_b0 (n : Nat) (x1 : Int32) (x2 : Int32) (y0 : Int32) (μ : MS) : m_sum_B (n + 1) 0 x1 x2 y0 μ = (if 0 ≤ (μ.1 27) then m_sum_B n 5 x1 0 0 μ else (m_look μ).bind (fun p13 => (if p13.1 = 43 then m_sum_B n 1 x1 0 0 p13.2 else (m_look p13.2).bind (fun p22 => (if p22.1 = 45 then m_sum_B n 1 x1 0 0 p22.2 else m_sum_B n 5 x1 0 0 p22.2))))) := by
  rw [m_sum_B, if_pos rfl]
theorem m_sum_b1 (n : Nat) (x1 : Int32) (x2 : Int32) (y0 : Int32) (μ : MS) : m_sum_B (n + 1) 1 x1 x2 y0 μ = (if inb (μ.1 25) 200 = true then (if ((μ.2.1 1) (μ.1 25).toNatClampNeg) = 43 then m_sum_B n 2 x1 0 9 μ else m_sum_B n 2 x1 0 10 μ) else none) := by
  rw [m_sum_B, if_neg (by decide), if_pos rfl]
theorem m_sum_b2 (n : Nat) (x1 : Int32) (x2 : Int32) (y0 : Int32) (μ : MS) : m_sum_B (n + 1) 2 x1 x2 y0 μ = (m_node y0 (μ.1 25) μ).bind (fun p56 => (if 0 ≤ (p56.2.1 27) then m_sum_B n 3 x1 p56.1 0 (sI 25 ((p56.2.1 25) + 1) p56.2) else (m_term (sI 25 ((p56.2.1 25) + 1) p56.2)).bind (fun p78 => m_sum_B n 3 x1 p56.1 p78.1 p78.2))) := by
  rw [m_sum_B, if_neg (by decide), if_neg (by decide), if_pos rfl]
theorem m_sum_b3 (n : Nat) (x1 : Int32) (x2 : Int32) (y0 : Int32) (μ : MS) : m_sum_B (n + 1) 3 x1 x2 y0 μ = (if 0 ≤ (μ.1 27) then m_sum_B n 4 0 x2 0 μ else (if inb x2 40 = true then m_sum_B n 4 0 x2 0 (sA 23 (x2.toNatClampNeg) y0 (sA 22 (x2.toNatClampNeg) x1 μ)) else none)) := by
  rw [m_sum_B, if_neg (by decide), if_neg (by decide), if_neg (by decide), if_pos rfl]
theorem m_sum_b4 (n : Nat) (x1 : Int32) (x2 : Int32) (y0 : Int32) (μ : MS) : m_sum_B (n + 1) 4 x1 x2 y0 μ = m_sum_B n 0 x2 0 0 μ := by
  rw [m_sum_B, if_neg (by decide), if_neg (by decide), if_neg (by decide), if_neg (by decide), if_pos rfl]
theorem m_sum_b5 (n : Nat) (x1 : Int32) (x2 : Int32) (y0 : Int32) (μ : MS) : m_sum_B (n + 1) 5 x1 x2 y0 μ = some (x1, μ) := by
  rw [m_sum_B, if_neg (by decide), if_neg (by decide), if_neg (by decide), if_neg (by decide), if_neg (by decide)]
def m_sum (μ : MS) : Option (Int32 × MS) := (m_term μ).bind (fun p1 => m_sum_B 4096 0 p1.1 0 0 p1.2)
set_option maxHeartbeats 4000000 in
set_option maxRecDepth 100000 in
theorem c_Mod_sum {A : Nat → Nat} {f0 : Nat → va_E} {μ : MS} {res : (Int32 × MS)} (hM : zMf ck b0 N A f0 f μ) (h : m_sum μ = some res) : zK l D ck ad b0 y_Mod_sum prog_10_method_17_code 4 ((some FieldType.int)) 5 0 0 [.ref (A 38)] N f (fun r N' f' => r = some (.int res.1) ∧ N = N' ∧ zMf ck b0 N A f0 f' res.2) := by
  refine zM.of zG_w (by decide) (Nat.le_of_ble_eq_true rfl) ?_
  intro zp ze zst zm zar zbe zme zc X hnm hb0
  have L : ∀ n : Nat, (∀ (x1 : Int32) (x2 : Int32) (y0 : Int32) (f1 : Nat → va_E) (μ : MS), zMf ck b0 N A f0 f1 μ → m_sum_B n 0 x1 x2 y0 μ = some res → zW zp l ze (zR 5 0 0) zst zm zar zbe zme zc D zcl b0 4 0 0 (MQ zbe (zQ D zcl b0 (fun r N' f' => r = some (.int res.1) ∧ N = N' ∧ zMf ck b0 N A f0 f' res.2)) zar zst 0 0 (zA b0)) N f1 5 [(0, .ref (A 38)), (1, .int x1)] []) ∧ (∀ (x1 : Int32) (x2 : Int32) (y0 : Int32) (f1 : Nat → va_E) (μ : MS), zMf ck b0 N A f0 f1 μ → m_sum_B n 1 x1 x2 y0 μ = some res → zW zp l ze (zR 5 0 0) zst zm zar zbe zme zc D zcl b0 4 0 0 (MQ zbe (zQ D zcl b0 (fun r N' f' => r = some (.int res.1) ∧ N = N' ∧ zMf ck b0 N A f0 f' res.2)) zar zst 0 0 (zA b0)) N f1 30 [(0, .ref (A 38)), (1, .int x1)] []) ∧ (∀ (x1 : Int32) (x2 : Int32) (y0 : Int32) (f1 : Nat → va_E) (μ : MS), zMf ck b0 N A f0 f1 μ → m_sum_B n 2 x1 x2 y0 μ = some res → zW zp l ze (zR 5 0 0) zst zm zar zbe zme zc D zcl b0 4 0 0 (MQ zbe (zQ D zcl b0 (fun r N' f' => r = some (.int res.1) ∧ N = N' ∧ zMf ck b0 N A f0 f' res.2)) zar zst 0 0 (zA b0)) N f1 52 [(0, .ref (A 38)), (1, .int x1)] [.int y0, .ref (A 38)]) ∧ (∀ (x1 : Int32) (x2 : Int32) (y0 : Int32) (f1 : Nat → va_E) (μ : MS), zMf ck b0 N A f0 f1 μ → m_sum_B n 3 x1 x2 y0 μ = some res → zW zp l ze (zR 5 0 0) zst zm zar zbe zme zc D zcl b0 4 0 0 (MQ zbe (zQ D zcl b0 (fun r N' f' => r = some (.int res.1) ∧ N = N' ∧ zMf ck b0 N A f0 f' res.2)) zar zst 0 0 (zA b0)) N f1 85 [(0, .ref (A 38)), (1, .int x1), (2, .int x2)] [.int y0]) ∧ (∀ (x1 : Int32) (x2 : Int32) (y0 : Int32) (f1 : Nat → va_E) (μ : MS), zMf ck b0 N A f0 f1 μ → m_sum_B n 4 x1 x2 y0 μ = some res → zW zp l ze (zR 5 0 0) zst zm zar zbe zme zc D zcl b0 4 0 0 (MQ zbe (zQ D zcl b0 (fun r N' f' => r = some (.int res.1) ∧ N = N' ∧ zMf ck b0 N A f0 f' res.2)) zar zst 0 0 (zA b0)) N f1 107 [(0, .ref (A 38)), (2, .int x2)] []) ∧ (∀ (x1 : Int32) (x2 : Int32) (y0 : Int32) (f1 : Nat → va_E) (μ : MS), zMf ck b0 N A f0 f1 μ → m_sum_B n 5 x1 x2 y0 μ = some res → zW zp l ze (zR 5 0 0) zst zm zar zbe zme zc D zcl b0 4 0 0 (MQ zbe (zQ D zcl b0 (fun r N' f' => r = some (.int res.1) ∧ N = N' ∧ zMf ck b0 N A f0 f' res.2)) zar zst 0 0 (zA b0)) N f1 112 [(0, .ref (A 38)), (1, .int x1)] []) := by
    intro n
    induction n with
    | zero =>
      exact ⟨fun _ _ _ _ _ _ h => (by rw [m_sum_B] at h; cases h), fun _ _ _ _ _ _ h => (by rw [m_sum_B] at h; cases h), fun _ _ _ _ _ _ h => (by rw [m_sum_B] at h; cases h), fun _ _ _ _ _ _ h => (by rw [m_sum_B] at h; cases h), fun _ _ _ _ _ _ h => (by rw [m_sum_B] at h; cases h), fun _ _ _ _ _ _ h => (by rw [m_sum_B] at h; cases h)⟩
    | succ n ih =>
      refine ⟨?_, ?_, ?_, ?_, ?_, ?_⟩
      · intro x1 x2 y0 f1 μ hM h
        rw [m_sum_b0] at h
        refine z_aload_n X d_Mod_sum_5 rfl ?_
        refine z_get X (v := .int (μ.1 27)) d_Mod_sum_6 (hM.lo 38 (by decide)) hM.ob cl_Mod in_Mod 27 (by decide) fl_Mod_128 rfl rfl ?_
        refine z_if_ge X 112 d_Mod_sum_9 (by decide) (fun h9 => ?_) (fun h9 => ?_)
        · skip
          have h := (if_pos h9).symm.trans h
          refine zW.pick [0, 1] (lv' := [(0, .ref (A 38)), (1, .int x1)]) rfl ?_
          exact (ih).2.2.2.2.2 x1 0 0 _ _ hM h
        · skip
          have h := (if_neg h9).symm.trans h
          refine z_aload_n X d_Mod_sum_12 rfl ?_
          obtain ⟨p13, q13, h⟩ := bd h
          refine z_callV X zG_ok (c_Mod_look hM q13) d_Mod_sum_13 ⟨(z_cb (n := 0) X.2.2.2.2.1 ml_Mod_147 mc_Mod_look ini_Mod (by decide +kernel) rfl rfl ⟨Nat.le_of_ble_eq_true rfl, Nat.le_of_ble_eq_true rfl⟩), X.2.2.2.2.1 _ im_Mod_look, X.2.2.2.2.1 _ sel_Mod_look⟩ (hM.lo 38 (by decide)) hM.ob cl_Mod rfl rfl (Nat.le_of_ble_eq_true rfl) ⟨Nat.le_of_ble_eq_true rfl, Nat.le_of_ble_eq_true rfl⟩ (fun r N1 f1 hp hN1 => ?_)
          obtain ⟨rfl, rfl, hM⟩ := hp
          refine z_bipush X d_Mod_sum_16 (v := 43) (by decide) ?_
          refine z_icmp_eq X 30 d_Mod_sum_18 (by decide) (fun h18 => ?_) (fun h18 => ?_)
          · skip
            have h := (if_pos h18).symm.trans h
            refine zW.pick [0, 1] (lv' := [(0, .ref (A 38)), (1, .int x1)]) rfl ?_
            exact (ih).2.1 x1 0 0 _ _ hM h
          · skip
            have h := (if_neg h18).symm.trans h
            refine z_aload_n X d_Mod_sum_21 rfl ?_
            obtain ⟨p22, q22, h⟩ := bd h
            refine z_callV X zG_ok (c_Mod_look hM q22) d_Mod_sum_22 ⟨(z_cb (n := 0) X.2.2.2.2.1 ml_Mod_147 mc_Mod_look ini_Mod (by decide +kernel) rfl rfl ⟨Nat.le_of_ble_eq_true rfl, Nat.le_of_ble_eq_true rfl⟩), X.2.2.2.2.1 _ im_Mod_look, X.2.2.2.2.1 _ sel_Mod_look⟩ (hM.lo 38 (by decide)) hM.ob cl_Mod rfl rfl (Nat.le_of_ble_eq_true rfl) ⟨Nat.le_of_ble_eq_true rfl, Nat.le_of_ble_eq_true rfl⟩ (fun r N1 f1 hp hN1 => ?_)
            obtain ⟨rfl, rfl, hM⟩ := hp
            refine z_bipush X d_Mod_sum_25 (v := 45) (by decide) ?_
            refine z_icmp_ne X 112 d_Mod_sum_27 (by decide) (fun h27 => ?_) (fun h27 => ?_)
            · skip
              have h := (if_neg h27).symm.trans h
              refine zW.pick [0, 1] (lv' := [(0, .ref (A 38)), (1, .int x1)]) rfl ?_
              exact (ih).2.2.2.2.2 x1 0 0 _ _ hM h
            · skip
              have h := (if_pos h27).symm.trans h
              refine zW.pick [0, 1] (lv' := [(0, .ref (A 38)), (1, .int x1)]) rfl ?_
              exact (ih).2.1 x1 0 0 _ _ hM h
      · intro x1 x2 y0 f1 μ hM h
        rw [m_sum_b1] at h
        refine z_aload_n X d_Mod_sum_30 rfl ?_
        refine z_aload_n X d_Mod_sum_31 rfl ?_
        refine z_get X (v := .ref (A 1)) d_Mod_sum_32 (hM.lo 38 (by decide)) hM.ob cl_Mod in_Mod 1 (by decide) fl_Mod_7 rfl rfl ?_
        refine z_aload_n X d_Mod_sum_35 rfl ?_
        refine z_get X (v := .int (μ.1 25)) d_Mod_sum_36 (hM.lo 38 (by decide)) hM.ob cl_Mod in_Mod 25 (by decide) fl_Mod_107 rfl rfl ?_
        obtain ⟨b39, h⟩ := gd h
        refine z_iald X (g := (μ.2.1 1)) d_Mod_sum_39 (hM.lo 1 (by decide)) (hM.iA 1 200 rfl) (t0 := 0) rfl (vp_of b39) ?_
        refine z_bipush X d_Mod_sum_40 (v := 43) (by decide) ?_
        refine z_icmp_ne X 50 d_Mod_sum_42 (by decide) (fun h42 => ?_) (fun h42 => ?_)
        · skip
          have h := (if_neg h42).symm.trans h
          refine z_bipush X d_Mod_sum_50 (v := 10) (by decide) ?_
          refine zW.pick [0, 1] (lv' := [(0, .ref (A 38)), (1, .int x1)]) rfl ?_
          exact (ih).2.2.1 x1 0 10 _ _ hM h
        · skip
          have h := (if_pos h42).symm.trans h
          refine z_bipush X d_Mod_sum_45 (v := 9) (by decide) ?_
          refine z_goto X 52 d_Mod_sum_47 (by decide) ?_
          refine zW.pick [0, 1] (lv' := [(0, .ref (A 38)), (1, .int x1)]) rfl ?_
          exact (ih).2.2.1 x1 0 9 _ _ hM h
      · intro x1 x2 y0 f1 μ hM h
        rw [m_sum_b2] at h
        refine z_aload_n X d_Mod_sum_52 rfl ?_
        refine z_get X (v := .int (μ.1 25)) d_Mod_sum_53 (hM.lo 38 (by decide)) hM.ob cl_Mod in_Mod 25 (by decide) fl_Mod_107 rfl rfl ?_
        obtain ⟨p56, q56, h⟩ := bd h
        refine z_callV X zG_ok (c_Mod_node hM q56) d_Mod_sum_56 ⟨(z_cb (n := 2) X.2.2.2.2.1 ml_Mod_158 mc_Mod_node ini_Mod (by decide +kernel) rfl rfl ⟨Nat.le_of_ble_eq_true rfl, Nat.le_of_ble_eq_true rfl⟩), X.2.2.2.2.1 _ im_Mod_node, X.2.2.2.2.1 _ sel_Mod_node⟩ (hM.lo 38 (by decide)) hM.ob cl_Mod rfl rfl (Nat.le_of_ble_eq_true rfl) ⟨Nat.le_of_ble_eq_true rfl, Nat.le_of_ble_eq_true rfl⟩ (fun r N1 f1 hp hN1 => ?_)
        obtain ⟨rfl, rfl, hM⟩ := hp
        refine z_istore_n X d_Mod_sum_59 (by decide) rfl ?_
        refine z_aload_n X d_Mod_sum_60 rfl ?_
        refine z_dup X d_Mod_sum_61 rfl ?_
        refine z_get X (v := .int (p56.2.1 25)) d_Mod_sum_62 (hM.lo 38 (by decide)) hM.ob cl_Mod in_Mod 25 (by decide) fl_Mod_107 rfl rfl ?_
        refine z_iconst X d_Mod_sum_65 (v := 1) (by decide) ?_
        refine z_iadd X d_Mod_sum_66 ?_
        refine z_putM X t_Mod ty_Mod n_Mod d_Mod_sum_67 hM cl_Mod in_Mod 25 (by decide) fl_Mod_107 rfl rfl rfl (by decide) rfl (fun hM => ?_)
        refine z_aload_n X d_Mod_sum_70 rfl ?_
        refine z_get X (v := .int (p56.2.1 27)) d_Mod_sum_71 (hM.lo 38 (by decide)) hM.ob cl_Mod in_Mod 27 (by decide) fl_Mod_128 rfl rfl ?_
        refine z_if_ge X 84 d_Mod_sum_74 (by decide) (fun h74 => ?_) (fun h74 => ?_)
        · skip
          have h := (if_pos h74).symm.trans h
          refine z_iconst X d_Mod_sum_84 (v := 0) (by decide) ?_
          refine zW.pick [0, 1, 2] (lv' := [(0, .ref (A 38)), (1, .int x1), (2, .int p56.1)]) rfl ?_
          exact (ih).2.2.2.1 x1 p56.1 0 _ _ hM h
        · skip
          have h := (if_neg h74).symm.trans h
          refine z_aload_n X d_Mod_sum_77 rfl ?_
          obtain ⟨p78, q78, h⟩ := bd h
          refine z_callV X zG_ok (c_Mod_term hM q78) d_Mod_sum_78 ⟨(z_cb (n := 0) X.2.2.2.2.1 ml_Mod_164 mc_Mod_term ini_Mod (by decide +kernel) rfl rfl ⟨Nat.le_of_ble_eq_true rfl, Nat.le_of_ble_eq_true rfl⟩), X.2.2.2.2.1 _ im_Mod_term, X.2.2.2.2.1 _ sel_Mod_term⟩ (hM.lo 38 (by decide)) hM.ob cl_Mod rfl rfl (Nat.le_of_ble_eq_true rfl) ⟨Nat.le_of_ble_eq_true rfl, Nat.le_of_ble_eq_true rfl⟩ (fun r N1 f1 hp hN1 => ?_)
          obtain ⟨rfl, rfl, hM⟩ := hp
          refine z_goto X 85 d_Mod_sum_81 (by decide) ?_
          refine zW.pick [0, 1, 2] (lv' := [(0, .ref (A 38)), (1, .int x1), (2, .int p56.1)]) rfl ?_
          exact (ih).2.2.2.1 x1 p56.1 p78.1 _ _ hM h
      · intro x1 x2 y0 f1 μ hM h
        rw [m_sum_b3] at h
        refine z_istore_n X d_Mod_sum_85 (by decide) rfl ?_
        refine z_aload_n X d_Mod_sum_86 rfl ?_
        refine z_get X (v := .int (μ.1 27)) d_Mod_sum_87 (hM.lo 38 (by decide)) hM.ob cl_Mod in_Mod 27 (by decide) fl_Mod_128 rfl rfl ?_
        refine z_if_ge X 107 d_Mod_sum_90 (by decide) (fun h90 => ?_) (fun h90 => ?_)
        · skip
          have h := (if_pos h90).symm.trans h
          refine zW.pick [0, 2] (lv' := [(0, .ref (A 38)), (2, .int x2)]) rfl ?_
          exact (ih).2.2.2.2.1 0 x2 0 _ _ hM h
        · skip
          have h := (if_neg h90).symm.trans h
          refine z_aload_n X d_Mod_sum_93 rfl ?_
          refine z_get X (v := .ref (A 22)) d_Mod_sum_94 (hM.lo 38 (by decide)) hM.ob cl_Mod in_Mod 22 (by decide) fl_Mod_62 rfl rfl ?_
          refine z_iload_n X d_Mod_sum_97 rfl ?_
          refine z_iload_n X d_Mod_sum_98 rfl ?_
          obtain ⟨b99, h⟩ := gd h
          refine z_iastM X d_Mod_sum_99 hM 22 40 rfl rfl (vp_of b99) (fun hM => ?_)
          refine z_aload_n X d_Mod_sum_100 rfl ?_
          refine z_get X (v := .ref (A 23)) d_Mod_sum_101 (hM.lo 38 (by decide)) hM.ob cl_Mod in_Mod 23 (by decide) fl_Mod_65 rfl rfl ?_
          refine z_iload_n X d_Mod_sum_104 rfl ?_
          refine z_iload_n X d_Mod_sum_105 rfl ?_
          refine z_iastM X d_Mod_sum_106 hM 23 40 rfl rfl (vp_of b99) (fun hM => ?_)
          refine zW.pick [0, 2] (lv' := [(0, .ref (A 38)), (2, .int x2)]) rfl ?_
          exact (ih).2.2.2.2.1 0 x2 0 _ _ hM h
      · intro x1 x2 y0 f1 μ hM h
        rw [m_sum_b4] at h
        refine z_iload_n X d_Mod_sum_107 rfl ?_
        refine z_istore_n X d_Mod_sum_108 (by decide) rfl ?_
        refine z_goto X 5 d_Mod_sum_109 (by decide) ?_
        refine zW.pick [0, 2] (lv' := [(0, .ref (A 38)), (1, .int x2)]) rfl ?_
        exact (ih).1 x2 0 0 _ _ hM h
      · intro x1 x2 y0 f1 μ hM h
        rw [m_sum_b5] at h
        refine z_iload_n X d_Mod_sum_112 rfl ?_
        have e9 := Option.some.inj h
        subst e9
        exact z_iret X d_Mod_sum_113 ⟨rfl, rfl, hM⟩
  rw [m_sum] at h
  refine z_aload_n X d_Mod_sum_0 rfl ?_
  obtain ⟨p1, q1, h⟩ := bd h
  refine z_callV X zG_ok (c_Mod_term hM q1) d_Mod_sum_1 ⟨(z_cb (n := 0) X.2.2.2.2.1 ml_Mod_164 mc_Mod_term ini_Mod (by decide +kernel) rfl rfl ⟨Nat.le_of_ble_eq_true rfl, Nat.le_of_ble_eq_true rfl⟩), X.2.2.2.2.1 _ im_Mod_term, X.2.2.2.2.1 _ sel_Mod_term⟩ (hM.lo 38 (by decide)) hM.ob cl_Mod rfl rfl (Nat.le_of_ble_eq_true rfl) ⟨Nat.le_of_ble_eq_true rfl, Nat.le_of_ble_eq_true rfl⟩ (fun r N1 f1 hp hN1 => ?_)
  obtain ⟨rfl, rfl, hM⟩ := hp
  refine z_istore_n X d_Mod_sum_4 (by decide) rfl ?_
  refine zW.pick [0, 1] (lv' := [(0, .ref (A 38)), (1, .int p1.1)]) rfl ?_
  exact (L 4096).1 p1.1 0 0 _ _ hM h
theorem d_Mod_comparison_0 : decode prog_10_method_18_code 0 = .ok (.aload_n 0, 1) := by decide +kernel
theorem d_Mod_comparison_1 : decode prog_10_method_18_code 1 = .ok (.invokevirtual 167, 3) := by decide +kernel
theorem d_Mod_comparison_4 : decode prog_10_method_18_code 4 = .ok (.istore_n 1, 1) := by decide +kernel
theorem d_Mod_comparison_5 : decode prog_10_method_18_code 5 = .ok (.aload_n 0, 1) := by decide +kernel
theorem d_Mod_comparison_6 : decode prog_10_method_18_code 6 = .ok (.getfield 128, 3) := by decide +kernel
theorem d_Mod_comparison_9 : decode prog_10_method_18_code 9 = .ok (.ifCond .lt 5, 3) := by decide +kernel
theorem d_Mod_comparison_12 : decode prog_10_method_18_code 12 = .ok (.iconst 0, 1) := by decide +kernel
theorem d_Mod_comparison_13 : decode prog_10_method_18_code 13 = .ok (.ireturn, 1) := by decide +kernel
theorem d_Mod_comparison_14 : decode prog_10_method_18_code 14 = .ok (.aload_n 0, 1) := by decide +kernel
theorem d_Mod_comparison_15 : decode prog_10_method_18_code 15 = .ok (.invokevirtual 147, 3) := by decide +kernel
theorem d_Mod_comparison_18 : decode prog_10_method_18_code 18 = .ok (.istore_n 2, 1) := by decide +kernel
theorem d_Mod_comparison_19 : decode prog_10_method_18_code 19 = .ok (.iload_n 2, 1) := by decide +kernel
theorem d_Mod_comparison_20 : decode prog_10_method_18_code 20 = .ok (.bipush 60, 2) := by decide +kernel
theorem d_Mod_comparison_22 : decode prog_10_method_18_code 22 = .ok (.if_icmp .ne 7, 3) := by decide +kernel
theorem d_Mod_comparison_25 : decode prog_10_method_18_code 25 = .ok (.iconst 5, 1) := by decide +kernel
theorem d_Mod_comparison_26 : decode prog_10_method_18_code 26 = .ok (.goto 37, 3) := by decide +kernel
theorem d_Mod_comparison_29 : decode prog_10_method_18_code 29 = .ok (.iload_n 2, 1) := by decide +kernel
theorem d_Mod_comparison_30 : decode prog_10_method_18_code 30 = .ok (.bipush 62, 2) := by decide +kernel
theorem d_Mod_comparison_32 : decode prog_10_method_18_code 32 = .ok (.if_icmp .ne 8, 3) := by decide +kernel
theorem d_Mod_comparison_35 : decode prog_10_method_18_code 35 = .ok (.bipush 6, 2) := by decide +kernel
theorem d_Mod_comparison_37 : decode prog_10_method_18_code 37 = .ok (.goto 26, 3) := by decide +kernel
theorem d_Mod_comparison_40 : decode prog_10_method_18_code 40 = .ok (.iload_n 2, 1) := by decide +kernel
theorem d_Mod_comparison_41 : decode prog_10_method_18_code 41 = .ok (.bipush 61, 2) := by decide +kernel
theorem d_Mod_comparison_43 : decode prog_10_method_18_code 43 = .ok (.if_icmp .ne 8, 3) := by decide +kernel
theorem d_Mod_comparison_46 : decode prog_10_method_18_code 46 = .ok (.bipush 7, 2) := by decide +kernel
theorem d_Mod_comparison_48 : decode prog_10_method_18_code 48 = .ok (.goto 15, 3) := by decide +kernel
theorem d_Mod_comparison_51 : decode prog_10_method_18_code 51 = .ok (.iload_n 2, 1) := by decide +kernel
theorem d_Mod_comparison_52 : decode prog_10_method_18_code 52 = .ok (.bipush 35, 2) := by decide +kernel
theorem d_Mod_comparison_54 : decode prog_10_method_18_code 54 = .ok (.if_icmp .ne 8, 3) := by decide +kernel
theorem d_Mod_comparison_57 : decode prog_10_method_18_code 57 = .ok (.bipush 8, 2) := by decide +kernel
theorem d_Mod_comparison_59 : decode prog_10_method_18_code 59 = .ok (.goto 4, 3) := by decide +kernel
theorem d_Mod_comparison_62 : decode prog_10_method_18_code 62 = .ok (.iconst (-1), 1) := by decide +kernel
theorem d_Mod_comparison_63 : decode prog_10_method_18_code 63 = .ok (.istore_n 3, 1) := by decide +kernel
theorem d_Mod_comparison_64 : decode prog_10_method_18_code 64 = .ok (.iload_n 3, 1) := by decide +kernel
theorem d_Mod_comparison_65 : decode prog_10_method_18_code 65 = .ok (.ifCond .ge 13, 3) := by decide +kernel
theorem d_Mod_comparison_68 : decode prog_10_method_18_code 68 = .ok (.aload_n 0, 1) := by decide +kernel
theorem d_Mod_comparison_69 : decode prog_10_method_18_code 69 = .ok (.aload_n 0, 1) := by decide +kernel
theorem d_Mod_comparison_70 : decode prog_10_method_18_code 70 = .ok (.getfield 107, 3) := by decide +kernel
theorem d_Mod_comparison_73 : decode prog_10_method_18_code 73 = .ok (.invokevirtual 134, 3) := by decide +kernel
theorem d_Mod_comparison_76 : decode prog_10_method_18_code 76 = .ok (.iconst 0, 1) := by decide +kernel
theorem d_Mod_comparison_77 : decode prog_10_method_18_code 77 = .ok (.ireturn, 1) := by decide +kernel
theorem d_Mod_comparison_78 : decode prog_10_method_18_code 78 = .ok (.aload_n 0, 1) := by decide +kernel
theorem d_Mod_comparison_79 : decode prog_10_method_18_code 79 = .ok (.iload_n 3, 1) := by decide +kernel
theorem d_Mod_comparison_80 : decode prog_10_method_18_code 80 = .ok (.aload_n 0, 1) := by decide +kernel
theorem d_Mod_comparison_81 : decode prog_10_method_18_code 81 = .ok (.getfield 107, 3) := by decide +kernel
theorem d_Mod_comparison_84 : decode prog_10_method_18_code 84 = .ok (.invokevirtual 158, 3) := by decide +kernel
theorem d_Mod_comparison_87 : decode prog_10_method_18_code 87 = .ok (.istore 4, 2) := by decide +kernel
theorem d_Mod_comparison_89 : decode prog_10_method_18_code 89 = .ok (.aload_n 0, 1) := by decide +kernel
theorem d_Mod_comparison_90 : decode prog_10_method_18_code 90 = .ok (.dup, 1) := by decide +kernel
theorem d_Mod_comparison_91 : decode prog_10_method_18_code 91 = .ok (.getfield 107, 3) := by decide +kernel
theorem d_Mod_comparison_94 : decode prog_10_method_18_code 94 = .ok (.iconst 1, 1) := by decide +kernel
theorem d_Mod_comparison_95 : decode prog_10_method_18_code 95 = .ok (.iadd, 1) := by decide +kernel
theorem d_Mod_comparison_96 : decode prog_10_method_18_code 96 = .ok (.putfield 107, 3) := by decide +kernel
theorem d_Mod_comparison_99 : decode prog_10_method_18_code 99 = .ok (.aload_n 0, 1) := by decide +kernel
theorem d_Mod_comparison_100 : decode prog_10_method_18_code 100 = .ok (.getfield 128, 3) := by decide +kernel
theorem d_Mod_comparison_103 : decode prog_10_method_18_code 103 = .ok (.ifCond .ge 10, 3) := by decide +kernel
theorem d_Mod_comparison_106 : decode prog_10_method_18_code 106 = .ok (.aload_n 0, 1) := by decide +kernel
theorem d_Mod_comparison_107 : decode prog_10_method_18_code 107 = .ok (.invokevirtual 167, 3) := by decide +kernel
theorem d_Mod_comparison_110 : decode prog_10_method_18_code 110 = .ok (.goto 4, 3) := by decide +kernel
theorem d_Mod_comparison_113 : decode prog_10_method_18_code 113 = .ok (.iconst 0, 1) := by decide +kernel
theorem d_Mod_comparison_114 : decode prog_10_method_18_code 114 = .ok (.istore 5, 2) := by decide +kernel
theorem d_Mod_comparison_116 : decode prog_10_method_18_code 116 = .ok (.aload_n 0, 1) := by decide +kernel
theorem d_Mod_comparison_117 : decode prog_10_method_18_code 117 = .ok (.getfield 128, 3) := by decide +kernel
theorem d_Mod_comparison_120 : decode prog_10_method_18_code 120 = .ok (.ifCond .ge 20, 3) := by decide +kernel
theorem d_Mod_comparison_123 : decode prog_10_method_18_code 123 = .ok (.aload_n 0, 1) := by decide +kernel
theorem d_Mod_comparison_124 : decode prog_10_method_18_code 124 = .ok (.getfield 62, 3) := by decide +kernel
theorem d_Mod_comparison_127 : decode prog_10_method_18_code 127 = .ok (.iload 4, 2) := by decide +kernel
theorem d_Mod_comparison_129 : decode prog_10_method_18_code 129 = .ok (.iload_n 1, 1) := by decide +kernel
theorem d_Mod_comparison_130 : decode prog_10_method_18_code 130 = .ok (.iastore, 1) := by decide +kernel
theorem d_Mod_comparison_131 : decode prog_10_method_18_code 131 = .ok (.aload_n 0, 1) := by decide +kernel
theorem d_Mod_comparison_132 : decode prog_10_method_18_code 132 = .ok (.getfield 65, 3) := by decide +kernel
theorem d_Mod_comparison_135 : decode prog_10_method_18_code 135 = .ok (.iload 4, 2) := by decide +kernel
theorem d_Mod_comparison_137 : decode prog_10_method_18_code 137 = .ok (.iload 5, 2) := by decide +kernel
theorem d_Mod_comparison_139 : decode prog_10_method_18_code 139 = .ok (.iastore, 1) := by decide +kernel
theorem d_Mod_comparison_140 : decode prog_10_method_18_code 140 = .ok (.iload 4, 2) := by decide +kernel
theorem d_Mod_comparison_142 : decode prog_10_method_18_code 142 = .ok (.ireturn, 1) := by decide +kernel
def m_comparison_B : Nat → Nat → Int32 → Int32 → Int32 → MS → Option (Int32 × MS)
  | 0, _, _, _, _, _ => none
  | n + 1, b, x1, x4, y0, μ => if b = 0 then (if 0 ≤ y0 then (m_node y0 (μ.1 25) μ).bind (fun p84 => (if 0 ≤ (p84.2.1 27) then m_comparison_B n 1 x1 p84.1 0 (sI 25 ((p84.2.1 25) + 1) p84.2) else (m_sum (sI 25 ((p84.2.1 25) + 1) p84.2)).bind (fun p107 => m_comparison_B n 1 x1 p84.1 p107.1 p107.2))) else (m_fail (μ.1 25) μ).bind (fun p73 => some (0, p73)))
    else if b = 1 then (if 0 ≤ (μ.1 27) then m_comparison_B n 2 0 x4 0 μ else (if inb x4 40 = true then m_comparison_B n 2 0 x4 0 (sA 23 (x4.toNatClampNeg) y0 (sA 22 (x4.toNatClampNeg) x1 μ)) else none))
    else some (x4, μ)
theorem m_comparison_b0 (n : Nat) (x1 : Int32) (x4 : Int32) (y0 : Int32) (μ : MS) : m_comparison_B (n + 1) 0 x1 x4 y0 μ = (if 0 ≤ y0 then (m_node y0 (μ.1 25) μ).bind (fun p84 => (if 0 ≤ (p84.2.1 27) then m_comparison_B n 1 x1 p84.1 0 (sI 25 ((p84.2.1 25) + 1) p84.2) else (m_sum (sI 25 ((p84.2.1 25) + 1) p84.2)).bind (fun p107 => m_comparison_B n 1 x1 p84.1 p107.1 p107.2))) else (m_fail (μ.1 25) μ).bind (fun p73 => some (0, p73))) := by
  rw [m_comparison_B, if_pos rfl]
theorem m_comparison_b1 (n : Nat) (x1 : Int32) (x4 : Int32) (y0 : Int32) (μ : MS) : m_comparison_B (n + 1) 1 x1 x4 y0 μ = (if 0 ≤ (μ.1 27) then m_comparison_B n 2 0 x4 0 μ else (if inb x4 40 = true then m_comparison_B n 2 0 x4 0 (sA 23 (x4.toNatClampNeg) y0 (sA 22 (x4.toNatClampNeg) x1 μ)) else none)) := by
  rw [m_comparison_B, if_neg (by decide), if_pos rfl]
theorem m_comparison_b2 (n : Nat) (x1 : Int32) (x4 : Int32) (y0 : Int32) (μ : MS) : m_comparison_B (n + 1) 2 x1 x4 y0 μ = some (x4, μ) := by
  rw [m_comparison_B, if_neg (by decide), if_neg (by decide)]
def m_comparison (μ : MS) : Option (Int32 × MS) := (m_sum μ).bind (fun p1 => (if (p1.2.1 27) < 0 then (m_look p1.2).bind (fun p15 => (if p15.1 = 60 then m_comparison_B 4096 0 p1.1 0 5 p15.2 else (if p15.1 = 62 then m_comparison_B 4096 0 p1.1 0 6 p15.2 else (if p15.1 = 61 then m_comparison_B 4096 0 p1.1 0 7 p15.2 else (if p15.1 = 35 then m_comparison_B 4096 0 p1.1 0 8 p15.2 else m_comparison_B 4096 0 p1.1 0 (-1) p15.2))))) else some (0, p1.2)))
set_option maxHeartbeats 4000000 in
set_option maxRecDepth 100000 in
theorem c_Mod_comparison {A : Nat → Nat} {f0 : Nat → va_E} {μ : MS} {res : (Int32 × MS)} (hM : zMf ck b0 N A f0 f μ) (h : m_comparison μ = some res) : zK l D ck ad b0 y_Mod_comparison prog_10_method_18_code 6 ((some FieldType.int)) 6 0 0 [.ref (A 38)] N f (fun r N' f' => r = some (.int res.1) ∧ N = N' ∧ zMf ck b0 N A f0 f' res.2) := by
  refine zM.of zG_w (by decide) (Nat.le_of_ble_eq_true rfl) ?_
  intro zp ze zst zm zar zbe zme zc X hnm hb0
  have L : ∀ n : Nat, (∀ (x1 : Int32) (x4 : Int32) (y0 : Int32) (f1 : Nat → va_E) (μ : MS), zMf ck b0 N A f0 f1 μ → m_comparison_B n 0 x1 x4 y0 μ = some res → zW zp l ze (zR 6 0 0) zst zm zar zbe zme zc D zcl b0 6 0 0 (MQ zbe (zQ D zcl b0 (fun r N' f' => r = some (.int res.1) ∧ N = N' ∧ zMf ck b0 N A f0 f' res.2)) zar zst 0 0 (zA b0)) N f1 63 [(0, .ref (A 38)), (1, .int x1)] [.int y0]) ∧ (∀ (x1 : Int32) (x4 : Int32) (y0 : Int32) (f1 : Nat → va_E) (μ : MS), zMf ck b0 N A f0 f1 μ → m_comparison_B n 1 x1 x4 y0 μ = some res → zW zp l ze (zR 6 0 0) zst zm zar zbe zme zc D zcl b0 6 0 0 (MQ zbe (zQ D zcl b0 (fun r N' f' => r = some (.int res.1) ∧ N = N' ∧ zMf ck b0 N A f0 f' res.2)) zar zst 0 0 (zA b0)) N f1 114 [(0, .ref (A 38)), (1, .int x1), (4, .int x4)] [.int y0]) ∧ (∀ (x1 : Int32) (x4 : Int32) (y0 : Int32) (f1 : Nat → va_E) (μ : MS), zMf ck b0 N A f0 f1 μ → m_comparison_B n 2 x1 x4 y0 μ = some res → zW zp l ze (zR 6 0 0) zst zm zar zbe zme zc D zcl b0 6 0 0 (MQ zbe (zQ D zcl b0 (fun r N' f' => r = some (.int res.1) ∧ N = N' ∧ zMf ck b0 N A f0 f' res.2)) zar zst 0 0 (zA b0)) N f1 140 [(0, .ref (A 38)), (4, .int x4)] []) := by
    intro n
    induction n with
    | zero =>
      exact ⟨fun _ _ _ _ _ _ h => (by rw [m_comparison_B] at h; cases h), fun _ _ _ _ _ _ h => (by rw [m_comparison_B] at h; cases h), fun _ _ _ _ _ _ h => (by rw [m_comparison_B] at h; cases h)⟩
    | succ n ih =>
      refine ⟨?_, ?_, ?_⟩
      · intro x1 x4 y0 f1 μ hM h
        rw [m_comparison_b0] at h
        refine z_istore_n X d_Mod_comparison_63 (by decide) rfl ?_
        refine z_iload_n X d_Mod_comparison_64 rfl ?_
        refine z_if_ge X 78 d_Mod_comparison_65 (by decide) (fun h65 => ?_) (fun h65 => ?_)
        · skip
          have h := (if_pos h65).symm.trans h
          refine z_aload_n X d_Mod_comparison_78 rfl ?_
          refine z_iload_n X d_Mod_comparison_79 rfl ?_
          refine z_aload_n X d_Mod_comparison_80 rfl ?_
          refine z_get X (v := .int (μ.1 25)) d_Mod_comparison_81 (hM.lo 38 (by decide)) hM.ob cl_Mod in_Mod 25 (by decide) fl_Mod_107 rfl rfl ?_
          obtain ⟨p84, q84, h⟩ := bd h
          refine z_callV X zG_ok (c_Mod_node hM q84) d_Mod_comparison_84 ⟨(z_cb (n := 2) X.2.2.2.2.1 ml_Mod_158 mc_Mod_node ini_Mod (by decide +kernel) rfl rfl ⟨Nat.le_of_ble_eq_true rfl, Nat.le_of_ble_eq_true rfl⟩), X.2.2.2.2.1 _ im_Mod_node, X.2.2.2.2.1 _ sel_Mod_node⟩ (hM.lo 38 (by decide)) hM.ob cl_Mod rfl rfl (Nat.le_of_ble_eq_true rfl) ⟨Nat.le_of_ble_eq_true rfl, Nat.le_of_ble_eq_true rfl⟩ (fun r N1 f1 hp hN1 => ?_)
          obtain ⟨rfl, rfl, hM⟩ := hp
          refine z_istore X d_Mod_comparison_87 (by decide) rfl ?_
          refine z_aload_n X d_Mod_comparison_89 rfl ?_
          refine z_dup X d_Mod_comparison_90 rfl ?_
          refine z_get X (v := .int (p84.2.1 25)) d_Mod_comparison_91 (hM.lo 38 (by decide)) hM.ob cl_Mod in_Mod 25 (by decide) fl_Mod_107 rfl rfl ?_
          refine z_iconst X d_Mod_comparison_94 (v := 1) (by decide) ?_
          refine z_iadd X d_Mod_comparison_95 ?_
          refine z_putM X t_Mod ty_Mod n_Mod d_Mod_comparison_96 hM cl_Mod in_Mod 25 (by decide) fl_Mod_107 rfl rfl rfl (by decide) rfl (fun hM => ?_)
          refine z_aload_n X d_Mod_comparison_99 rfl ?_
          refine z_get X (v := .int (p84.2.1 27)) d_Mod_comparison_100 (hM.lo 38 (by decide)) hM.ob cl_Mod in_Mod 27 (by decide) fl_Mod_128 rfl rfl ?_
          refine z_if_ge X 113 d_Mod_comparison_103 (by decide) (fun h103 => ?_) (fun h103 => ?_)
          · skip
            have h := (if_pos h103).symm.trans h
            refine z_iconst X d_Mod_comparison_113 (v := 0) (by decide) ?_
            refine zW.pick [0, 1, 3] (lv' := [(0, .ref (A 38)), (1, .int x1), (4, .int p84.1)]) rfl ?_
            exact (ih).2.1 x1 p84.1 0 _ _ hM h
          · skip
            have h := (if_neg h103).symm.trans h
            refine z_aload_n X d_Mod_comparison_106 rfl ?_
            obtain ⟨p107, q107, h⟩ := bd h
            refine z_callV X zG_ok (c_Mod_sum hM q107) d_Mod_comparison_107 ⟨(z_cb (n := 0) X.2.2.2.2.1 ml_Mod_167 mc_Mod_sum ini_Mod (by decide +kernel) rfl rfl ⟨Nat.le_of_ble_eq_true rfl, Nat.le_of_ble_eq_true rfl⟩), X.2.2.2.2.1 _ im_Mod_sum, X.2.2.2.2.1 _ sel_Mod_sum⟩ (hM.lo 38 (by decide)) hM.ob cl_Mod rfl rfl (Nat.le_of_ble_eq_true rfl) ⟨Nat.le_of_ble_eq_true rfl, Nat.le_of_ble_eq_true rfl⟩ (fun r N1 f1 hp hN1 => ?_)
            obtain ⟨rfl, rfl, hM⟩ := hp
            refine z_goto X 114 d_Mod_comparison_110 (by decide) ?_
            refine zW.pick [0, 1, 3] (lv' := [(0, .ref (A 38)), (1, .int x1), (4, .int p84.1)]) rfl ?_
            exact (ih).2.1 x1 p84.1 p107.1 _ _ hM h
        · skip
          have h := (if_neg h65).symm.trans h
          refine z_aload_n X d_Mod_comparison_68 rfl ?_
          refine z_aload_n X d_Mod_comparison_69 rfl ?_
          refine z_get X (v := .int (μ.1 25)) d_Mod_comparison_70 (hM.lo 38 (by decide)) hM.ob cl_Mod in_Mod 25 (by decide) fl_Mod_107 rfl rfl ?_
          obtain ⟨p73, q73, h⟩ := bd h
          refine z_callV X zG_ok (c_Mod_fail hM q73) d_Mod_comparison_73 ⟨(z_cb (n := 1) X.2.2.2.2.1 ml_Mod_134 mc_Mod_fail ini_Mod (by decide +kernel) rfl rfl ⟨Nat.le_of_ble_eq_true rfl, Nat.le_of_ble_eq_true rfl⟩), X.2.2.2.2.1 _ im_Mod_fail, X.2.2.2.2.1 _ sel_Mod_fail⟩ (hM.lo 38 (by decide)) hM.ob cl_Mod rfl rfl (Nat.le_of_ble_eq_true rfl) ⟨Nat.le_of_ble_eq_true rfl, Nat.le_of_ble_eq_true rfl⟩ (fun r N1 f1 hp hN1 => ?_)
          obtain ⟨rfl, rfl, hM⟩ := hp
          refine z_iconst X d_Mod_comparison_76 (v := 0) (by decide) ?_
          have e9 := Option.some.inj h
          subst e9
          exact z_iret X d_Mod_comparison_77 ⟨rfl, rfl, hM⟩
      · intro x1 x4 y0 f1 μ hM h
        rw [m_comparison_b1] at h
        refine z_istore X d_Mod_comparison_114 (by decide) rfl ?_
        refine z_aload_n X d_Mod_comparison_116 rfl ?_
        refine z_get X (v := .int (μ.1 27)) d_Mod_comparison_117 (hM.lo 38 (by decide)) hM.ob cl_Mod in_Mod 27 (by decide) fl_Mod_128 rfl rfl ?_
        refine z_if_ge X 140 d_Mod_comparison_120 (by decide) (fun h120 => ?_) (fun h120 => ?_)
        · skip
          have h := (if_pos h120).symm.trans h
          refine zW.pick [0, 2] (lv' := [(0, .ref (A 38)), (4, .int x4)]) rfl ?_
          exact (ih).2.2 0 x4 0 _ _ hM h
        · skip
          have h := (if_neg h120).symm.trans h
          refine z_aload_n X d_Mod_comparison_123 rfl ?_
          refine z_get X (v := .ref (A 22)) d_Mod_comparison_124 (hM.lo 38 (by decide)) hM.ob cl_Mod in_Mod 22 (by decide) fl_Mod_62 rfl rfl ?_
          refine z_iload X d_Mod_comparison_127 rfl ?_
          refine z_iload_n X d_Mod_comparison_129 rfl ?_
          obtain ⟨b130, h⟩ := gd h
          refine z_iastM X d_Mod_comparison_130 hM 22 40 rfl rfl (vp_of b130) (fun hM => ?_)
          refine z_aload_n X d_Mod_comparison_131 rfl ?_
          refine z_get X (v := .ref (A 23)) d_Mod_comparison_132 (hM.lo 38 (by decide)) hM.ob cl_Mod in_Mod 23 (by decide) fl_Mod_65 rfl rfl ?_
          refine z_iload X d_Mod_comparison_135 rfl ?_
          refine z_iload X d_Mod_comparison_137 rfl ?_
          refine z_iastM X d_Mod_comparison_139 hM 23 40 rfl rfl (vp_of b130) (fun hM => ?_)
          refine zW.pick [0, 2] (lv' := [(0, .ref (A 38)), (4, .int x4)]) rfl ?_
          exact (ih).2.2 0 x4 0 _ _ hM h
      · intro x1 x4 y0 f1 μ hM h
        rw [m_comparison_b2] at h
        refine z_iload X d_Mod_comparison_140 rfl ?_
        have e9 := Option.some.inj h
        subst e9
        exact z_iret X d_Mod_comparison_142 ⟨rfl, rfl, hM⟩
  rw [m_comparison] at h
  refine z_aload_n X d_Mod_comparison_0 rfl ?_
  obtain ⟨p1, q1, h⟩ := bd h
  refine z_callV X zG_ok (c_Mod_sum hM q1) d_Mod_comparison_1 ⟨(z_cb (n := 0) X.2.2.2.2.1 ml_Mod_167 mc_Mod_sum ini_Mod (by decide +kernel) rfl rfl ⟨Nat.le_of_ble_eq_true rfl, Nat.le_of_ble_eq_true rfl⟩), X.2.2.2.2.1 _ im_Mod_sum, X.2.2.2.2.1 _ sel_Mod_sum⟩ (hM.lo 38 (by decide)) hM.ob cl_Mod rfl rfl (Nat.le_of_ble_eq_true rfl) ⟨Nat.le_of_ble_eq_true rfl, Nat.le_of_ble_eq_true rfl⟩ (fun r N1 f1 hp hN1 => ?_)
  obtain ⟨rfl, rfl, hM⟩ := hp
  refine z_istore_n X d_Mod_comparison_4 (by decide) rfl ?_
  refine z_aload_n X d_Mod_comparison_5 rfl ?_
  refine z_get X (v := .int (p1.2.1 27)) d_Mod_comparison_6 (hM.lo 38 (by decide)) hM.ob cl_Mod in_Mod 27 (by decide) fl_Mod_128 rfl rfl ?_
  refine z_if_lt X 14 d_Mod_comparison_9 (by decide) (fun h9 => ?_) (fun h9 => ?_)
  · skip
    have h := (if_pos h9).symm.trans h
    refine z_aload_n X d_Mod_comparison_14 rfl ?_
    obtain ⟨p15, q15, h⟩ := bd h
    refine z_callV X zG_ok (c_Mod_look hM q15) d_Mod_comparison_15 ⟨(z_cb (n := 0) X.2.2.2.2.1 ml_Mod_147 mc_Mod_look ini_Mod (by decide +kernel) rfl rfl ⟨Nat.le_of_ble_eq_true rfl, Nat.le_of_ble_eq_true rfl⟩), X.2.2.2.2.1 _ im_Mod_look, X.2.2.2.2.1 _ sel_Mod_look⟩ (hM.lo 38 (by decide)) hM.ob cl_Mod rfl rfl (Nat.le_of_ble_eq_true rfl) ⟨Nat.le_of_ble_eq_true rfl, Nat.le_of_ble_eq_true rfl⟩ (fun r N1 f1 hp hN1 => ?_)
    obtain ⟨rfl, rfl, hM⟩ := hp
    refine z_istore_n X d_Mod_comparison_18 (by decide) rfl ?_
    refine z_iload_n X d_Mod_comparison_19 rfl ?_
    refine z_bipush X d_Mod_comparison_20 (v := 60) (by decide) ?_
    refine z_icmp_ne X 29 d_Mod_comparison_22 (by decide) (fun h22 => ?_) (fun h22 => ?_)
    · skip
      have h := (if_neg h22).symm.trans h
      refine z_iload_n X d_Mod_comparison_29 rfl ?_
      refine z_bipush X d_Mod_comparison_30 (v := 62) (by decide) ?_
      refine z_icmp_ne X 40 d_Mod_comparison_32 (by decide) (fun h32 => ?_) (fun h32 => ?_)
      · skip
        have h := (if_neg h32).symm.trans h
        refine z_iload_n X d_Mod_comparison_40 rfl ?_
        refine z_bipush X d_Mod_comparison_41 (v := 61) (by decide) ?_
        refine z_icmp_ne X 51 d_Mod_comparison_43 (by decide) (fun h43 => ?_) (fun h43 => ?_)
        · skip
          have h := (if_neg h43).symm.trans h
          refine z_iload_n X d_Mod_comparison_51 rfl ?_
          refine z_bipush X d_Mod_comparison_52 (v := 35) (by decide) ?_
          refine z_icmp_ne X 62 d_Mod_comparison_54 (by decide) (fun h54 => ?_) (fun h54 => ?_)
          · skip
            have h := (if_neg h54).symm.trans h
            refine z_iconst X d_Mod_comparison_62 (v := -1) (by decide) ?_
            refine zW.pick [0, 1] (lv' := [(0, .ref (A 38)), (1, .int p1.1)]) rfl ?_
            exact (L 4096).1 p1.1 0 (-1) _ _ hM h
          · skip
            have h := (if_pos h54).symm.trans h
            refine z_bipush X d_Mod_comparison_57 (v := 8) (by decide) ?_
            refine z_goto X 63 d_Mod_comparison_59 (by decide) ?_
            refine zW.pick [0, 1] (lv' := [(0, .ref (A 38)), (1, .int p1.1)]) rfl ?_
            exact (L 4096).1 p1.1 0 8 _ _ hM h
        · skip
          have h := (if_pos h43).symm.trans h
          refine z_bipush X d_Mod_comparison_46 (v := 7) (by decide) ?_
          refine z_goto X 63 d_Mod_comparison_48 (by decide) ?_
          refine zW.pick [0, 1] (lv' := [(0, .ref (A 38)), (1, .int p1.1)]) rfl ?_
          exact (L 4096).1 p1.1 0 7 _ _ hM h
      · skip
        have h := (if_pos h32).symm.trans h
        refine z_bipush X d_Mod_comparison_35 (v := 6) (by decide) ?_
        refine z_goto X 63 d_Mod_comparison_37 (by decide) ?_
        refine zW.pick [0, 1] (lv' := [(0, .ref (A 38)), (1, .int p1.1)]) rfl ?_
        exact (L 4096).1 p1.1 0 6 _ _ hM h
    · skip
      have h := (if_pos h22).symm.trans h
      refine z_iconst X d_Mod_comparison_25 (v := 5) (by decide) ?_
      refine z_goto X 63 d_Mod_comparison_26 (by decide) ?_
      refine zW.pick [0, 1] (lv' := [(0, .ref (A 38)), (1, .int p1.1)]) rfl ?_
      exact (L 4096).1 p1.1 0 5 _ _ hM h
  · skip
    have h := (if_neg h9).symm.trans h
    refine z_iconst X d_Mod_comparison_12 (v := 0) (by decide) ?_
    have e9 := Option.some.inj h
    subst e9
    exact z_iret X d_Mod_comparison_13 ⟨rfl, rfl, hM⟩
theorem d_Mod_begins_0 : decode prog_10_method_19_code 0 = .ok (.aload_n 0, 1) := by decide +kernel
theorem d_Mod_begins_1 : decode prog_10_method_19_code 1 = .ok (.invokevirtual 147, 3) := by decide +kernel
theorem d_Mod_begins_4 : decode prog_10_method_19_code 4 = .ok (.istore_n 1, 1) := by decide +kernel
theorem d_Mod_begins_5 : decode prog_10_method_19_code 5 = .ok (.iload_n 1, 1) := by decide +kernel
theorem d_Mod_begins_6 : decode prog_10_method_19_code 6 = .ok (.iconst (-1), 1) := by decide +kernel
theorem d_Mod_begins_7 : decode prog_10_method_19_code 7 = .ok (.if_icmp .ne 7, 3) := by decide +kernel
theorem d_Mod_begins_10 : decode prog_10_method_19_code 10 = .ok (.iconst 0, 1) := by decide +kernel
theorem d_Mod_begins_11 : decode prog_10_method_19_code 11 = .ok (.goto 7, 3) := by decide +kernel
theorem d_Mod_begins_14 : decode prog_10_method_19_code 14 = .ok (.aload_n 0, 1) := by decide +kernel
theorem d_Mod_begins_15 : decode prog_10_method_19_code 15 = .ok (.invokevirtual 151, 3) := by decide +kernel
theorem d_Mod_begins_18 : decode prog_10_method_19_code 18 = .ok (.istore_n 2, 1) := by decide +kernel
theorem d_Mod_begins_19 : decode prog_10_method_19_code 19 = .ok (.iload_n 1, 1) := by decide +kernel
theorem d_Mod_begins_20 : decode prog_10_method_19_code 20 = .ok (.bipush 33, 2) := by decide +kernel
theorem d_Mod_begins_22 : decode prog_10_method_19_code 22 = .ok (.if_icmp .ne 39, 3) := by decide +kernel
theorem d_Mod_begins_25 : decode prog_10_method_19_code 25 = .ok (.aload_n 0, 1) := by decide +kernel
theorem d_Mod_begins_26 : decode prog_10_method_19_code 26 = .ok (.iconst 2, 1) := by decide +kernel
theorem d_Mod_begins_27 : decode prog_10_method_19_code 27 = .ok (.aload_n 0, 1) := by decide +kernel
theorem d_Mod_begins_28 : decode prog_10_method_19_code 28 = .ok (.getfield 107, 3) := by decide +kernel
theorem d_Mod_begins_31 : decode prog_10_method_19_code 31 = .ok (.invokevirtual 158, 3) := by decide +kernel
theorem d_Mod_begins_34 : decode prog_10_method_19_code 34 = .ok (.istore_n 3, 1) := by decide +kernel
theorem d_Mod_begins_35 : decode prog_10_method_19_code 35 = .ok (.aload_n 0, 1) := by decide +kernel
theorem d_Mod_begins_36 : decode prog_10_method_19_code 36 = .ok (.aload_n 0, 1) := by decide +kernel
theorem d_Mod_begins_37 : decode prog_10_method_19_code 37 = .ok (.getfield 107, 3) := by decide +kernel
theorem d_Mod_begins_40 : decode prog_10_method_19_code 40 = .ok (.invokevirtual 170, 3) := by decide +kernel
theorem d_Mod_begins_43 : decode prog_10_method_19_code 43 = .ok (.aload_n 0, 1) := by decide +kernel
theorem d_Mod_begins_44 : decode prog_10_method_19_code 44 = .ok (.iconst 2, 1) := by decide +kernel
theorem d_Mod_begins_45 : decode prog_10_method_19_code 45 = .ok (.iload_n 3, 1) := by decide +kernel
theorem d_Mod_begins_46 : decode prog_10_method_19_code 46 = .ok (.invokevirtual 173, 3) := by decide +kernel
theorem d_Mod_begins_49 : decode prog_10_method_19_code 49 = .ok (.aload_n 0, 1) := by decide +kernel
theorem d_Mod_begins_50 : decode prog_10_method_19_code 50 = .ok (.dup, 1) := by decide +kernel
theorem d_Mod_begins_51 : decode prog_10_method_19_code 51 = .ok (.getfield 107, 3) := by decide +kernel
theorem d_Mod_begins_54 : decode prog_10_method_19_code 54 = .ok (.iconst 1, 1) := by decide +kernel
theorem d_Mod_begins_55 : decode prog_10_method_19_code 55 = .ok (.iadd, 1) := by decide +kernel
theorem d_Mod_begins_56 : decode prog_10_method_19_code 56 = .ok (.putfield 107, 3) := by decide +kernel
theorem d_Mod_begins_59 : decode prog_10_method_19_code 59 = .ok (.iconst 0, 1) := by decide +kernel
theorem d_Mod_begins_60 : decode prog_10_method_19_code 60 = .ok (.ireturn, 1) := by decide +kernel
theorem d_Mod_begins_61 : decode prog_10_method_19_code 61 = .ok (.iload_n 2, 1) := by decide +kernel
theorem d_Mod_begins_62 : decode prog_10_method_19_code 62 = .ok (.iconst 3, 1) := by decide +kernel
theorem d_Mod_begins_63 : decode prog_10_method_19_code 63 = .ok (.if_icmp .le 75, 3) := by decide +kernel
theorem d_Mod_begins_66 : decode prog_10_method_19_code 66 = .ok (.aload_n 0, 1) := by decide +kernel
theorem d_Mod_begins_67 : decode prog_10_method_19_code 67 = .ok (.iload_n 2, 1) := by decide +kernel
theorem d_Mod_begins_68 : decode prog_10_method_19_code 68 = .ok (.iconst 1, 1) := by decide +kernel
theorem d_Mod_begins_69 : decode prog_10_method_19_code 69 = .ok (.isub, 1) := by decide +kernel
theorem d_Mod_begins_70 : decode prog_10_method_19_code 70 = .ok (.aload_n 0, 1) := by decide +kernel
theorem d_Mod_begins_71 : decode prog_10_method_19_code 71 = .ok (.getfield 107, 3) := by decide +kernel
theorem d_Mod_begins_74 : decode prog_10_method_19_code 74 = .ok (.invokevirtual 158, 3) := by decide +kernel
theorem d_Mod_begins_77 : decode prog_10_method_19_code 77 = .ok (.istore_n 3, 1) := by decide +kernel
theorem d_Mod_begins_78 : decode prog_10_method_19_code 78 = .ok (.aload_n 0, 1) := by decide +kernel
theorem d_Mod_begins_79 : decode prog_10_method_19_code 79 = .ok (.aload_n 0, 1) := by decide +kernel
theorem d_Mod_begins_80 : decode prog_10_method_19_code 80 = .ok (.getfield 107, 3) := by decide +kernel
theorem d_Mod_begins_83 : decode prog_10_method_19_code 83 = .ok (.invokevirtual 170, 3) := by decide +kernel
theorem d_Mod_begins_86 : decode prog_10_method_19_code 86 = .ok (.aload_n 0, 1) := by decide +kernel
theorem d_Mod_begins_87 : decode prog_10_method_19_code 87 = .ok (.iconst 3, 1) := by decide +kernel
theorem d_Mod_begins_88 : decode prog_10_method_19_code 88 = .ok (.iload_n 3, 1) := by decide +kernel
theorem d_Mod_begins_89 : decode prog_10_method_19_code 89 = .ok (.invokevirtual 173, 3) := by decide +kernel
theorem d_Mod_begins_92 : decode prog_10_method_19_code 92 = .ok (.aload_n 0, 1) := by decide +kernel
theorem d_Mod_begins_93 : decode prog_10_method_19_code 93 = .ok (.dup, 1) := by decide +kernel
theorem d_Mod_begins_94 : decode prog_10_method_19_code 94 = .ok (.getfield 107, 3) := by decide +kernel
theorem d_Mod_begins_97 : decode prog_10_method_19_code 97 = .ok (.iconst 3, 1) := by decide +kernel
theorem d_Mod_begins_98 : decode prog_10_method_19_code 98 = .ok (.iadd, 1) := by decide +kernel
theorem d_Mod_begins_99 : decode prog_10_method_19_code 99 = .ok (.putfield 107, 3) := by decide +kernel
theorem d_Mod_begins_102 : decode prog_10_method_19_code 102 = .ok (.aload_n 0, 1) := by decide +kernel
theorem d_Mod_begins_103 : decode prog_10_method_19_code 103 = .ok (.getfield 128, 3) := by decide +kernel
theorem d_Mod_begins_106 : decode prog_10_method_19_code 106 = .ok (.ifCond .ge 20, 3) := by decide +kernel
theorem d_Mod_begins_109 : decode prog_10_method_19_code 109 = .ok (.aload_n 0, 1) := by decide +kernel
theorem d_Mod_begins_110 : decode prog_10_method_19_code 110 = .ok (.invokevirtual 147, 3) := by decide +kernel
theorem d_Mod_begins_113 : decode prog_10_method_19_code 113 = .ok (.bipush 40, 2) := by decide +kernel
theorem d_Mod_begins_115 : decode prog_10_method_19_code 115 = .ok (.if_icmp .eq 11, 3) := by decide +kernel
theorem d_Mod_begins_118 : decode prog_10_method_19_code 118 = .ok (.aload_n 0, 1) := by decide +kernel
theorem d_Mod_begins_119 : decode prog_10_method_19_code 119 = .ok (.aload_n 0, 1) := by decide +kernel
theorem d_Mod_begins_120 : decode prog_10_method_19_code 120 = .ok (.getfield 107, 3) := by decide +kernel
theorem d_Mod_begins_123 : decode prog_10_method_19_code 123 = .ok (.invokevirtual 134, 3) := by decide +kernel
theorem d_Mod_begins_126 : decode prog_10_method_19_code 126 = .ok (.aload_n 0, 1) := by decide +kernel
theorem d_Mod_begins_127 : decode prog_10_method_19_code 127 = .ok (.dup, 1) := by decide +kernel
theorem d_Mod_begins_128 : decode prog_10_method_19_code 128 = .ok (.getfield 107, 3) := by decide +kernel
theorem d_Mod_begins_131 : decode prog_10_method_19_code 131 = .ok (.iconst 1, 1) := by decide +kernel
theorem d_Mod_begins_132 : decode prog_10_method_19_code 132 = .ok (.iadd, 1) := by decide +kernel
theorem d_Mod_begins_133 : decode prog_10_method_19_code 133 = .ok (.putfield 107, 3) := by decide +kernel
theorem d_Mod_begins_136 : decode prog_10_method_19_code 136 = .ok (.iconst 0, 1) := by decide +kernel
theorem d_Mod_begins_137 : decode prog_10_method_19_code 137 = .ok (.ireturn, 1) := by decide +kernel
theorem d_Mod_begins_138 : decode prog_10_method_19_code 138 = .ok (.iload_n 1, 1) := by decide +kernel
theorem d_Mod_begins_139 : decode prog_10_method_19_code 139 = .ok (.bipush 40, 2) := by decide +kernel
theorem d_Mod_begins_141 : decode prog_10_method_19_code 141 = .ok (.if_icmp .eq 5, 3) := by decide +kernel
theorem d_Mod_begins_144 : decode prog_10_method_19_code 144 = .ok (.iconst 1, 1) := by decide +kernel
theorem d_Mod_begins_145 : decode prog_10_method_19_code 145 = .ok (.ireturn, 1) := by decide +kernel
theorem d_Mod_begins_146 : decode prog_10_method_19_code 146 = .ok (.aload_n 0, 1) := by decide +kernel
theorem d_Mod_begins_147 : decode prog_10_method_19_code 147 = .ok (.aload_n 0, 1) := by decide +kernel
theorem d_Mod_begins_148 : decode prog_10_method_19_code 148 = .ok (.getfield 107, 3) := by decide +kernel
theorem d_Mod_begins_151 : decode prog_10_method_19_code 151 = .ok (.invokevirtual 170, 3) := by decide +kernel
theorem d_Mod_begins_154 : decode prog_10_method_19_code 154 = .ok (.aload_n 0, 1) := by decide +kernel
theorem d_Mod_begins_155 : decode prog_10_method_19_code 155 = .ok (.iconst 4, 1) := by decide +kernel
theorem d_Mod_begins_156 : decode prog_10_method_19_code 156 = .ok (.iconst (-1), 1) := by decide +kernel
theorem d_Mod_begins_157 : decode prog_10_method_19_code 157 = .ok (.invokevirtual 173, 3) := by decide +kernel
theorem d_Mod_begins_160 : decode prog_10_method_19_code 160 = .ok (.aload_n 0, 1) := by decide +kernel
theorem d_Mod_begins_161 : decode prog_10_method_19_code 161 = .ok (.dup, 1) := by decide +kernel
theorem d_Mod_begins_162 : decode prog_10_method_19_code 162 = .ok (.getfield 107, 3) := by decide +kernel
theorem d_Mod_begins_165 : decode prog_10_method_19_code 165 = .ok (.iconst 1, 1) := by decide +kernel
theorem d_Mod_begins_166 : decode prog_10_method_19_code 166 = .ok (.iadd, 1) := by decide +kernel
theorem d_Mod_begins_167 : decode prog_10_method_19_code 167 = .ok (.putfield 107, 3) := by decide +kernel
theorem d_Mod_begins_170 : decode prog_10_method_19_code 170 = .ok (.iconst 0, 1) := by decide +kernel
theorem d_Mod_begins_171 : decode prog_10_method_19_code 171 = .ok (.ireturn, 1) := by decide +kernel
def m_begins (μ : MS) : Option (Int32 × MS) := (m_look μ).bind (fun p1 => (if p1.1 = (-1) then (if p1.1 = 33 then (m_node 2 (p1.2.1 25) p1.2).bind (fun p31 => (m_enter (p31.2.1 25) p31.2).bind (fun p40 => (m_push 2 p31.1 p40).bind (fun p46 => some (0, (sI 25 ((p46.1 25) + 1) p46))))) else (if p1.1 = 40 then (m_enter (p1.2.1 25) p1.2).bind (fun p151 => (m_push 4 (-1) p151).bind (fun p157 => some (0, (sI 25 ((p157.1 25) + 1) p157)))) else some (1, p1.2))) else (m_word p1.2).bind (fun p15 => (if p1.1 = 33 then (m_node 2 (p15.2.1 25) p15.2).bind (fun p31 => (m_enter (p31.2.1 25) p31.2).bind (fun p40 => (m_push 2 p31.1 p40).bind (fun p46 => some (0, (sI 25 ((p46.1 25) + 1) p46))))) else (if p15.1 ≤ 3 then (if p1.1 = 40 then (m_enter (p15.2.1 25) p15.2).bind (fun p151 => (m_push 4 (-1) p151).bind (fun p157 => some (0, (sI 25 ((p157.1 25) + 1) p157)))) else some (1, p15.2)) else (m_node (p15.1 - 1) (p15.2.1 25) p15.2).bind (fun p74 => (m_enter (p74.2.1 25) p74.2).bind (fun p83 => (m_push 3 p74.1 p83).bind (fun p89 => (if 0 ≤ (p89.1 27) then some (0, (sI 25 (((p89.1 25) + 3) + 1) (sI 25 ((p89.1 25) + 3) p89))) else (m_look (sI 25 ((p89.1 25) + 3) p89)).bind (fun p110 => (if p110.1 = 40 then some (0, (sI 25 ((p110.2.1 25) + 1) p110.2)) else (m_fail (p110.2.1 25) p110.2).bind (fun p123 => some (0, (sI 25 ((p123.1 25) + 1) p123))))))))))))))
set_option maxHeartbeats 4000000 in
set_option maxRecDepth 100000 in
theorem c_Mod_begins {A : Nat → Nat} {f0 : Nat → va_E} {μ : MS} {res : (Int32 × MS)} (hM : zMf ck b0 N A f0 f μ) (h : m_begins μ = some res) : zK l D ck ad b0 y_Mod_begins prog_10_method_19_code 4 ((some FieldType.boolean)) 3 0 0 [.ref (A 38)] N f (fun r N' f' => r = some (.int res.1) ∧ N = N' ∧ zMf ck b0 N A f0 f' res.2) := by
  refine zM.of zG_w (by decide) (Nat.le_of_ble_eq_true rfl) ?_
  intro zp ze zst zm zar zbe zme zc X hnm hb0
  rw [m_begins] at h
  refine z_aload_n X d_Mod_begins_0 rfl ?_
  obtain ⟨p1, q1, h⟩ := bd h
  refine z_callV X zG_ok (c_Mod_look hM q1) d_Mod_begins_1 ⟨(z_cb (n := 0) X.2.2.2.2.1 ml_Mod_147 mc_Mod_look ini_Mod (by decide +kernel) rfl rfl ⟨Nat.le_of_ble_eq_true rfl, Nat.le_of_ble_eq_true rfl⟩), X.2.2.2.2.1 _ im_Mod_look, X.2.2.2.2.1 _ sel_Mod_look⟩ (hM.lo 38 (by decide)) hM.ob cl_Mod rfl rfl (Nat.le_of_ble_eq_true rfl) ⟨Nat.le_of_ble_eq_true rfl, Nat.le_of_ble_eq_true rfl⟩ (fun r N1 f1 hp hN1 => ?_)
  obtain ⟨rfl, rfl, hM⟩ := hp
  refine z_istore_n X d_Mod_begins_4 (by decide) rfl ?_
  refine z_iload_n X d_Mod_begins_5 rfl ?_
  refine z_iconst X d_Mod_begins_6 (v := -1) (by decide) ?_
  refine z_icmp_ne X 14 d_Mod_begins_7 (by decide) (fun h7 => ?_) (fun h7 => ?_)
  · skip
    have h := (if_neg h7).symm.trans h
    refine z_aload_n X d_Mod_begins_14 rfl ?_
    obtain ⟨p15, q15, h⟩ := bd h
    refine z_callV X zG_ok (c_Mod_word hM q15) d_Mod_begins_15 ⟨(z_cb (n := 0) X.2.2.2.2.1 ml_Mod_151 mc_Mod_word ini_Mod (by decide +kernel) rfl rfl ⟨Nat.le_of_ble_eq_true rfl, Nat.le_of_ble_eq_true rfl⟩), X.2.2.2.2.1 _ im_Mod_word, X.2.2.2.2.1 _ sel_Mod_word⟩ (hM.lo 38 (by decide)) hM.ob cl_Mod rfl rfl (Nat.le_of_ble_eq_true rfl) ⟨Nat.le_of_ble_eq_true rfl, Nat.le_of_ble_eq_true rfl⟩ (fun r N1 f1 hp hN1 => ?_)
    obtain ⟨rfl, rfl, hM⟩ := hp
    refine z_istore_n X d_Mod_begins_18 (by decide) rfl ?_
    refine z_iload_n X d_Mod_begins_19 rfl ?_
    refine z_bipush X d_Mod_begins_20 (v := 33) (by decide) ?_
    refine z_icmp_ne X 61 d_Mod_begins_22 (by decide) (fun h22 => ?_) (fun h22 => ?_)
    · skip
      have h := (if_neg h22).symm.trans h
      refine z_iload_n X d_Mod_begins_61 rfl ?_
      refine z_iconst X d_Mod_begins_62 (v := 3) (by decide) ?_
      refine z_icmp_le X 138 d_Mod_begins_63 (by decide) (fun h63 => ?_) (fun h63 => ?_)
      · skip
        have h := (if_pos h63).symm.trans h
        refine z_iload_n X d_Mod_begins_138 rfl ?_
        refine z_bipush X d_Mod_begins_139 (v := 40) (by decide) ?_
        refine z_icmp_eq X 146 d_Mod_begins_141 (by decide) (fun h141 => ?_) (fun h141 => ?_)
        · skip
          have h := (if_pos h141).symm.trans h
          refine z_aload_n X d_Mod_begins_146 rfl ?_
          refine z_aload_n X d_Mod_begins_147 rfl ?_
          refine z_get X (v := .int (p15.2.1 25)) d_Mod_begins_148 (hM.lo 38 (by decide)) hM.ob cl_Mod in_Mod 25 (by decide) fl_Mod_107 rfl rfl ?_
          obtain ⟨p151, q151, h⟩ := bd h
          refine z_callV X zG_ok (c_Mod_enter hM q151) d_Mod_begins_151 ⟨(z_cb (n := 1) X.2.2.2.2.1 ml_Mod_170 mc_Mod_enter ini_Mod (by decide +kernel) rfl rfl ⟨Nat.le_of_ble_eq_true rfl, Nat.le_of_ble_eq_true rfl⟩), X.2.2.2.2.1 _ im_Mod_enter, X.2.2.2.2.1 _ sel_Mod_enter⟩ (hM.lo 38 (by decide)) hM.ob cl_Mod rfl rfl (Nat.le_of_ble_eq_true rfl) ⟨Nat.le_of_ble_eq_true rfl, Nat.le_of_ble_eq_true rfl⟩ (fun r N1 f1 hp hN1 => ?_)
          obtain ⟨rfl, rfl, hM⟩ := hp
          refine z_aload_n X d_Mod_begins_154 rfl ?_
          refine z_iconst X d_Mod_begins_155 (v := 4) (by decide) ?_
          refine z_iconst X d_Mod_begins_156 (v := -1) (by decide) ?_
          obtain ⟨p157, q157, h⟩ := bd h
          refine z_callV X zG_ok (c_Mod_push hM q157) d_Mod_begins_157 ⟨(z_cb (n := 2) X.2.2.2.2.1 ml_Mod_173 mc_Mod_push ini_Mod (by decide +kernel) rfl rfl ⟨Nat.le_of_ble_eq_true rfl, Nat.le_of_ble_eq_true rfl⟩), X.2.2.2.2.1 _ im_Mod_push, X.2.2.2.2.1 _ sel_Mod_push⟩ (hM.lo 38 (by decide)) hM.ob cl_Mod rfl rfl (Nat.le_of_ble_eq_true rfl) ⟨Nat.le_of_ble_eq_true rfl, Nat.le_of_ble_eq_true rfl⟩ (fun r N1 f1 hp hN1 => ?_)
          obtain ⟨rfl, rfl, hM⟩ := hp
          refine z_aload_n X d_Mod_begins_160 rfl ?_
          refine z_dup X d_Mod_begins_161 rfl ?_
          refine z_get X (v := .int (p157.1 25)) d_Mod_begins_162 (hM.lo 38 (by decide)) hM.ob cl_Mod in_Mod 25 (by decide) fl_Mod_107 rfl rfl ?_
          refine z_iconst X d_Mod_begins_165 (v := 1) (by decide) ?_
          refine z_iadd X d_Mod_begins_166 ?_
          refine z_putM X t_Mod ty_Mod n_Mod d_Mod_begins_167 hM cl_Mod in_Mod 25 (by decide) fl_Mod_107 rfl rfl rfl (by decide) rfl (fun hM => ?_)
          refine z_iconst X d_Mod_begins_170 (v := 0) (by decide) ?_
          have e9 := Option.some.inj h
          subst e9
          exact z_zret X d_Mod_begins_171 rfl ⟨rfl, rfl, hM⟩
        · skip
          have h := (if_neg h141).symm.trans h
          refine z_iconst X d_Mod_begins_144 (v := 1) (by decide) ?_
          have e9 := Option.some.inj h
          subst e9
          exact z_zret X d_Mod_begins_145 rfl ⟨rfl, rfl, hM⟩
      · skip
        have h := (if_neg h63).symm.trans h
        refine z_aload_n X d_Mod_begins_66 rfl ?_
        refine z_iload_n X d_Mod_begins_67 rfl ?_
        refine z_iconst X d_Mod_begins_68 (v := 1) (by decide) ?_
        refine z_isub X d_Mod_begins_69 ?_
        refine z_aload_n X d_Mod_begins_70 rfl ?_
        refine z_get X (v := .int (p15.2.1 25)) d_Mod_begins_71 (hM.lo 38 (by decide)) hM.ob cl_Mod in_Mod 25 (by decide) fl_Mod_107 rfl rfl ?_
        obtain ⟨p74, q74, h⟩ := bd h
        refine z_callV X zG_ok (c_Mod_node hM q74) d_Mod_begins_74 ⟨(z_cb (n := 2) X.2.2.2.2.1 ml_Mod_158 mc_Mod_node ini_Mod (by decide +kernel) rfl rfl ⟨Nat.le_of_ble_eq_true rfl, Nat.le_of_ble_eq_true rfl⟩), X.2.2.2.2.1 _ im_Mod_node, X.2.2.2.2.1 _ sel_Mod_node⟩ (hM.lo 38 (by decide)) hM.ob cl_Mod rfl rfl (Nat.le_of_ble_eq_true rfl) ⟨Nat.le_of_ble_eq_true rfl, Nat.le_of_ble_eq_true rfl⟩ (fun r N1 f1 hp hN1 => ?_)
        obtain ⟨rfl, rfl, hM⟩ := hp
        refine z_istore_n X d_Mod_begins_77 (by decide) rfl ?_
        refine z_aload_n X d_Mod_begins_78 rfl ?_
        refine z_aload_n X d_Mod_begins_79 rfl ?_
        refine z_get X (v := .int (p74.2.1 25)) d_Mod_begins_80 (hM.lo 38 (by decide)) hM.ob cl_Mod in_Mod 25 (by decide) fl_Mod_107 rfl rfl ?_
        obtain ⟨p83, q83, h⟩ := bd h
        refine z_callV X zG_ok (c_Mod_enter hM q83) d_Mod_begins_83 ⟨(z_cb (n := 1) X.2.2.2.2.1 ml_Mod_170 mc_Mod_enter ini_Mod (by decide +kernel) rfl rfl ⟨Nat.le_of_ble_eq_true rfl, Nat.le_of_ble_eq_true rfl⟩), X.2.2.2.2.1 _ im_Mod_enter, X.2.2.2.2.1 _ sel_Mod_enter⟩ (hM.lo 38 (by decide)) hM.ob cl_Mod rfl rfl (Nat.le_of_ble_eq_true rfl) ⟨Nat.le_of_ble_eq_true rfl, Nat.le_of_ble_eq_true rfl⟩ (fun r N1 f1 hp hN1 => ?_)
        obtain ⟨rfl, rfl, hM⟩ := hp
        refine z_aload_n X d_Mod_begins_86 rfl ?_
        refine z_iconst X d_Mod_begins_87 (v := 3) (by decide) ?_
        refine z_iload_n X d_Mod_begins_88 rfl ?_
        obtain ⟨p89, q89, h⟩ := bd h
        refine z_callV X zG_ok (c_Mod_push hM q89) d_Mod_begins_89 ⟨(z_cb (n := 2) X.2.2.2.2.1 ml_Mod_173 mc_Mod_push ini_Mod (by decide +kernel) rfl rfl ⟨Nat.le_of_ble_eq_true rfl, Nat.le_of_ble_eq_true rfl⟩), X.2.2.2.2.1 _ im_Mod_push, X.2.2.2.2.1 _ sel_Mod_push⟩ (hM.lo 38 (by decide)) hM.ob cl_Mod rfl rfl (Nat.le_of_ble_eq_true rfl) ⟨Nat.le_of_ble_eq_true rfl, Nat.le_of_ble_eq_true rfl⟩ (fun r N1 f1 hp hN1 => ?_)
        obtain ⟨rfl, rfl, hM⟩ := hp
        refine z_aload_n X d_Mod_begins_92 rfl ?_
        refine z_dup X d_Mod_begins_93 rfl ?_
        refine z_get X (v := .int (p89.1 25)) d_Mod_begins_94 (hM.lo 38 (by decide)) hM.ob cl_Mod in_Mod 25 (by decide) fl_Mod_107 rfl rfl ?_
        refine z_iconst X d_Mod_begins_97 (v := 3) (by decide) ?_
        refine z_iadd X d_Mod_begins_98 ?_
        refine z_putM X t_Mod ty_Mod n_Mod d_Mod_begins_99 hM cl_Mod in_Mod 25 (by decide) fl_Mod_107 rfl rfl rfl (by decide) rfl (fun hM => ?_)
        refine z_aload_n X d_Mod_begins_102 rfl ?_
        refine z_get X (v := .int (p89.1 27)) d_Mod_begins_103 (hM.lo 38 (by decide)) hM.ob cl_Mod in_Mod 27 (by decide) fl_Mod_128 rfl rfl ?_
        refine z_if_ge X 126 d_Mod_begins_106 (by decide) (fun h106 => ?_) (fun h106 => ?_)
        · skip
          have h := (if_pos h106).symm.trans h
          refine z_aload_n X d_Mod_begins_126 rfl ?_
          refine z_dup X d_Mod_begins_127 rfl ?_
          refine z_get X (v := .int ((p89.1 25) + 3)) d_Mod_begins_128 (hM.lo 38 (by decide)) hM.ob cl_Mod in_Mod 25 (by decide) fl_Mod_107 rfl rfl ?_
          refine z_iconst X d_Mod_begins_131 (v := 1) (by decide) ?_
          refine z_iadd X d_Mod_begins_132 ?_
          refine z_putM X t_Mod ty_Mod n_Mod d_Mod_begins_133 hM cl_Mod in_Mod 25 (by decide) fl_Mod_107 rfl rfl rfl (by decide) rfl (fun hM => ?_)
          refine z_iconst X d_Mod_begins_136 (v := 0) (by decide) ?_
          have e9 := Option.some.inj h
          subst e9
          exact z_zret X d_Mod_begins_137 rfl ⟨rfl, rfl, hM⟩
        · skip
          have h := (if_neg h106).symm.trans h
          refine z_aload_n X d_Mod_begins_109 rfl ?_
          obtain ⟨p110, q110, h⟩ := bd h
          refine z_callV X zG_ok (c_Mod_look hM q110) d_Mod_begins_110 ⟨(z_cb (n := 0) X.2.2.2.2.1 ml_Mod_147 mc_Mod_look ini_Mod (by decide +kernel) rfl rfl ⟨Nat.le_of_ble_eq_true rfl, Nat.le_of_ble_eq_true rfl⟩), X.2.2.2.2.1 _ im_Mod_look, X.2.2.2.2.1 _ sel_Mod_look⟩ (hM.lo 38 (by decide)) hM.ob cl_Mod rfl rfl (Nat.le_of_ble_eq_true rfl) ⟨Nat.le_of_ble_eq_true rfl, Nat.le_of_ble_eq_true rfl⟩ (fun r N1 f1 hp hN1 => ?_)
          obtain ⟨rfl, rfl, hM⟩ := hp
          refine z_bipush X d_Mod_begins_113 (v := 40) (by decide) ?_
          refine z_icmp_eq X 126 d_Mod_begins_115 (by decide) (fun h115 => ?_) (fun h115 => ?_)
          · skip
            have h := (if_pos h115).symm.trans h
            refine z_aload_n X d_Mod_begins_126 rfl ?_
            refine z_dup X d_Mod_begins_127 rfl ?_
            refine z_get X (v := .int (p110.2.1 25)) d_Mod_begins_128 (hM.lo 38 (by decide)) hM.ob cl_Mod in_Mod 25 (by decide) fl_Mod_107 rfl rfl ?_
            refine z_iconst X d_Mod_begins_131 (v := 1) (by decide) ?_
            refine z_iadd X d_Mod_begins_132 ?_
            refine z_putM X t_Mod ty_Mod n_Mod d_Mod_begins_133 hM cl_Mod in_Mod 25 (by decide) fl_Mod_107 rfl rfl rfl (by decide) rfl (fun hM => ?_)
            refine z_iconst X d_Mod_begins_136 (v := 0) (by decide) ?_
            have e9 := Option.some.inj h
            subst e9
            exact z_zret X d_Mod_begins_137 rfl ⟨rfl, rfl, hM⟩
          · skip
            have h := (if_neg h115).symm.trans h
            refine z_aload_n X d_Mod_begins_118 rfl ?_
            refine z_aload_n X d_Mod_begins_119 rfl ?_
            refine z_get X (v := .int (p110.2.1 25)) d_Mod_begins_120 (hM.lo 38 (by decide)) hM.ob cl_Mod in_Mod 25 (by decide) fl_Mod_107 rfl rfl ?_
            obtain ⟨p123, q123, h⟩ := bd h
            refine z_callV X zG_ok (c_Mod_fail hM q123) d_Mod_begins_123 ⟨(z_cb (n := 1) X.2.2.2.2.1 ml_Mod_134 mc_Mod_fail ini_Mod (by decide +kernel) rfl rfl ⟨Nat.le_of_ble_eq_true rfl, Nat.le_of_ble_eq_true rfl⟩), X.2.2.2.2.1 _ im_Mod_fail, X.2.2.2.2.1 _ sel_Mod_fail⟩ (hM.lo 38 (by decide)) hM.ob cl_Mod rfl rfl (Nat.le_of_ble_eq_true rfl) ⟨Nat.le_of_ble_eq_true rfl, Nat.le_of_ble_eq_true rfl⟩ (fun r N1 f1 hp hN1 => ?_)
            obtain ⟨rfl, rfl, hM⟩ := hp
            refine z_aload_n X d_Mod_begins_126 rfl ?_
            refine z_dup X d_Mod_begins_127 rfl ?_
            refine z_get X (v := .int (p123.1 25)) d_Mod_begins_128 (hM.lo 38 (by decide)) hM.ob cl_Mod in_Mod 25 (by decide) fl_Mod_107 rfl rfl ?_
            refine z_iconst X d_Mod_begins_131 (v := 1) (by decide) ?_
            refine z_iadd X d_Mod_begins_132 ?_
            refine z_putM X t_Mod ty_Mod n_Mod d_Mod_begins_133 hM cl_Mod in_Mod 25 (by decide) fl_Mod_107 rfl rfl rfl (by decide) rfl (fun hM => ?_)
            refine z_iconst X d_Mod_begins_136 (v := 0) (by decide) ?_
            have e9 := Option.some.inj h
            subst e9
            exact z_zret X d_Mod_begins_137 rfl ⟨rfl, rfl, hM⟩
    · skip
      have h := (if_pos h22).symm.trans h
      refine z_aload_n X d_Mod_begins_25 rfl ?_
      refine z_iconst X d_Mod_begins_26 (v := 2) (by decide) ?_
      refine z_aload_n X d_Mod_begins_27 rfl ?_
      refine z_get X (v := .int (p15.2.1 25)) d_Mod_begins_28 (hM.lo 38 (by decide)) hM.ob cl_Mod in_Mod 25 (by decide) fl_Mod_107 rfl rfl ?_
      obtain ⟨p31, q31, h⟩ := bd h
      refine z_callV X zG_ok (c_Mod_node hM q31) d_Mod_begins_31 ⟨(z_cb (n := 2) X.2.2.2.2.1 ml_Mod_158 mc_Mod_node ini_Mod (by decide +kernel) rfl rfl ⟨Nat.le_of_ble_eq_true rfl, Nat.le_of_ble_eq_true rfl⟩), X.2.2.2.2.1 _ im_Mod_node, X.2.2.2.2.1 _ sel_Mod_node⟩ (hM.lo 38 (by decide)) hM.ob cl_Mod rfl rfl (Nat.le_of_ble_eq_true rfl) ⟨Nat.le_of_ble_eq_true rfl, Nat.le_of_ble_eq_true rfl⟩ (fun r N1 f1 hp hN1 => ?_)
      obtain ⟨rfl, rfl, hM⟩ := hp
      refine z_istore_n X d_Mod_begins_34 (by decide) rfl ?_
      refine z_aload_n X d_Mod_begins_35 rfl ?_
      refine z_aload_n X d_Mod_begins_36 rfl ?_
      refine z_get X (v := .int (p31.2.1 25)) d_Mod_begins_37 (hM.lo 38 (by decide)) hM.ob cl_Mod in_Mod 25 (by decide) fl_Mod_107 rfl rfl ?_
      obtain ⟨p40, q40, h⟩ := bd h
      refine z_callV X zG_ok (c_Mod_enter hM q40) d_Mod_begins_40 ⟨(z_cb (n := 1) X.2.2.2.2.1 ml_Mod_170 mc_Mod_enter ini_Mod (by decide +kernel) rfl rfl ⟨Nat.le_of_ble_eq_true rfl, Nat.le_of_ble_eq_true rfl⟩), X.2.2.2.2.1 _ im_Mod_enter, X.2.2.2.2.1 _ sel_Mod_enter⟩ (hM.lo 38 (by decide)) hM.ob cl_Mod rfl rfl (Nat.le_of_ble_eq_true rfl) ⟨Nat.le_of_ble_eq_true rfl, Nat.le_of_ble_eq_true rfl⟩ (fun r N1 f1 hp hN1 => ?_)
      obtain ⟨rfl, rfl, hM⟩ := hp
      refine z_aload_n X d_Mod_begins_43 rfl ?_
      refine z_iconst X d_Mod_begins_44 (v := 2) (by decide) ?_
      refine z_iload_n X d_Mod_begins_45 rfl ?_
      obtain ⟨p46, q46, h⟩ := bd h
      refine z_callV X zG_ok (c_Mod_push hM q46) d_Mod_begins_46 ⟨(z_cb (n := 2) X.2.2.2.2.1 ml_Mod_173 mc_Mod_push ini_Mod (by decide +kernel) rfl rfl ⟨Nat.le_of_ble_eq_true rfl, Nat.le_of_ble_eq_true rfl⟩), X.2.2.2.2.1 _ im_Mod_push, X.2.2.2.2.1 _ sel_Mod_push⟩ (hM.lo 38 (by decide)) hM.ob cl_Mod rfl rfl (Nat.le_of_ble_eq_true rfl) ⟨Nat.le_of_ble_eq_true rfl, Nat.le_of_ble_eq_true rfl⟩ (fun r N1 f1 hp hN1 => ?_)
      obtain ⟨rfl, rfl, hM⟩ := hp
      refine z_aload_n X d_Mod_begins_49 rfl ?_
      refine z_dup X d_Mod_begins_50 rfl ?_
      refine z_get X (v := .int (p46.1 25)) d_Mod_begins_51 (hM.lo 38 (by decide)) hM.ob cl_Mod in_Mod 25 (by decide) fl_Mod_107 rfl rfl ?_
      refine z_iconst X d_Mod_begins_54 (v := 1) (by decide) ?_
      refine z_iadd X d_Mod_begins_55 ?_
      refine z_putM X t_Mod ty_Mod n_Mod d_Mod_begins_56 hM cl_Mod in_Mod 25 (by decide) fl_Mod_107 rfl rfl rfl (by decide) rfl (fun hM => ?_)
      refine z_iconst X d_Mod_begins_59 (v := 0) (by decide) ?_
      have e9 := Option.some.inj h
      subst e9
      exact z_zret X d_Mod_begins_60 rfl ⟨rfl, rfl, hM⟩
  · skip
    have h := (if_pos h7).symm.trans h
    refine z_iconst X d_Mod_begins_10 (v := 0) (by decide) ?_
    refine z_goto X 18 d_Mod_begins_11 (by decide) ?_
    refine z_istore_n X d_Mod_begins_18 (by decide) rfl ?_
    refine z_iload_n X d_Mod_begins_19 rfl ?_
    refine z_bipush X d_Mod_begins_20 (v := 33) (by decide) ?_
    refine z_icmp_ne X 61 d_Mod_begins_22 (by decide) (fun h22 => ?_) (fun h22 => ?_)
    · skip
      have h := (if_neg h22).symm.trans h
      refine z_iload_n X d_Mod_begins_61 rfl ?_
      refine z_iconst X d_Mod_begins_62 (v := 3) (by decide) ?_
      refine z_icmp_le X 138 d_Mod_begins_63 (by decide) (fun h63 => ?_) (fun h63 => ?_)
      · skip
        refine z_iload_n X d_Mod_begins_138 rfl ?_
        refine z_bipush X d_Mod_begins_139 (v := 40) (by decide) ?_
        refine z_icmp_eq X 146 d_Mod_begins_141 (by decide) (fun h141 => ?_) (fun h141 => ?_)
        · skip
          have h := (if_pos h141).symm.trans h
          refine z_aload_n X d_Mod_begins_146 rfl ?_
          refine z_aload_n X d_Mod_begins_147 rfl ?_
          refine z_get X (v := .int (p1.2.1 25)) d_Mod_begins_148 (hM.lo 38 (by decide)) hM.ob cl_Mod in_Mod 25 (by decide) fl_Mod_107 rfl rfl ?_
          obtain ⟨p151, q151, h⟩ := bd h
          refine z_callV X zG_ok (c_Mod_enter hM q151) d_Mod_begins_151 ⟨(z_cb (n := 1) X.2.2.2.2.1 ml_Mod_170 mc_Mod_enter ini_Mod (by decide +kernel) rfl rfl ⟨Nat.le_of_ble_eq_true rfl, Nat.le_of_ble_eq_true rfl⟩), X.2.2.2.2.1 _ im_Mod_enter, X.2.2.2.2.1 _ sel_Mod_enter⟩ (hM.lo 38 (by decide)) hM.ob cl_Mod rfl rfl (Nat.le_of_ble_eq_true rfl) ⟨Nat.le_of_ble_eq_true rfl, Nat.le_of_ble_eq_true rfl⟩ (fun r N1 f1 hp hN1 => ?_)
          obtain ⟨rfl, rfl, hM⟩ := hp
          refine z_aload_n X d_Mod_begins_154 rfl ?_
          refine z_iconst X d_Mod_begins_155 (v := 4) (by decide) ?_
          refine z_iconst X d_Mod_begins_156 (v := -1) (by decide) ?_
          obtain ⟨p157, q157, h⟩ := bd h
          refine z_callV X zG_ok (c_Mod_push hM q157) d_Mod_begins_157 ⟨(z_cb (n := 2) X.2.2.2.2.1 ml_Mod_173 mc_Mod_push ini_Mod (by decide +kernel) rfl rfl ⟨Nat.le_of_ble_eq_true rfl, Nat.le_of_ble_eq_true rfl⟩), X.2.2.2.2.1 _ im_Mod_push, X.2.2.2.2.1 _ sel_Mod_push⟩ (hM.lo 38 (by decide)) hM.ob cl_Mod rfl rfl (Nat.le_of_ble_eq_true rfl) ⟨Nat.le_of_ble_eq_true rfl, Nat.le_of_ble_eq_true rfl⟩ (fun r N1 f1 hp hN1 => ?_)
          obtain ⟨rfl, rfl, hM⟩ := hp
          refine z_aload_n X d_Mod_begins_160 rfl ?_
          refine z_dup X d_Mod_begins_161 rfl ?_
          refine z_get X (v := .int (p157.1 25)) d_Mod_begins_162 (hM.lo 38 (by decide)) hM.ob cl_Mod in_Mod 25 (by decide) fl_Mod_107 rfl rfl ?_
          refine z_iconst X d_Mod_begins_165 (v := 1) (by decide) ?_
          refine z_iadd X d_Mod_begins_166 ?_
          refine z_putM X t_Mod ty_Mod n_Mod d_Mod_begins_167 hM cl_Mod in_Mod 25 (by decide) fl_Mod_107 rfl rfl rfl (by decide) rfl (fun hM => ?_)
          refine z_iconst X d_Mod_begins_170 (v := 0) (by decide) ?_
          have e9 := Option.some.inj h
          subst e9
          exact z_zret X d_Mod_begins_171 rfl ⟨rfl, rfl, hM⟩
        · skip
          have h := (if_neg h141).symm.trans h
          refine z_iconst X d_Mod_begins_144 (v := 1) (by decide) ?_
          have e9 := Option.some.inj h
          subst e9
          exact z_zret X d_Mod_begins_145 rfl ⟨rfl, rfl, hM⟩
      · skip
        exact absurd h63 (by decide)
    · skip
      have h := (if_pos h22).symm.trans h
      refine z_aload_n X d_Mod_begins_25 rfl ?_
      refine z_iconst X d_Mod_begins_26 (v := 2) (by decide) ?_
      refine z_aload_n X d_Mod_begins_27 rfl ?_
      refine z_get X (v := .int (p1.2.1 25)) d_Mod_begins_28 (hM.lo 38 (by decide)) hM.ob cl_Mod in_Mod 25 (by decide) fl_Mod_107 rfl rfl ?_
      obtain ⟨p31, q31, h⟩ := bd h
      refine z_callV X zG_ok (c_Mod_node hM q31) d_Mod_begins_31 ⟨(z_cb (n := 2) X.2.2.2.2.1 ml_Mod_158 mc_Mod_node ini_Mod (by decide +kernel) rfl rfl ⟨Nat.le_of_ble_eq_true rfl, Nat.le_of_ble_eq_true rfl⟩), X.2.2.2.2.1 _ im_Mod_node, X.2.2.2.2.1 _ sel_Mod_node⟩ (hM.lo 38 (by decide)) hM.ob cl_Mod rfl rfl (Nat.le_of_ble_eq_true rfl) ⟨Nat.le_of_ble_eq_true rfl, Nat.le_of_ble_eq_true rfl⟩ (fun r N1 f1 hp hN1 => ?_)
      obtain ⟨rfl, rfl, hM⟩ := hp
      refine z_istore_n X d_Mod_begins_34 (by decide) rfl ?_
      refine z_aload_n X d_Mod_begins_35 rfl ?_
      refine z_aload_n X d_Mod_begins_36 rfl ?_
      refine z_get X (v := .int (p31.2.1 25)) d_Mod_begins_37 (hM.lo 38 (by decide)) hM.ob cl_Mod in_Mod 25 (by decide) fl_Mod_107 rfl rfl ?_
      obtain ⟨p40, q40, h⟩ := bd h
      refine z_callV X zG_ok (c_Mod_enter hM q40) d_Mod_begins_40 ⟨(z_cb (n := 1) X.2.2.2.2.1 ml_Mod_170 mc_Mod_enter ini_Mod (by decide +kernel) rfl rfl ⟨Nat.le_of_ble_eq_true rfl, Nat.le_of_ble_eq_true rfl⟩), X.2.2.2.2.1 _ im_Mod_enter, X.2.2.2.2.1 _ sel_Mod_enter⟩ (hM.lo 38 (by decide)) hM.ob cl_Mod rfl rfl (Nat.le_of_ble_eq_true rfl) ⟨Nat.le_of_ble_eq_true rfl, Nat.le_of_ble_eq_true rfl⟩ (fun r N1 f1 hp hN1 => ?_)
      obtain ⟨rfl, rfl, hM⟩ := hp
      refine z_aload_n X d_Mod_begins_43 rfl ?_
      refine z_iconst X d_Mod_begins_44 (v := 2) (by decide) ?_
      refine z_iload_n X d_Mod_begins_45 rfl ?_
      obtain ⟨p46, q46, h⟩ := bd h
      refine z_callV X zG_ok (c_Mod_push hM q46) d_Mod_begins_46 ⟨(z_cb (n := 2) X.2.2.2.2.1 ml_Mod_173 mc_Mod_push ini_Mod (by decide +kernel) rfl rfl ⟨Nat.le_of_ble_eq_true rfl, Nat.le_of_ble_eq_true rfl⟩), X.2.2.2.2.1 _ im_Mod_push, X.2.2.2.2.1 _ sel_Mod_push⟩ (hM.lo 38 (by decide)) hM.ob cl_Mod rfl rfl (Nat.le_of_ble_eq_true rfl) ⟨Nat.le_of_ble_eq_true rfl, Nat.le_of_ble_eq_true rfl⟩ (fun r N1 f1 hp hN1 => ?_)
      obtain ⟨rfl, rfl, hM⟩ := hp
      refine z_aload_n X d_Mod_begins_49 rfl ?_
      refine z_dup X d_Mod_begins_50 rfl ?_
      refine z_get X (v := .int (p46.1 25)) d_Mod_begins_51 (hM.lo 38 (by decide)) hM.ob cl_Mod in_Mod 25 (by decide) fl_Mod_107 rfl rfl ?_
      refine z_iconst X d_Mod_begins_54 (v := 1) (by decide) ?_
      refine z_iadd X d_Mod_begins_55 ?_
      refine z_putM X t_Mod ty_Mod n_Mod d_Mod_begins_56 hM cl_Mod in_Mod 25 (by decide) fl_Mod_107 rfl rfl rfl (by decide) rfl (fun hM => ?_)
      refine z_iconst X d_Mod_begins_59 (v := 0) (by decide) ?_
      have e9 := Option.some.inj h
      subst e9
      exact z_zret X d_Mod_begins_60 rfl ⟨rfl, rfl, hM⟩
theorem d_Mod_taken_0 : decode prog_10_method_20_code 0 = .ok (.iload_n 1, 1) := by decide +kernel
theorem d_Mod_taken_1 : decode prog_10_method_20_code 1 = .ok (.istore_n 2, 1) := by decide +kernel
theorem d_Mod_taken_2 : decode prog_10_method_20_code 2 = .ok (.aload_n 0, 1) := by decide +kernel
theorem d_Mod_taken_3 : decode prog_10_method_20_code 3 = .ok (.getfield 138, 3) := by decide +kernel
theorem d_Mod_taken_6 : decode prog_10_method_20_code 6 = .ok (.ifCond .le 98, 3) := by decide +kernel
theorem d_Mod_taken_9 : decode prog_10_method_20_code 9 = .ok (.aload_n 0, 1) := by decide +kernel
theorem d_Mod_taken_10 : decode prog_10_method_20_code 10 = .ok (.getfield 68, 3) := by decide +kernel
theorem d_Mod_taken_13 : decode prog_10_method_20_code 13 = .ok (.aload_n 0, 1) := by decide +kernel
theorem d_Mod_taken_14 : decode prog_10_method_20_code 14 = .ok (.getfield 138, 3) := by decide +kernel
theorem d_Mod_taken_17 : decode prog_10_method_20_code 17 = .ok (.iconst 1, 1) := by decide +kernel
theorem d_Mod_taken_18 : decode prog_10_method_20_code 18 = .ok (.isub, 1) := by decide +kernel
theorem d_Mod_taken_19 : decode prog_10_method_20_code 19 = .ok (.iaload, 1) := by decide +kernel
theorem d_Mod_taken_20 : decode prog_10_method_20_code 20 = .ok (.iconst 2, 1) := by decide +kernel
theorem d_Mod_taken_21 : decode prog_10_method_20_code 21 = .ok (.if_icmp .eq 18, 3) := by decide +kernel
theorem d_Mod_taken_24 : decode prog_10_method_20_code 24 = .ok (.aload_n 0, 1) := by decide +kernel
theorem d_Mod_taken_25 : decode prog_10_method_20_code 25 = .ok (.getfield 68, 3) := by decide +kernel
theorem d_Mod_taken_28 : decode prog_10_method_20_code 28 = .ok (.aload_n 0, 1) := by decide +kernel
theorem d_Mod_taken_29 : decode prog_10_method_20_code 29 = .ok (.getfield 138, 3) := by decide +kernel
theorem d_Mod_taken_32 : decode prog_10_method_20_code 32 = .ok (.iconst 1, 1) := by decide +kernel
theorem d_Mod_taken_33 : decode prog_10_method_20_code 33 = .ok (.isub, 1) := by decide +kernel
theorem d_Mod_taken_34 : decode prog_10_method_20_code 34 = .ok (.iaload, 1) := by decide +kernel
theorem d_Mod_taken_35 : decode prog_10_method_20_code 35 = .ok (.iconst 1, 1) := by decide +kernel
theorem d_Mod_taken_36 : decode prog_10_method_20_code 36 = .ok (.if_icmp .ne 68, 3) := by decide +kernel
theorem d_Mod_taken_39 : decode prog_10_method_20_code 39 = .ok (.aload_n 0, 1) := by decide +kernel
theorem d_Mod_taken_40 : decode prog_10_method_20_code 40 = .ok (.dup, 1) := by decide +kernel
theorem d_Mod_taken_41 : decode prog_10_method_20_code 41 = .ok (.getfield 138, 3) := by decide +kernel
theorem d_Mod_taken_44 : decode prog_10_method_20_code 44 = .ok (.iconst 1, 1) := by decide +kernel
theorem d_Mod_taken_45 : decode prog_10_method_20_code 45 = .ok (.isub, 1) := by decide +kernel
theorem d_Mod_taken_46 : decode prog_10_method_20_code 46 = .ok (.putfield 138, 3) := by decide +kernel
theorem d_Mod_taken_49 : decode prog_10_method_20_code 49 = .ok (.aload_n 0, 1) := by decide +kernel
theorem d_Mod_taken_50 : decode prog_10_method_20_code 50 = .ok (.getfield 71, 3) := by decide +kernel
theorem d_Mod_taken_53 : decode prog_10_method_20_code 53 = .ok (.aload_n 0, 1) := by decide +kernel
theorem d_Mod_taken_54 : decode prog_10_method_20_code 54 = .ok (.getfield 138, 3) := by decide +kernel
theorem d_Mod_taken_57 : decode prog_10_method_20_code 57 = .ok (.iaload, 1) := by decide +kernel
theorem d_Mod_taken_58 : decode prog_10_method_20_code 58 = .ok (.istore_n 3, 1) := by decide +kernel
theorem d_Mod_taken_59 : decode prog_10_method_20_code 59 = .ok (.aload_n 0, 1) := by decide +kernel
theorem d_Mod_taken_60 : decode prog_10_method_20_code 60 = .ok (.getfield 68, 3) := by decide +kernel
theorem d_Mod_taken_63 : decode prog_10_method_20_code 63 = .ok (.aload_n 0, 1) := by decide +kernel
theorem d_Mod_taken_64 : decode prog_10_method_20_code 64 = .ok (.getfield 138, 3) := by decide +kernel
theorem d_Mod_taken_67 : decode prog_10_method_20_code 67 = .ok (.iaload, 1) := by decide +kernel
theorem d_Mod_taken_68 : decode prog_10_method_20_code 68 = .ok (.iconst 2, 1) := by decide +kernel
theorem d_Mod_taken_69 : decode prog_10_method_20_code 69 = .ok (.if_icmp .ne 23, 3) := by decide +kernel
theorem d_Mod_taken_72 : decode prog_10_method_20_code 72 = .ok (.aload_n 0, 1) := by decide +kernel
theorem d_Mod_taken_73 : decode prog_10_method_20_code 73 = .ok (.getfield 62, 3) := by decide +kernel
theorem d_Mod_taken_76 : decode prog_10_method_20_code 76 = .ok (.iload_n 3, 1) := by decide +kernel
theorem d_Mod_taken_77 : decode prog_10_method_20_code 77 = .ok (.iload_n 2, 1) := by decide +kernel
theorem d_Mod_taken_78 : decode prog_10_method_20_code 78 = .ok (.iastore, 1) := by decide +kernel
theorem d_Mod_taken_79 : decode prog_10_method_20_code 79 = .ok (.aload_n 0, 1) := by decide +kernel
theorem d_Mod_taken_80 : decode prog_10_method_20_code 80 = .ok (.dup, 1) := by decide +kernel
theorem d_Mod_taken_81 : decode prog_10_method_20_code 81 = .ok (.getfield 141, 3) := by decide +kernel
theorem d_Mod_taken_84 : decode prog_10_method_20_code 84 = .ok (.iconst 1, 1) := by decide +kernel
theorem d_Mod_taken_85 : decode prog_10_method_20_code 85 = .ok (.isub, 1) := by decide +kernel
theorem d_Mod_taken_86 : decode prog_10_method_20_code 86 = .ok (.putfield 141, 3) := by decide +kernel
theorem d_Mod_taken_89 : decode prog_10_method_20_code 89 = .ok (.goto 10, 3) := by decide +kernel
theorem d_Mod_taken_92 : decode prog_10_method_20_code 92 = .ok (.aload_n 0, 1) := by decide +kernel
theorem d_Mod_taken_93 : decode prog_10_method_20_code 93 = .ok (.getfield 65, 3) := by decide +kernel
theorem d_Mod_taken_96 : decode prog_10_method_20_code 96 = .ok (.iload_n 3, 1) := by decide +kernel
theorem d_Mod_taken_97 : decode prog_10_method_20_code 97 = .ok (.iload_n 2, 1) := by decide +kernel
theorem d_Mod_taken_98 : decode prog_10_method_20_code 98 = .ok (.iastore, 1) := by decide +kernel
theorem d_Mod_taken_99 : decode prog_10_method_20_code 99 = .ok (.iload_n 3, 1) := by decide +kernel
theorem d_Mod_taken_100 : decode prog_10_method_20_code 100 = .ok (.istore_n 2, 1) := by decide +kernel
theorem d_Mod_taken_101 : decode prog_10_method_20_code 101 = .ok (.goto (-99), 3) := by decide +kernel
theorem d_Mod_taken_104 : decode prog_10_method_20_code 104 = .ok (.iload_n 2, 1) := by decide +kernel
theorem d_Mod_taken_105 : decode prog_10_method_20_code 105 = .ok (.ireturn, 1) := by decide +kernel
def m_taken_B : Nat → Nat → Int32 → MS → Option (Int32 × MS)
  | 0, _, _, _ => none
  | n + 1, _, x2, μ => (if (μ.1 30) ≤ 0 then some (x2, μ) else (if inb ((μ.1 30) - 1) 64 = true then (if ((μ.2.1 28) ((μ.1 30) - 1).toNatClampNeg) = 2 then (if inb ((μ.2.1 29) ((μ.1 30) - 1).toNatClampNeg) 40 = true then m_taken_B n 0 ((μ.2.1 29) ((μ.1 30) - 1).toNatClampNeg) (sI 26 ((μ.1 26) - 1) (sA 22 (((μ.2.1 29) ((μ.1 30) - 1).toNatClampNeg).toNatClampNeg) x2 (sI 30 ((μ.1 30) - 1) μ))) else none) else (if ((μ.2.1 28) ((μ.1 30) - 1).toNatClampNeg) = 1 then (if inb ((μ.2.1 29) ((μ.1 30) - 1).toNatClampNeg) 40 = true then m_taken_B n 0 ((μ.2.1 29) ((μ.1 30) - 1).toNatClampNeg) (sA 23 (((μ.2.1 29) ((μ.1 30) - 1).toNatClampNeg).toNatClampNeg) x2 (sI 30 ((μ.1 30) - 1) μ)) else none) else some (x2, μ))) else none))
def m_taken (x1 : Int32) (μ : MS) : Option (Int32 × MS) := m_taken_B 4096 0 x1 μ
set_option maxHeartbeats 4000000 in
set_option maxRecDepth 100000 in
theorem c_Mod_taken {A : Nat → Nat} {f0 : Nat → va_E} {μ : MS} {x1 : Int32} {res : (Int32 × MS)} (hM : zMf ck b0 N A f0 f μ) (h : m_taken x1 μ = some res) : zK l D ck ad b0 y_Mod_taken prog_10_method_20_code 4 ((some FieldType.int)) 0 0 0 [.ref (A 38), .int x1] N f (fun r N' f' => r = some (.int res.1) ∧ N = N' ∧ zMf ck b0 N A f0 f' res.2) := by
  refine zM.of zG_w (by decide) (Nat.le_of_ble_eq_true rfl) ?_
  intro zp ze zst zm zar zbe zme zc X hnm hb0
  have L : ∀ n : Nat, (∀ (x2 : Int32) (f1 : Nat → va_E) (μ : MS), zMf ck b0 N A f0 f1 μ → m_taken_B n 0 x2 μ = some res → zW zp l ze (zR 0 0 0) zst zm zar zbe zme zc D zcl b0 4 0 0 (MQ zbe (zQ D zcl b0 (fun r N' f' => r = some (.int res.1) ∧ N = N' ∧ zMf ck b0 N A f0 f' res.2)) zar zst 0 0 (zA b0)) N f1 2 [(0, .ref (A 38)), (2, .int x2)] []) := by
    intro n
    induction n with
    | zero =>
      exact fun _ _ _ _ h => (by rw [m_taken_B] at h; cases h)
    | succ n ih =>
      · intro x2 f1 μ hM h
        rw [m_taken_B] at h
        refine z_aload_n X d_Mod_taken_2 rfl ?_
        refine z_get X (v := .int (μ.1 30)) d_Mod_taken_3 (hM.lo 38 (by decide)) hM.ob cl_Mod in_Mod 30 (by decide) fl_Mod_138 rfl rfl ?_
        refine z_if_le X 104 d_Mod_taken_6 (by decide) (fun h6 => ?_) (fun h6 => ?_)
        · skip
          have h := (if_pos h6).symm.trans h
          refine z_iload_n X d_Mod_taken_104 rfl ?_
          have e9 := Option.some.inj h
          subst e9
          exact z_iret X d_Mod_taken_105 ⟨rfl, rfl, hM⟩
        · skip
          have h := (if_neg h6).symm.trans h
          refine z_aload_n X d_Mod_taken_9 rfl ?_
          refine z_get X (v := .ref (A 28)) d_Mod_taken_10 (hM.lo 38 (by decide)) hM.ob cl_Mod in_Mod 28 (by decide) fl_Mod_68 rfl rfl ?_
          refine z_aload_n X d_Mod_taken_13 rfl ?_
          refine z_get X (v := .int (μ.1 30)) d_Mod_taken_14 (hM.lo 38 (by decide)) hM.ob cl_Mod in_Mod 30 (by decide) fl_Mod_138 rfl rfl ?_
          refine z_iconst X d_Mod_taken_17 (v := 1) (by decide) ?_
          refine z_isub X d_Mod_taken_18 ?_
          obtain ⟨b19, h⟩ := gd h
          refine z_iald X (g := (μ.2.1 28)) d_Mod_taken_19 (hM.lo 28 (by decide)) (hM.iA 28 64 rfl) (t0 := 0) rfl (vp_of b19) ?_
          refine z_iconst X d_Mod_taken_20 (v := 2) (by decide) ?_
          refine z_icmp_eq X 39 d_Mod_taken_21 (by decide) (fun h21 => ?_) (fun h21 => ?_)
          · skip
            have h := (if_pos h21).symm.trans h
            refine z_aload_n X d_Mod_taken_39 rfl ?_
            refine z_dup X d_Mod_taken_40 rfl ?_
            refine z_get X (v := .int (μ.1 30)) d_Mod_taken_41 (hM.lo 38 (by decide)) hM.ob cl_Mod in_Mod 30 (by decide) fl_Mod_138 rfl rfl ?_
            refine z_iconst X d_Mod_taken_44 (v := 1) (by decide) ?_
            refine z_isub X d_Mod_taken_45 ?_
            refine z_putM X t_Mod ty_Mod n_Mod d_Mod_taken_46 hM cl_Mod in_Mod 30 (by decide) fl_Mod_138 rfl rfl rfl (by decide) rfl (fun hM => ?_)
            refine z_aload_n X d_Mod_taken_49 rfl ?_
            refine z_get X (v := .ref (A 29)) d_Mod_taken_50 (hM.lo 38 (by decide)) hM.ob cl_Mod in_Mod 29 (by decide) fl_Mod_71 rfl rfl ?_
            refine z_aload_n X d_Mod_taken_53 rfl ?_
            refine z_get X (v := .int ((μ.1 30) - 1)) d_Mod_taken_54 (hM.lo 38 (by decide)) hM.ob cl_Mod in_Mod 30 (by decide) fl_Mod_138 rfl rfl ?_
            refine z_iald X (g := (μ.2.1 29)) d_Mod_taken_57 (hM.lo 29 (by decide)) (hM.iA 29 64 rfl) (t0 := 0) rfl (vp_of b19) ?_
            refine z_istore_n X d_Mod_taken_58 (by decide) rfl ?_
            refine z_aload_n X d_Mod_taken_59 rfl ?_
            refine z_get X (v := .ref (A 28)) d_Mod_taken_60 (hM.lo 38 (by decide)) hM.ob cl_Mod in_Mod 28 (by decide) fl_Mod_68 rfl rfl ?_
            refine z_aload_n X d_Mod_taken_63 rfl ?_
            refine z_get X (v := .int ((μ.1 30) - 1)) d_Mod_taken_64 (hM.lo 38 (by decide)) hM.ob cl_Mod in_Mod 30 (by decide) fl_Mod_138 rfl rfl ?_
            refine z_iald X (g := (μ.2.1 28)) d_Mod_taken_67 (hM.lo 28 (by decide)) (hM.iA 28 64 rfl) (t0 := 0) rfl (vp_of b19) ?_
            refine z_iconst X d_Mod_taken_68 (v := 2) (by decide) ?_
            refine z_icmp_ne X 92 d_Mod_taken_69 (by decide) (fun h69 => ?_) (fun h69 => ?_)
            · skip
              exact absurd h21 h69
            · skip
              refine z_aload_n X d_Mod_taken_72 rfl ?_
              refine z_get X (v := .ref (A 22)) d_Mod_taken_73 (hM.lo 38 (by decide)) hM.ob cl_Mod in_Mod 22 (by decide) fl_Mod_62 rfl rfl ?_
              refine z_iload_n X d_Mod_taken_76 rfl ?_
              refine z_iload_n X d_Mod_taken_77 rfl ?_
              obtain ⟨b78, h⟩ := gd h
              refine z_iastM X d_Mod_taken_78 hM 22 40 rfl rfl (vp_of b78) (fun hM => ?_)
              refine z_aload_n X d_Mod_taken_79 rfl ?_
              refine z_dup X d_Mod_taken_80 rfl ?_
              refine z_get X (v := .int (μ.1 26)) d_Mod_taken_81 (hM.lo 38 (by decide)) hM.ob cl_Mod in_Mod 26 (by decide) fl_Mod_141 rfl rfl ?_
              refine z_iconst X d_Mod_taken_84 (v := 1) (by decide) ?_
              refine z_isub X d_Mod_taken_85 ?_
              refine z_putM X t_Mod ty_Mod n_Mod d_Mod_taken_86 hM cl_Mod in_Mod 26 (by decide) fl_Mod_141 rfl rfl rfl (by decide) rfl (fun hM => ?_)
              refine z_goto X 99 d_Mod_taken_89 (by decide) ?_
              refine z_iload_n X d_Mod_taken_99 rfl ?_
              refine z_istore_n X d_Mod_taken_100 (by decide) rfl ?_
              refine z_goto X 2 d_Mod_taken_101 (by decide) ?_
              refine zW.pick [0, 1] (lv' := [(0, .ref (A 38)), (2, .int ((μ.2.1 29) ((μ.1 30) - 1).toNatClampNeg))]) rfl ?_
              exact (ih) ((μ.2.1 29) ((μ.1 30) - 1).toNatClampNeg) _ _ hM h
          · skip
            have h := (if_neg h21).symm.trans h
            refine z_aload_n X d_Mod_taken_24 rfl ?_
            refine z_get X (v := .ref (A 28)) d_Mod_taken_25 (hM.lo 38 (by decide)) hM.ob cl_Mod in_Mod 28 (by decide) fl_Mod_68 rfl rfl ?_
            refine z_aload_n X d_Mod_taken_28 rfl ?_
            refine z_get X (v := .int (μ.1 30)) d_Mod_taken_29 (hM.lo 38 (by decide)) hM.ob cl_Mod in_Mod 30 (by decide) fl_Mod_138 rfl rfl ?_
            refine z_iconst X d_Mod_taken_32 (v := 1) (by decide) ?_
            refine z_isub X d_Mod_taken_33 ?_
            refine z_iald X (g := (μ.2.1 28)) d_Mod_taken_34 (hM.lo 28 (by decide)) (hM.iA 28 64 rfl) (t0 := 0) rfl (vp_of b19) ?_
            refine z_iconst X d_Mod_taken_35 (v := 1) (by decide) ?_
            refine z_icmp_ne X 104 d_Mod_taken_36 (by decide) (fun h36 => ?_) (fun h36 => ?_)
            · skip
              have h := (if_neg h36).symm.trans h
              refine z_iload_n X d_Mod_taken_104 rfl ?_
              have e9 := Option.some.inj h
              subst e9
              exact z_iret X d_Mod_taken_105 ⟨rfl, rfl, hM⟩
            · skip
              have h := (if_pos h36).symm.trans h
              refine z_aload_n X d_Mod_taken_39 rfl ?_
              refine z_dup X d_Mod_taken_40 rfl ?_
              refine z_get X (v := .int (μ.1 30)) d_Mod_taken_41 (hM.lo 38 (by decide)) hM.ob cl_Mod in_Mod 30 (by decide) fl_Mod_138 rfl rfl ?_
              refine z_iconst X d_Mod_taken_44 (v := 1) (by decide) ?_
              refine z_isub X d_Mod_taken_45 ?_
              refine z_putM X t_Mod ty_Mod n_Mod d_Mod_taken_46 hM cl_Mod in_Mod 30 (by decide) fl_Mod_138 rfl rfl rfl (by decide) rfl (fun hM => ?_)
              refine z_aload_n X d_Mod_taken_49 rfl ?_
              refine z_get X (v := .ref (A 29)) d_Mod_taken_50 (hM.lo 38 (by decide)) hM.ob cl_Mod in_Mod 29 (by decide) fl_Mod_71 rfl rfl ?_
              refine z_aload_n X d_Mod_taken_53 rfl ?_
              refine z_get X (v := .int ((μ.1 30) - 1)) d_Mod_taken_54 (hM.lo 38 (by decide)) hM.ob cl_Mod in_Mod 30 (by decide) fl_Mod_138 rfl rfl ?_
              refine z_iald X (g := (μ.2.1 29)) d_Mod_taken_57 (hM.lo 29 (by decide)) (hM.iA 29 64 rfl) (t0 := 0) rfl (vp_of b19) ?_
              refine z_istore_n X d_Mod_taken_58 (by decide) rfl ?_
              refine z_aload_n X d_Mod_taken_59 rfl ?_
              refine z_get X (v := .ref (A 28)) d_Mod_taken_60 (hM.lo 38 (by decide)) hM.ob cl_Mod in_Mod 28 (by decide) fl_Mod_68 rfl rfl ?_
              refine z_aload_n X d_Mod_taken_63 rfl ?_
              refine z_get X (v := .int ((μ.1 30) - 1)) d_Mod_taken_64 (hM.lo 38 (by decide)) hM.ob cl_Mod in_Mod 30 (by decide) fl_Mod_138 rfl rfl ?_
              refine z_iald X (g := (μ.2.1 28)) d_Mod_taken_67 (hM.lo 28 (by decide)) (hM.iA 28 64 rfl) (t0 := 0) rfl (vp_of b19) ?_
              refine z_iconst X d_Mod_taken_68 (v := 2) (by decide) ?_
              refine z_icmp_ne X 92 d_Mod_taken_69 (by decide) (fun h69 => ?_) (fun h69 => ?_)
              · skip
                refine z_aload_n X d_Mod_taken_92 rfl ?_
                refine z_get X (v := .ref (A 23)) d_Mod_taken_93 (hM.lo 38 (by decide)) hM.ob cl_Mod in_Mod 23 (by decide) fl_Mod_65 rfl rfl ?_
                refine z_iload_n X d_Mod_taken_96 rfl ?_
                refine z_iload_n X d_Mod_taken_97 rfl ?_
                obtain ⟨b98, h⟩ := gd h
                refine z_iastM X d_Mod_taken_98 hM 23 40 rfl rfl (vp_of b98) (fun hM => ?_)
                refine z_iload_n X d_Mod_taken_99 rfl ?_
                refine z_istore_n X d_Mod_taken_100 (by decide) rfl ?_
                refine z_goto X 2 d_Mod_taken_101 (by decide) ?_
                refine zW.pick [0, 1] (lv' := [(0, .ref (A 38)), (2, .int ((μ.2.1 29) ((μ.1 30) - 1).toNatClampNeg))]) rfl ?_
                exact (ih) ((μ.2.1 29) ((μ.1 30) - 1).toNatClampNeg) _ _ hM h
              · skip
                exact absurd h69 h21
  rw [m_taken] at h
  refine z_iload_n X d_Mod_taken_0 rfl ?_
  refine z_istore_n X d_Mod_taken_1 (by decide) rfl ?_
  refine zW.pick [0, 2] (lv' := [(0, .ref (A 38)), (2, .int x1)]) rfl ?_
  exact (L 4096) x1 _ _ hM h
theorem d_Mod_or_0 : decode prog_10_method_21_code 0 = .ok (.aload_n 0, 1) := by decide +kernel
theorem d_Mod_or_1 : decode prog_10_method_21_code 1 = .ok (.getfield 138, 3) := by decide +kernel
theorem d_Mod_or_4 : decode prog_10_method_21_code 4 = .ok (.ifCond .eq 17, 3) := by decide +kernel
theorem d_Mod_or_7 : decode prog_10_method_21_code 7 = .ok (.aload_n 0, 1) := by decide +kernel
theorem d_Mod_or_8 : decode prog_10_method_21_code 8 = .ok (.getfield 68, 3) := by decide +kernel
theorem d_Mod_or_11 : decode prog_10_method_21_code 11 = .ok (.aload_n 0, 1) := by decide +kernel
theorem d_Mod_or_12 : decode prog_10_method_21_code 12 = .ok (.getfield 138, 3) := by decide +kernel
theorem d_Mod_or_15 : decode prog_10_method_21_code 15 = .ok (.iconst 1, 1) := by decide +kernel
theorem d_Mod_or_16 : decode prog_10_method_21_code 16 = .ok (.isub, 1) := by decide +kernel
theorem d_Mod_or_17 : decode prog_10_method_21_code 17 = .ok (.iaload, 1) := by decide +kernel
theorem d_Mod_or_18 : decode prog_10_method_21_code 18 = .ok (.ifCond .eq 5, 3) := by decide +kernel
theorem d_Mod_or_21 : decode prog_10_method_21_code 21 = .ok (.iload_n 1, 1) := by decide +kernel
theorem d_Mod_or_22 : decode prog_10_method_21_code 22 = .ok (.ireturn, 1) := by decide +kernel
theorem d_Mod_or_23 : decode prog_10_method_21_code 23 = .ok (.aload_n 0, 1) := by decide +kernel
theorem d_Mod_or_24 : decode prog_10_method_21_code 24 = .ok (.dup, 1) := by decide +kernel
theorem d_Mod_or_25 : decode prog_10_method_21_code 25 = .ok (.getfield 138, 3) := by decide +kernel
theorem d_Mod_or_28 : decode prog_10_method_21_code 28 = .ok (.iconst 1, 1) := by decide +kernel
theorem d_Mod_or_29 : decode prog_10_method_21_code 29 = .ok (.isub, 1) := by decide +kernel
theorem d_Mod_or_30 : decode prog_10_method_21_code 30 = .ok (.putfield 138, 3) := by decide +kernel
theorem d_Mod_or_33 : decode prog_10_method_21_code 33 = .ok (.aload_n 0, 1) := by decide +kernel
theorem d_Mod_or_34 : decode prog_10_method_21_code 34 = .ok (.getfield 65, 3) := by decide +kernel
theorem d_Mod_or_37 : decode prog_10_method_21_code 37 = .ok (.aload_n 0, 1) := by decide +kernel
theorem d_Mod_or_38 : decode prog_10_method_21_code 38 = .ok (.getfield 71, 3) := by decide +kernel
theorem d_Mod_or_41 : decode prog_10_method_21_code 41 = .ok (.aload_n 0, 1) := by decide +kernel
theorem d_Mod_or_42 : decode prog_10_method_21_code 42 = .ok (.getfield 138, 3) := by decide +kernel
theorem d_Mod_or_45 : decode prog_10_method_21_code 45 = .ok (.iaload, 1) := by decide +kernel
theorem d_Mod_or_46 : decode prog_10_method_21_code 46 = .ok (.iload_n 1, 1) := by decide +kernel
theorem d_Mod_or_47 : decode prog_10_method_21_code 47 = .ok (.iastore, 1) := by decide +kernel
theorem d_Mod_or_48 : decode prog_10_method_21_code 48 = .ok (.aload_n 0, 1) := by decide +kernel
theorem d_Mod_or_49 : decode prog_10_method_21_code 49 = .ok (.getfield 71, 3) := by decide +kernel
theorem d_Mod_or_52 : decode prog_10_method_21_code 52 = .ok (.aload_n 0, 1) := by decide +kernel
theorem d_Mod_or_53 : decode prog_10_method_21_code 53 = .ok (.getfield 138, 3) := by decide +kernel
theorem d_Mod_or_56 : decode prog_10_method_21_code 56 = .ok (.iaload, 1) := by decide +kernel
theorem d_Mod_or_57 : decode prog_10_method_21_code 57 = .ok (.ireturn, 1) := by decide +kernel
def m_or (x1 : Int32) (μ : MS) : Option (Int32 × MS) := (if (μ.1 30) = 0 then some (x1, μ) else (if inb ((μ.1 30) - 1) 64 = true then (if ((μ.2.1 28) ((μ.1 30) - 1).toNatClampNeg) = 0 then (if inb ((μ.2.1 29) ((μ.1 30) - 1).toNatClampNeg) 40 = true then some (((μ.2.1 29) ((μ.1 30) - 1).toNatClampNeg), (sA 23 (((μ.2.1 29) ((μ.1 30) - 1).toNatClampNeg).toNatClampNeg) x1 (sI 30 ((μ.1 30) - 1) μ))) else none) else some (x1, μ)) else none))
set_option maxHeartbeats 4000000 in
set_option maxRecDepth 100000 in
theorem c_Mod_or {A : Nat → Nat} {f0 : Nat → va_E} {μ : MS} {x1 : Int32} {res : (Int32 × MS)} (hM : zMf ck b0 N A f0 f μ) (h : m_or x1 μ = some res) : zK l D ck ad b0 y_Mod_or prog_10_method_21_code 2 ((some FieldType.int)) 0 0 0 [.ref (A 38), .int x1] N f (fun r N' f' => r = some (.int res.1) ∧ N = N' ∧ zMf ck b0 N A f0 f' res.2) := by
  refine zM.of zG_w (by decide) (Nat.le_of_ble_eq_true rfl) ?_
  intro zp ze zst zm zar zbe zme zc X hnm hb0
  rw [m_or] at h
  refine z_aload_n X d_Mod_or_0 rfl ?_
  refine z_get X (v := .int (μ.1 30)) d_Mod_or_1 (hM.lo 38 (by decide)) hM.ob cl_Mod in_Mod 30 (by decide) fl_Mod_138 rfl rfl ?_
  refine z_if_eq X 21 d_Mod_or_4 (by decide) (fun h4 => ?_) (fun h4 => ?_)
  · skip
    have h := (if_pos h4).symm.trans h
    refine z_iload_n X d_Mod_or_21 rfl ?_
    have e9 := Option.some.inj h
    subst e9
    exact z_iret X d_Mod_or_22 ⟨rfl, rfl, hM⟩
  · skip
    have h := (if_neg h4).symm.trans h
    refine z_aload_n X d_Mod_or_7 rfl ?_
    refine z_get X (v := .ref (A 28)) d_Mod_or_8 (hM.lo 38 (by decide)) hM.ob cl_Mod in_Mod 28 (by decide) fl_Mod_68 rfl rfl ?_
    refine z_aload_n X d_Mod_or_11 rfl ?_
    refine z_get X (v := .int (μ.1 30)) d_Mod_or_12 (hM.lo 38 (by decide)) hM.ob cl_Mod in_Mod 30 (by decide) fl_Mod_138 rfl rfl ?_
    refine z_iconst X d_Mod_or_15 (v := 1) (by decide) ?_
    refine z_isub X d_Mod_or_16 ?_
    obtain ⟨b17, h⟩ := gd h
    refine z_iald X (g := (μ.2.1 28)) d_Mod_or_17 (hM.lo 28 (by decide)) (hM.iA 28 64 rfl) (t0 := 0) rfl (vp_of b17) ?_
    refine z_if_eq X 23 d_Mod_or_18 (by decide) (fun h18 => ?_) (fun h18 => ?_)
    · skip
      have h := (if_pos h18).symm.trans h
      refine z_aload_n X d_Mod_or_23 rfl ?_
      refine z_dup X d_Mod_or_24 rfl ?_
      refine z_get X (v := .int (μ.1 30)) d_Mod_or_25 (hM.lo 38 (by decide)) hM.ob cl_Mod in_Mod 30 (by decide) fl_Mod_138 rfl rfl ?_
      refine z_iconst X d_Mod_or_28 (v := 1) (by decide) ?_
      refine z_isub X d_Mod_or_29 ?_
      refine z_putM X t_Mod ty_Mod n_Mod d_Mod_or_30 hM cl_Mod in_Mod 30 (by decide) fl_Mod_138 rfl rfl rfl (by decide) rfl (fun hM => ?_)
      refine z_aload_n X d_Mod_or_33 rfl ?_
      refine z_get X (v := .ref (A 23)) d_Mod_or_34 (hM.lo 38 (by decide)) hM.ob cl_Mod in_Mod 23 (by decide) fl_Mod_65 rfl rfl ?_
      refine z_aload_n X d_Mod_or_37 rfl ?_
      refine z_get X (v := .ref (A 29)) d_Mod_or_38 (hM.lo 38 (by decide)) hM.ob cl_Mod in_Mod 29 (by decide) fl_Mod_71 rfl rfl ?_
      refine z_aload_n X d_Mod_or_41 rfl ?_
      refine z_get X (v := .int ((μ.1 30) - 1)) d_Mod_or_42 (hM.lo 38 (by decide)) hM.ob cl_Mod in_Mod 30 (by decide) fl_Mod_138 rfl rfl ?_
      refine z_iald X (g := (μ.2.1 29)) d_Mod_or_45 (hM.lo 29 (by decide)) (hM.iA 29 64 rfl) (t0 := 0) rfl (vp_of b17) ?_
      refine z_iload_n X d_Mod_or_46 rfl ?_
      obtain ⟨b47, h⟩ := gd h
      refine z_iastM X d_Mod_or_47 hM 23 40 rfl rfl (vp_of b47) (fun hM => ?_)
      refine z_aload_n X d_Mod_or_48 rfl ?_
      refine z_get X (v := .ref (A 29)) d_Mod_or_49 (hM.lo 38 (by decide)) hM.ob cl_Mod in_Mod 29 (by decide) fl_Mod_71 rfl rfl ?_
      refine z_aload_n X d_Mod_or_52 rfl ?_
      refine z_get X (v := .int ((μ.1 30) - 1)) d_Mod_or_53 (hM.lo 38 (by decide)) hM.ob cl_Mod in_Mod 30 (by decide) fl_Mod_138 rfl rfl ?_
      refine z_iald X (g := (μ.2.1 29)) d_Mod_or_56 (hM.lo 29 (by decide)) (hM.iA 29 64 rfl) (t0 := 0) rfl (vp_of b17) ?_
      have e9 := Option.some.inj h
      subst e9
      exact z_iret X d_Mod_or_57 ⟨rfl, rfl, hM⟩
    · skip
      have h := (if_neg h18).symm.trans h
      refine z_iload_n X d_Mod_or_21 rfl ?_
      have e9 := Option.some.inj h
      subst e9
      exact z_iret X d_Mod_or_22 ⟨rfl, rfl, hM⟩
theorem d_Mod_read_0 : decode prog_10_method_22_code 0 = .ok (.aload_n 0, 1) := by decide +kernel
theorem d_Mod_read_1 : decode prog_10_method_22_code 1 = .ok (.iconst 0, 1) := by decide +kernel
theorem d_Mod_read_2 : decode prog_10_method_22_code 2 = .ok (.putfield 107, 3) := by decide +kernel
theorem d_Mod_read_5 : decode prog_10_method_22_code 5 = .ok (.aload_n 0, 1) := by decide +kernel
theorem d_Mod_read_6 : decode prog_10_method_22_code 6 = .ok (.iconst 0, 1) := by decide +kernel
theorem d_Mod_read_7 : decode prog_10_method_22_code 7 = .ok (.putfield 131, 3) := by decide +kernel
theorem d_Mod_read_10 : decode prog_10_method_22_code 10 = .ok (.aload_n 0, 1) := by decide +kernel
theorem d_Mod_read_11 : decode prog_10_method_22_code 11 = .ok (.iconst 0, 1) := by decide +kernel
theorem d_Mod_read_12 : decode prog_10_method_22_code 12 = .ok (.putfield 141, 3) := by decide +kernel
theorem d_Mod_read_15 : decode prog_10_method_22_code 15 = .ok (.aload_n 0, 1) := by decide +kernel
theorem d_Mod_read_16 : decode prog_10_method_22_code 16 = .ok (.iconst 0, 1) := by decide +kernel
theorem d_Mod_read_17 : decode prog_10_method_22_code 17 = .ok (.putfield 138, 3) := by decide +kernel
theorem d_Mod_read_20 : decode prog_10_method_22_code 20 = .ok (.aload_n 0, 1) := by decide +kernel
theorem d_Mod_read_21 : decode prog_10_method_22_code 21 = .ok (.iconst (-1), 1) := by decide +kernel
theorem d_Mod_read_22 : decode prog_10_method_22_code 22 = .ok (.putfield 128, 3) := by decide +kernel
theorem d_Mod_read_25 : decode prog_10_method_22_code 25 = .ok (.aload_n 0, 1) := by decide +kernel
theorem d_Mod_read_26 : decode prog_10_method_22_code 26 = .ok (.getfield 128, 3) := by decide +kernel
theorem d_Mod_read_29 : decode prog_10_method_22_code 29 = .ok (.ifCond .ge 351, 3) := by decide +kernel
theorem d_Mod_read_32 : decode prog_10_method_22_code 32 = .ok (.aload_n 0, 1) := by decide +kernel
theorem d_Mod_read_33 : decode prog_10_method_22_code 33 = .ok (.getfield 128, 3) := by decide +kernel
theorem d_Mod_read_36 : decode prog_10_method_22_code 36 = .ok (.ifCond .ge 18, 3) := by decide +kernel
theorem d_Mod_read_39 : decode prog_10_method_22_code 39 = .ok (.aload_n 0, 1) := by decide +kernel
theorem d_Mod_read_40 : decode prog_10_method_22_code 40 = .ok (.invokevirtual 177, 3) := by decide +kernel
theorem d_Mod_read_43 : decode prog_10_method_22_code 43 = .ok (.ifCond .ne 11, 3) := by decide +kernel
theorem d_Mod_read_46 : decode prog_10_method_22_code 46 = .ok (.aload_n 0, 1) := by decide +kernel
theorem d_Mod_read_47 : decode prog_10_method_22_code 47 = .ok (.invokevirtual 147, 3) := by decide +kernel
theorem d_Mod_read_50 : decode prog_10_method_22_code 50 = .ok (.pop, 1) := by decide +kernel
theorem d_Mod_read_51 : decode prog_10_method_22_code 51 = .ok (.goto (-19), 3) := by decide +kernel
theorem d_Mod_read_54 : decode prog_10_method_22_code 54 = .ok (.aload_n 0, 1) := by decide +kernel
theorem d_Mod_read_55 : decode prog_10_method_22_code 55 = .ok (.getfield 128, 3) := by decide +kernel
theorem d_Mod_read_58 : decode prog_10_method_22_code 58 = .ok (.ifCond .ge 14, 3) := by decide +kernel
theorem d_Mod_read_61 : decode prog_10_method_22_code 61 = .ok (.aload_n 0, 1) := by decide +kernel
theorem d_Mod_read_62 : decode prog_10_method_22_code 62 = .ok (.aload_n 0, 1) := by decide +kernel
theorem d_Mod_read_63 : decode prog_10_method_22_code 63 = .ok (.invokevirtual 181, 3) := by decide +kernel
theorem d_Mod_read_66 : decode prog_10_method_22_code 66 = .ok (.invokevirtual 184, 3) := by decide +kernel
theorem d_Mod_read_69 : decode prog_10_method_22_code 69 = .ok (.goto 4, 3) := by decide +kernel
theorem d_Mod_read_72 : decode prog_10_method_22_code 72 = .ok (.iconst 0, 1) := by decide +kernel
theorem d_Mod_read_73 : decode prog_10_method_22_code 73 = .ok (.istore_n 1, 1) := by decide +kernel
theorem d_Mod_read_74 : decode prog_10_method_22_code 74 = .ok (.aload_n 0, 1) := by decide +kernel
theorem d_Mod_read_75 : decode prog_10_method_22_code 75 = .ok (.getfield 128, 3) := by decide +kernel
theorem d_Mod_read_78 : decode prog_10_method_22_code 78 = .ok (.ifCond .ge 7, 3) := by decide +kernel
theorem d_Mod_read_81 : decode prog_10_method_22_code 81 = .ok (.iconst 1, 1) := by decide +kernel
theorem d_Mod_read_82 : decode prog_10_method_22_code 82 = .ok (.goto 4, 3) := by decide +kernel
theorem d_Mod_read_85 : decode prog_10_method_22_code 85 = .ok (.iconst 0, 1) := by decide +kernel
theorem d_Mod_read_86 : decode prog_10_method_22_code 86 = .ok (.istore_n 2, 1) := by decide +kernel
theorem d_Mod_read_87 : decode prog_10_method_22_code 87 = .ok (.iload_n 2, 1) := by decide +kernel
theorem d_Mod_read_88 : decode prog_10_method_22_code 88 = .ok (.ifCond .eq 144, 3) := by decide +kernel
theorem d_Mod_read_91 : decode prog_10_method_22_code 91 = .ok (.aload_n 0, 1) := by decide +kernel
theorem d_Mod_read_92 : decode prog_10_method_22_code 92 = .ok (.invokevirtual 147, 3) := by decide +kernel
theorem d_Mod_read_95 : decode prog_10_method_22_code 95 = .ok (.bipush 41, 2) := by decide +kernel
theorem d_Mod_read_97 : decode prog_10_method_22_code 97 = .ok (.if_icmp .ne 135, 3) := by decide +kernel
theorem d_Mod_read_100 : decode prog_10_method_22_code 100 = .ok (.aload_n 0, 1) := by decide +kernel
theorem d_Mod_read_101 : decode prog_10_method_22_code 101 = .ok (.iload_n 1, 1) := by decide +kernel
theorem d_Mod_read_102 : decode prog_10_method_22_code 102 = .ok (.invokevirtual 188, 3) := by decide +kernel
theorem d_Mod_read_105 : decode prog_10_method_22_code 105 = .ok (.istore_n 1, 1) := by decide +kernel
theorem d_Mod_read_106 : decode prog_10_method_22_code 106 = .ok (.aload_n 0, 1) := by decide +kernel
theorem d_Mod_read_107 : decode prog_10_method_22_code 107 = .ok (.getfield 138, 3) := by decide +kernel
theorem d_Mod_read_110 : decode prog_10_method_22_code 110 = .ok (.ifCond .le 7, 3) := by decide +kernel
theorem d_Mod_read_113 : decode prog_10_method_22_code 113 = .ok (.iconst 1, 1) := by decide +kernel
theorem d_Mod_read_114 : decode prog_10_method_22_code 114 = .ok (.goto 4, 3) := by decide +kernel
theorem d_Mod_read_117 : decode prog_10_method_22_code 117 = .ok (.iconst 0, 1) := by decide +kernel
theorem d_Mod_read_118 : decode prog_10_method_22_code 118 = .ok (.istore_n 3, 1) := by decide +kernel
theorem d_Mod_read_119 : decode prog_10_method_22_code 119 = .ok (.iload_n 3, 1) := by decide +kernel
theorem d_Mod_read_120 : decode prog_10_method_22_code 120 = .ok (.ifCond .ne 11, 3) := by decide +kernel
theorem d_Mod_read_123 : decode prog_10_method_22_code 123 = .ok (.aload_n 0, 1) := by decide +kernel
theorem d_Mod_read_124 : decode prog_10_method_22_code 124 = .ok (.aload_n 0, 1) := by decide +kernel
theorem d_Mod_read_125 : decode prog_10_method_22_code 125 = .ok (.getfield 107, 3) := by decide +kernel
theorem d_Mod_read_128 : decode prog_10_method_22_code 128 = .ok (.invokevirtual 134, 3) := by decide +kernel
theorem d_Mod_read_131 : decode prog_10_method_22_code 131 = .ok (.iload_n 3, 1) := by decide +kernel
theorem d_Mod_read_132 : decode prog_10_method_22_code 132 = .ok (.istore_n 2, 1) := by decide +kernel
theorem d_Mod_read_133 : decode prog_10_method_22_code 133 = .ok (.iload_n 3, 1) := by decide +kernel
theorem d_Mod_read_134 : decode prog_10_method_22_code 134 = .ok (.ifCond .ne 6, 3) := by decide +kernel
theorem d_Mod_read_137 : decode prog_10_method_22_code 137 = .ok (.goto (-50), 3) := by decide +kernel
theorem d_Mod_read_140 : decode prog_10_method_22_code 140 = .ok (.aload_n 0, 1) := by decide +kernel
theorem d_Mod_read_141 : decode prog_10_method_22_code 141 = .ok (.dup, 1) := by decide +kernel
theorem d_Mod_read_142 : decode prog_10_method_22_code 142 = .ok (.getfield 138, 3) := by decide +kernel
theorem d_Mod_read_145 : decode prog_10_method_22_code 145 = .ok (.iconst 1, 1) := by decide +kernel
theorem d_Mod_read_146 : decode prog_10_method_22_code 146 = .ok (.isub, 1) := by decide +kernel
theorem d_Mod_read_147 : decode prog_10_method_22_code 147 = .ok (.putfield 138, 3) := by decide +kernel
theorem d_Mod_read_150 : decode prog_10_method_22_code 150 = .ok (.aload_n 0, 1) := by decide +kernel
theorem d_Mod_read_151 : decode prog_10_method_22_code 151 = .ok (.dup, 1) := by decide +kernel
theorem d_Mod_read_152 : decode prog_10_method_22_code 152 = .ok (.getfield 141, 3) := by decide +kernel
theorem d_Mod_read_155 : decode prog_10_method_22_code 155 = .ok (.iconst 1, 1) := by decide +kernel
theorem d_Mod_read_156 : decode prog_10_method_22_code 156 = .ok (.isub, 1) := by decide +kernel
theorem d_Mod_read_157 : decode prog_10_method_22_code 157 = .ok (.putfield 141, 3) := by decide +kernel
theorem d_Mod_read_160 : decode prog_10_method_22_code 160 = .ok (.aload_n 0, 1) := by decide +kernel
theorem d_Mod_read_161 : decode prog_10_method_22_code 161 = .ok (.dup, 1) := by decide +kernel
theorem d_Mod_read_162 : decode prog_10_method_22_code 162 = .ok (.getfield 107, 3) := by decide +kernel
theorem d_Mod_read_165 : decode prog_10_method_22_code 165 = .ok (.iconst 1, 1) := by decide +kernel
theorem d_Mod_read_166 : decode prog_10_method_22_code 166 = .ok (.iadd, 1) := by decide +kernel
theorem d_Mod_read_167 : decode prog_10_method_22_code 167 = .ok (.putfield 107, 3) := by decide +kernel
theorem d_Mod_read_170 : decode prog_10_method_22_code 170 = .ok (.aload_n 0, 1) := by decide +kernel
theorem d_Mod_read_171 : decode prog_10_method_22_code 171 = .ok (.getfield 68, 3) := by decide +kernel
theorem d_Mod_read_174 : decode prog_10_method_22_code 174 = .ok (.aload_n 0, 1) := by decide +kernel
theorem d_Mod_read_175 : decode prog_10_method_22_code 175 = .ok (.getfield 138, 3) := by decide +kernel
theorem d_Mod_read_178 : decode prog_10_method_22_code 178 = .ok (.iaload, 1) := by decide +kernel
theorem d_Mod_read_179 : decode prog_10_method_22_code 179 = .ok (.iconst 3, 1) := by decide +kernel
theorem d_Mod_read_180 : decode prog_10_method_22_code 180 = .ok (.if_icmp .ne 18, 3) := by decide +kernel
theorem d_Mod_read_183 : decode prog_10_method_22_code 183 = .ok (.aload_n 0, 1) := by decide +kernel
theorem d_Mod_read_184 : decode prog_10_method_22_code 184 = .ok (.getfield 62, 3) := by decide +kernel
theorem d_Mod_read_187 : decode prog_10_method_22_code 187 = .ok (.aload_n 0, 1) := by decide +kernel
theorem d_Mod_read_188 : decode prog_10_method_22_code 188 = .ok (.getfield 71, 3) := by decide +kernel
theorem d_Mod_read_191 : decode prog_10_method_22_code 191 = .ok (.aload_n 0, 1) := by decide +kernel
theorem d_Mod_read_192 : decode prog_10_method_22_code 192 = .ok (.getfield 138, 3) := by decide +kernel
theorem d_Mod_read_195 : decode prog_10_method_22_code 195 = .ok (.iaload, 1) := by decide +kernel
theorem d_Mod_read_196 : decode prog_10_method_22_code 196 = .ok (.iload_n 1, 1) := by decide +kernel
theorem d_Mod_read_197 : decode prog_10_method_22_code 197 = .ok (.iastore, 1) := by decide +kernel
theorem d_Mod_read_198 : decode prog_10_method_22_code 198 = .ok (.aload_n 0, 1) := by decide +kernel
theorem d_Mod_read_199 : decode prog_10_method_22_code 199 = .ok (.aload_n 0, 1) := by decide +kernel
theorem d_Mod_read_200 : decode prog_10_method_22_code 200 = .ok (.getfield 68, 3) := by decide +kernel
theorem d_Mod_read_203 : decode prog_10_method_22_code 203 = .ok (.aload_n 0, 1) := by decide +kernel
theorem d_Mod_read_204 : decode prog_10_method_22_code 204 = .ok (.getfield 138, 3) := by decide +kernel
theorem d_Mod_read_207 : decode prog_10_method_22_code 207 = .ok (.iaload, 1) := by decide +kernel
theorem d_Mod_read_208 : decode prog_10_method_22_code 208 = .ok (.iconst 3, 1) := by decide +kernel
theorem d_Mod_read_209 : decode prog_10_method_22_code 209 = .ok (.if_icmp .ne 15, 3) := by decide +kernel
theorem d_Mod_read_212 : decode prog_10_method_22_code 212 = .ok (.aload_n 0, 1) := by decide +kernel
theorem d_Mod_read_213 : decode prog_10_method_22_code 213 = .ok (.getfield 71, 3) := by decide +kernel
theorem d_Mod_read_216 : decode prog_10_method_22_code 216 = .ok (.aload_n 0, 1) := by decide +kernel
theorem d_Mod_read_217 : decode prog_10_method_22_code 217 = .ok (.getfield 138, 3) := by decide +kernel
theorem d_Mod_read_220 : decode prog_10_method_22_code 220 = .ok (.iaload, 1) := by decide +kernel
theorem d_Mod_read_221 : decode prog_10_method_22_code 221 = .ok (.goto 4, 3) := by decide +kernel
theorem d_Mod_read_224 : decode prog_10_method_22_code 224 = .ok (.iload_n 1, 1) := by decide +kernel
theorem d_Mod_read_225 : decode prog_10_method_22_code 225 = .ok (.invokevirtual 184, 3) := by decide +kernel
theorem d_Mod_read_228 : decode prog_10_method_22_code 228 = .ok (.istore_n 1, 1) := by decide +kernel
theorem d_Mod_read_229 : decode prog_10_method_22_code 229 = .ok (.goto (-142), 3) := by decide +kernel
theorem d_Mod_read_232 : decode prog_10_method_22_code 232 = .ok (.aload_n 0, 1) := by decide +kernel
theorem d_Mod_read_233 : decode prog_10_method_22_code 233 = .ok (.getfield 128, 3) := by decide +kernel
theorem d_Mod_read_236 : decode prog_10_method_22_code 236 = .ok (.ifCond .lt 5, 3) := by decide +kernel
theorem d_Mod_read_239 : decode prog_10_method_22_code 239 = .ok (.iconst 0, 1) := by decide +kernel
theorem d_Mod_read_240 : decode prog_10_method_22_code 240 = .ok (.ireturn, 1) := by decide +kernel
theorem d_Mod_read_241 : decode prog_10_method_22_code 241 = .ok (.aload_n 0, 1) := by decide +kernel
theorem d_Mod_read_242 : decode prog_10_method_22_code 242 = .ok (.invokevirtual 147, 3) := by decide +kernel
theorem d_Mod_read_245 : decode prog_10_method_22_code 245 = .ok (.istore_n 3, 1) := by decide +kernel
theorem d_Mod_read_246 : decode prog_10_method_22_code 246 = .ok (.iload_n 3, 1) := by decide +kernel
theorem d_Mod_read_247 : decode prog_10_method_22_code 247 = .ok (.bipush 38, 2) := by decide +kernel
theorem d_Mod_read_249 : decode prog_10_method_22_code 249 = .ok (.if_icmp .eq 9, 3) := by decide +kernel
theorem d_Mod_read_252 : decode prog_10_method_22_code 252 = .ok (.iload_n 3, 1) := by decide +kernel
theorem d_Mod_read_253 : decode prog_10_method_22_code 253 = .ok (.bipush 124, 2) := by decide +kernel
theorem d_Mod_read_255 : decode prog_10_method_22_code 255 = .ok (.if_icmp .ne 87, 3) := by decide +kernel
theorem d_Mod_read_258 : decode prog_10_method_22_code 258 = .ok (.iload_n 3, 1) := by decide +kernel
theorem d_Mod_read_259 : decode prog_10_method_22_code 259 = .ok (.bipush 124, 2) := by decide +kernel
theorem d_Mod_read_261 : decode prog_10_method_22_code 261 = .ok (.if_icmp .ne 11, 3) := by decide +kernel
theorem d_Mod_read_264 : decode prog_10_method_22_code 264 = .ok (.aload_n 0, 1) := by decide +kernel
theorem d_Mod_read_265 : decode prog_10_method_22_code 265 = .ok (.iload_n 1, 1) := by decide +kernel
theorem d_Mod_read_266 : decode prog_10_method_22_code 266 = .ok (.invokevirtual 188, 3) := by decide +kernel
theorem d_Mod_read_269 : decode prog_10_method_22_code 269 = .ok (.goto 4, 3) := by decide +kernel
theorem d_Mod_read_272 : decode prog_10_method_22_code 272 = .ok (.iload_n 1, 1) := by decide +kernel
theorem d_Mod_read_273 : decode prog_10_method_22_code 273 = .ok (.istore 4, 2) := by decide +kernel
theorem d_Mod_read_275 : decode prog_10_method_22_code 275 = .ok (.aload_n 0, 1) := by decide +kernel
theorem d_Mod_read_276 : decode prog_10_method_22_code 276 = .ok (.iload_n 3, 1) := by decide +kernel
theorem d_Mod_read_277 : decode prog_10_method_22_code 277 = .ok (.bipush 124, 2) := by decide +kernel
theorem d_Mod_read_279 : decode prog_10_method_22_code 279 = .ok (.if_icmp .ne 7, 3) := by decide +kernel
theorem d_Mod_read_282 : decode prog_10_method_22_code 282 = .ok (.iconst 0, 1) := by decide +kernel
theorem d_Mod_read_283 : decode prog_10_method_22_code 283 = .ok (.goto 4, 3) := by decide +kernel
theorem d_Mod_read_286 : decode prog_10_method_22_code 286 = .ok (.iconst 1, 1) := by decide +kernel
theorem d_Mod_read_287 : decode prog_10_method_22_code 287 = .ok (.aload_n 0, 1) := by decide +kernel
theorem d_Mod_read_288 : decode prog_10_method_22_code 288 = .ok (.getfield 107, 3) := by decide +kernel
theorem d_Mod_read_291 : decode prog_10_method_22_code 291 = .ok (.invokevirtual 158, 3) := by decide +kernel
theorem d_Mod_read_294 : decode prog_10_method_22_code 294 = .ok (.istore 5, 2) := by decide +kernel
theorem d_Mod_read_296 : decode prog_10_method_22_code 296 = .ok (.aload_n 0, 1) := by decide +kernel
theorem d_Mod_read_297 : decode prog_10_method_22_code 297 = .ok (.getfield 128, 3) := by decide +kernel
theorem d_Mod_read_300 : decode prog_10_method_22_code 300 = .ok (.ifCond .ge 12, 3) := by decide +kernel
theorem d_Mod_read_303 : decode prog_10_method_22_code 303 = .ok (.aload_n 0, 1) := by decide +kernel
theorem d_Mod_read_304 : decode prog_10_method_22_code 304 = .ok (.getfield 62, 3) := by decide +kernel
theorem d_Mod_read_307 : decode prog_10_method_22_code 307 = .ok (.iload 5, 2) := by decide +kernel
theorem d_Mod_read_309 : decode prog_10_method_22_code 309 = .ok (.iload 4, 2) := by decide +kernel
theorem d_Mod_read_311 : decode prog_10_method_22_code 311 = .ok (.iastore, 1) := by decide +kernel
theorem d_Mod_read_312 : decode prog_10_method_22_code 312 = .ok (.aload_n 0, 1) := by decide +kernel
theorem d_Mod_read_313 : decode prog_10_method_22_code 313 = .ok (.iload_n 3, 1) := by decide +kernel
theorem d_Mod_read_314 : decode prog_10_method_22_code 314 = .ok (.bipush 124, 2) := by decide +kernel
theorem d_Mod_read_316 : decode prog_10_method_22_code 316 = .ok (.if_icmp .ne 7, 3) := by decide +kernel
theorem d_Mod_read_319 : decode prog_10_method_22_code 319 = .ok (.iconst 0, 1) := by decide +kernel
theorem d_Mod_read_320 : decode prog_10_method_22_code 320 = .ok (.goto 4, 3) := by decide +kernel
theorem d_Mod_read_323 : decode prog_10_method_22_code 323 = .ok (.iconst 1, 1) := by decide +kernel
theorem d_Mod_read_324 : decode prog_10_method_22_code 324 = .ok (.iload 5, 2) := by decide +kernel
theorem d_Mod_read_326 : decode prog_10_method_22_code 326 = .ok (.invokevirtual 173, 3) := by decide +kernel
theorem d_Mod_read_329 : decode prog_10_method_22_code 329 = .ok (.aload_n 0, 1) := by decide +kernel
theorem d_Mod_read_330 : decode prog_10_method_22_code 330 = .ok (.dup, 1) := by decide +kernel
theorem d_Mod_read_331 : decode prog_10_method_22_code 331 = .ok (.getfield 107, 3) := by decide +kernel
theorem d_Mod_read_334 : decode prog_10_method_22_code 334 = .ok (.iconst 1, 1) := by decide +kernel
theorem d_Mod_read_335 : decode prog_10_method_22_code 335 = .ok (.iadd, 1) := by decide +kernel
theorem d_Mod_read_336 : decode prog_10_method_22_code 336 = .ok (.putfield 107, 3) := by decide +kernel
theorem d_Mod_read_339 : decode prog_10_method_22_code 339 = .ok (.goto 38, 3) := by decide +kernel
theorem d_Mod_read_342 : decode prog_10_method_22_code 342 = .ok (.aload_n 0, 1) := by decide +kernel
theorem d_Mod_read_343 : decode prog_10_method_22_code 343 = .ok (.iload_n 1, 1) := by decide +kernel
theorem d_Mod_read_344 : decode prog_10_method_22_code 344 = .ok (.invokevirtual 188, 3) := by decide +kernel
theorem d_Mod_read_347 : decode prog_10_method_22_code 347 = .ok (.istore_n 1, 1) := by decide +kernel
theorem d_Mod_read_348 : decode prog_10_method_22_code 348 = .ok (.iload_n 3, 1) := by decide +kernel
theorem d_Mod_read_349 : decode prog_10_method_22_code 349 = .ok (.iconst (-1), 1) := by decide +kernel
theorem d_Mod_read_350 : decode prog_10_method_22_code 350 = .ok (.if_icmp .ne 10, 3) := by decide +kernel
theorem d_Mod_read_353 : decode prog_10_method_22_code 353 = .ok (.aload_n 0, 1) := by decide +kernel
theorem d_Mod_read_354 : decode prog_10_method_22_code 354 = .ok (.getfield 138, 3) := by decide +kernel
theorem d_Mod_read_357 : decode prog_10_method_22_code 357 = .ok (.ifCond .le 11, 3) := by decide +kernel
theorem d_Mod_read_360 : decode prog_10_method_22_code 360 = .ok (.aload_n 0, 1) := by decide +kernel
theorem d_Mod_read_361 : decode prog_10_method_22_code 361 = .ok (.aload_n 0, 1) := by decide +kernel
theorem d_Mod_read_362 : decode prog_10_method_22_code 362 = .ok (.getfield 107, 3) := by decide +kernel
theorem d_Mod_read_365 : decode prog_10_method_22_code 365 = .ok (.invokevirtual 134, 3) := by decide +kernel
theorem d_Mod_read_368 : decode prog_10_method_22_code 368 = .ok (.aload_n 0, 1) := by decide +kernel
theorem d_Mod_read_369 : decode prog_10_method_22_code 369 = .ok (.getfield 128, 3) := by decide +kernel
theorem d_Mod_read_372 : decode prog_10_method_22_code 372 = .ok (.ifCond .ge 5, 3) := by decide +kernel
theorem d_Mod_read_375 : decode prog_10_method_22_code 375 = .ok (.iload_n 1, 1) := by decide +kernel
theorem d_Mod_read_376 : decode prog_10_method_22_code 376 = .ok (.ireturn, 1) := by decide +kernel
theorem d_Mod_read_377 : decode prog_10_method_22_code 377 = .ok (.goto (-352), 3) := by decide +kernel
theorem d_Mod_read_380 : decode prog_10_method_22_code 380 = .ok (.iconst 0, 1) := by decide +kernel
theorem d_Mod_read_381 : decode prog_10_method_22_code 381 = .ok (.ireturn, 1) := by decide +kernel
def m_read_B : Nat → Nat → Int32 → Int32 → Int32 → Int32 → MS → Option (Int32 × MS)
  | 0, _, _, _, _, _, _ => none
  | n + 1, b, x1, x2, x3, x5, μ => if b = 0 then (if 0 ≤ (μ.1 27) then some (0, μ) else m_read_B n 1 0 0 0 0 μ)
    else if b = 1 then (if 0 ≤ (μ.1 27) then m_read_B n 2 0 0 0 0 μ else (m_begins μ).bind (fun p40 => (if p40.1 = 0 then (m_look p40.2).bind (fun p47 => m_read_B n 1 0 0 0 0 p47.2) else m_read_B n 2 0 0 0 0 p40.2)))
    else if b = 2 then (if 0 ≤ (μ.1 27) then m_read_B n 3 0 0 0 0 μ else (m_comparison μ).bind (fun p63 => (m_taken p63.1 p63.2).bind (fun p66 => (if 0 ≤ (p66.2.1 27) then m_read_B n 3 p66.1 0 0 0 p66.2 else m_read_B n 3 p66.1 1 0 0 p66.2))))
    else if b = 3 then (if x2 = 0 then m_read_B n 6 x1 0 0 0 μ else (m_look μ).bind (fun p92 => (if p92.1 = 41 then (m_or x1 p92.2).bind (fun p102 => (if (p102.2.1 30) ≤ 0 then (m_fail (p102.2.1 25) p102.2).bind (fun p128 => m_read_B n 4 p102.1 0 0 0 p128) else m_read_B n 4 p102.1 0 1 0 p102.2)) else m_read_B n 6 x1 0 0 0 p92.2)))
    else if b = 4 then (if x3 = 0 then m_read_B n 3 x1 x3 0 0 μ else (if inb ((μ.1 30) - 1) 64 = true then (if ((μ.2.1 28) ((μ.1 30) - 1).toNatClampNeg) = 3 then (if inb ((μ.2.1 29) ((μ.1 30) - 1).toNatClampNeg) 40 = true then m_read_B n 5 x1 x3 0 0 (sA 22 (((μ.2.1 29) ((μ.1 30) - 1).toNatClampNeg).toNatClampNeg) x1 (sI 25 ((μ.1 25) + 1) (sI 26 ((μ.1 26) - 1) (sI 30 ((μ.1 30) - 1) μ)))) else none) else m_read_B n 5 x1 x3 0 0 (sI 25 ((μ.1 25) + 1) (sI 26 ((μ.1 26) - 1) (sI 30 ((μ.1 30) - 1) μ)))) else none))
    else if b = 5 then (if inb (μ.1 30) 64 = true then (if ((μ.2.1 28) (μ.1 30).toNatClampNeg) = 3 then (m_taken ((μ.2.1 29) (μ.1 30).toNatClampNeg) μ).bind (fun p225 => m_read_B n 3 p225.1 x2 0 0 p225.2) else (m_taken x1 μ).bind (fun p225 => m_read_B n 3 p225.1 x2 0 0 p225.2)) else none)
    else if b = 6 then (if (μ.1 27) < 0 then (m_look μ).bind (fun p242 => (if p242.1 = 38 then m_read_B n 7 x1 0 p242.1 0 p242.2 else (if p242.1 = 124 then m_read_B n 7 x1 0 p242.1 0 p242.2 else (m_or x1 p242.2).bind (fun p344 => (if p242.1 = (-1) then (if (p344.2.1 30) ≤ 0 then m_read_B n 10 p344.1 0 0 0 p344.2 else m_read_B n 9 p344.1 0 0 0 p344.2) else m_read_B n 9 p344.1 0 0 0 p344.2))))) else some (0, μ))
    else if b = 7 then (if x3 = 124 then (m_or x1 μ).bind (fun p266 => (m_node 0 (p266.2.1 25) p266.2).bind (fun p291 => (if 0 ≤ (p291.2.1 27) then m_read_B n 8 0 0 x3 p291.1 p291.2 else (if inb p291.1 40 = true then m_read_B n 8 0 0 x3 p291.1 (sA 22 (p291.1.toNatClampNeg) p266.1 p291.2) else none)))) else (m_node 1 (μ.1 25) μ).bind (fun p291 => (if 0 ≤ (p291.2.1 27) then m_read_B n 8 0 0 x3 p291.1 p291.2 else (if inb p291.1 40 = true then m_read_B n 8 0 0 x3 p291.1 (sA 22 (p291.1.toNatClampNeg) x1 p291.2) else none))))
    else if b = 8 then (if x3 = 124 then (m_push 0 x5 μ).bind (fun p326 => m_read_B n 11 0 0 0 0 (sI 25 ((p326.1 25) + 1) p326)) else (m_push 1 x5 μ).bind (fun p326 => m_read_B n 11 0 0 0 0 (sI 25 ((p326.1 25) + 1) p326)))
    else if b = 9 then (m_fail (μ.1 25) μ).bind (fun p365 => m_read_B n 10 x1 0 0 0 p365)
    else if b = 10 then (if 0 ≤ (μ.1 27) then m_read_B n 11 0 0 0 0 μ else some (x1, μ))
    else m_read_B n 0 0 0 0 0 μ
theorem m_read_b0 (n : Nat) (x1 : Int32) (x2 : Int32) (x3 : Int32) (x5 : Int32) (μ : MS) : m_read_B (n + 1) 0 x1 x2 x3 x5 μ = (if 0 ≤ (μ.1 27) then some (0, μ) else m_read_B n 1 0 0 0 0 μ) := by
  rw [m_read_B, if_pos rfl]
theorem m_read_b1 (n : Nat) (x1 : Int32) (x2 : Int32) (x3 : Int32) (x5 : Int32) (μ : MS) : m_read_B (n + 1) 1 x1 x2 x3 x5 μ = (if 0 ≤ (μ.1 27) then m_read_B n 2 0 0 0 0 μ else (m_begins μ).bind (fun p40 => (if p40.1 = 0 then (m_look p40.2).bind (fun p47 => m_read_B n 1 0 0 0 0 p47.2) else m_read_B n 2 0 0 0 0 p40.2))) := by
  rw [m_read_B, if_neg (by decide), if_pos rfl]
theorem m_read_b2 (n : Nat) (x1 : Int32) (x2 : Int32) (x3 : Int32) (x5 : Int32) (μ : MS) : m_read_B (n + 1) 2 x1 x2 x3 x5 μ = (if 0 ≤ (μ.1 27) then m_read_B n 3 0 0 0 0 μ else (m_comparison μ).bind (fun p63 => (m_taken p63.1 p63.2).bind (fun p66 => (if 0 ≤ (p66.2.1 27) then m_read_B n 3 p66.1 0 0 0 p66.2 else m_read_B n 3 p66.1 1 0 0 p66.2)))) := by
  rw [m_read_B, if_neg (by decide), if_neg (by decide), if_pos rfl]
theorem m_read_b3 (n : Nat) (x1 : Int32) (x2 : Int32) (x3 : Int32) (x5 : Int32) (μ : MS) : m_read_B (n + 1) 3 x1 x2 x3 x5 μ = (if x2 = 0 then m_read_B n 6 x1 0 0 0 μ else (m_look μ).bind (fun p92 => (if p92.1 = 41 then (m_or x1 p92.2).bind (fun p102 => (if (p102.2.1 30) ≤ 0 then (m_fail (p102.2.1 25) p102.2).bind (fun p128 => m_read_B n 4 p102.1 0 0 0 p128) else m_read_B n 4 p102.1 0 1 0 p102.2)) else m_read_B n 6 x1 0 0 0 p92.2))) := by
  rw [m_read_B, if_neg (by decide), if_neg (by decide), if_neg (by decide), if_pos rfl]
theorem m_read_b4 (n : Nat) (x1 : Int32) (x2 : Int32) (x3 : Int32) (x5 : Int32) (μ : MS) : m_read_B (n + 1) 4 x1 x2 x3 x5 μ = (if x3 = 0 then m_read_B n 3 x1 x3 0 0 μ else (if inb ((μ.1 30) - 1) 64 = true then (if ((μ.2.1 28) ((μ.1 30) - 1).toNatClampNeg) = 3 then (if inb ((μ.2.1 29) ((μ.1 30) - 1).toNatClampNeg) 40 = true then m_read_B n 5 x1 x3 0 0 (sA 22 (((μ.2.1 29) ((μ.1 30) - 1).toNatClampNeg).toNatClampNeg) x1 (sI 25 ((μ.1 25) + 1) (sI 26 ((μ.1 26) - 1) (sI 30 ((μ.1 30) - 1) μ)))) else none) else m_read_B n 5 x1 x3 0 0 (sI 25 ((μ.1 25) + 1) (sI 26 ((μ.1 26) - 1) (sI 30 ((μ.1 30) - 1) μ)))) else none)) := by
  rw [m_read_B, if_neg (by decide), if_neg (by decide), if_neg (by decide), if_neg (by decide), if_pos rfl]
theorem m_read_b5 (n : Nat) (x1 : Int32) (x2 : Int32) (x3 : Int32) (x5 : Int32) (μ : MS) : m_read_B (n + 1) 5 x1 x2 x3 x5 μ = (if inb (μ.1 30) 64 = true then (if ((μ.2.1 28) (μ.1 30).toNatClampNeg) = 3 then (m_taken ((μ.2.1 29) (μ.1 30).toNatClampNeg) μ).bind (fun p225 => m_read_B n 3 p225.1 x2 0 0 p225.2) else (m_taken x1 μ).bind (fun p225 => m_read_B n 3 p225.1 x2 0 0 p225.2)) else none) := by
  rw [m_read_B, if_neg (by decide), if_neg (by decide), if_neg (by decide), if_neg (by decide), if_neg (by decide), if_pos rfl]
theorem m_read_b6 (n : Nat) (x1 : Int32) (x2 : Int32) (x3 : Int32) (x5 : Int32) (μ : MS) : m_read_B (n + 1) 6 x1 x2 x3 x5 μ = (if (μ.1 27) < 0 then (m_look μ).bind (fun p242 => (if p242.1 = 38 then m_read_B n 7 x1 0 p242.1 0 p242.2 else (if p242.1 = 124 then m_read_B n 7 x1 0 p242.1 0 p242.2 else (m_or x1 p242.2).bind (fun p344 => (if p242.1 = (-1) then (if (p344.2.1 30) ≤ 0 then m_read_B n 10 p344.1 0 0 0 p344.2 else m_read_B n 9 p344.1 0 0 0 p344.2) else m_read_B n 9 p344.1 0 0 0 p344.2))))) else some (0, μ)) := by
  rw [m_read_B, if_neg (by decide), if_neg (by decide), if_neg (by decide), if_neg (by decide), if_neg (by decide), if_neg (by decide), if_pos rfl]
theorem m_read_b7 (n : Nat) (x1 : Int32) (x2 : Int32) (x3 : Int32) (x5 : Int32) (μ : MS) : m_read_B (n + 1) 7 x1 x2 x3 x5 μ = (if x3 = 124 then (m_or x1 μ).bind (fun p266 => (m_node 0 (p266.2.1 25) p266.2).bind (fun p291 => (if 0 ≤ (p291.2.1 27) then m_read_B n 8 0 0 x3 p291.1 p291.2 else (if inb p291.1 40 = true then m_read_B n 8 0 0 x3 p291.1 (sA 22 (p291.1.toNatClampNeg) p266.1 p291.2) else none)))) else (m_node 1 (μ.1 25) μ).bind (fun p291 => (if 0 ≤ (p291.2.1 27) then m_read_B n 8 0 0 x3 p291.1 p291.2 else (if inb p291.1 40 = true then m_read_B n 8 0 0 x3 p291.1 (sA 22 (p291.1.toNatClampNeg) x1 p291.2) else none)))) := by
  rw [m_read_B, if_neg (by decide), if_neg (by decide), if_neg (by decide), if_neg (by decide), if_neg (by decide), if_neg (by decide), if_neg (by decide), if_pos rfl]
theorem m_read_b8 (n : Nat) (x1 : Int32) (x2 : Int32) (x3 : Int32) (x5 : Int32) (μ : MS) : m_read_B (n + 1) 8 x1 x2 x3 x5 μ = (if x3 = 124 then (m_push 0 x5 μ).bind (fun p326 => m_read_B n 11 0 0 0 0 (sI 25 ((p326.1 25) + 1) p326)) else (m_push 1 x5 μ).bind (fun p326 => m_read_B n 11 0 0 0 0 (sI 25 ((p326.1 25) + 1) p326))) := by
  rw [m_read_B, if_neg (by decide), if_neg (by decide), if_neg (by decide), if_neg (by decide), if_neg (by decide), if_neg (by decide), if_neg (by decide), if_neg (by decide), if_pos rfl]
theorem m_read_b9 (n : Nat) (x1 : Int32) (x2 : Int32) (x3 : Int32) (x5 : Int32) (μ : MS) : m_read_B (n + 1) 9 x1 x2 x3 x5 μ = (m_fail (μ.1 25) μ).bind (fun p365 => m_read_B n 10 x1 0 0 0 p365) := by
  rw [m_read_B, if_neg (by decide), if_neg (by decide), if_neg (by decide), if_neg (by decide), if_neg (by decide), if_neg (by decide), if_neg (by decide), if_neg (by decide), if_neg (by decide), if_pos rfl]
theorem m_read_b10 (n : Nat) (x1 : Int32) (x2 : Int32) (x3 : Int32) (x5 : Int32) (μ : MS) : m_read_B (n + 1) 10 x1 x2 x3 x5 μ = (if 0 ≤ (μ.1 27) then m_read_B n 11 0 0 0 0 μ else some (x1, μ)) := by
  rw [m_read_B, if_neg (by decide), if_neg (by decide), if_neg (by decide), if_neg (by decide), if_neg (by decide), if_neg (by decide), if_neg (by decide), if_neg (by decide), if_neg (by decide), if_neg (by decide), if_pos rfl]
theorem m_read_b11 (n : Nat) (x1 : Int32) (x2 : Int32) (x3 : Int32) (x5 : Int32) (μ : MS) : m_read_B (n + 1) 11 x1 x2 x3 x5 μ = m_read_B n 0 0 0 0 0 μ := by
  rw [m_read_B, if_neg (by decide), if_neg (by decide), if_neg (by decide), if_neg (by decide), if_neg (by decide), if_neg (by decide), if_neg (by decide), if_neg (by decide), if_neg (by decide), if_neg (by decide), if_neg (by decide)]
def m_read (μ : MS) : Option (Int32 × MS) := m_read_B 4096 0 0 0 0 0 (sI 27 (-1) (sI 30 0 (sI 26 0 (sI 24 0 (sI 25 0 μ)))))
set_option maxHeartbeats 4000000 in
set_option maxRecDepth 100000 in
theorem c_Mod_read {A : Nat → Nat} {f0 : Nat → va_E} {μ : MS} {res : (Int32 × MS)} (hM : zMf ck b0 N A f0 f μ) (h : m_read μ = some res) : zK l D ck ad b0 y_Mod_read prog_10_method_22_code 6 ((some FieldType.int)) 7 0 0 [.ref (A 38)] N f (fun r N' f' => r = some (.int res.1) ∧ N = N' ∧ zMf ck b0 N A f0 f' res.2) := by
  refine zM.of zG_w (by decide) (Nat.le_of_ble_eq_true rfl) ?_
  intro zp ze zst zm zar zbe zme zc X hnm hb0
  have L : ∀ n : Nat, (∀ (x1 : Int32) (x2 : Int32) (x3 : Int32) (x5 : Int32) (f1 : Nat → va_E) (μ : MS), zMf ck b0 N A f0 f1 μ → m_read_B n 0 x1 x2 x3 x5 μ = some res → zW zp l ze (zR 7 0 0) zst zm zar zbe zme zc D zcl b0 6 0 0 (MQ zbe (zQ D zcl b0 (fun r N' f' => r = some (.int res.1) ∧ N = N' ∧ zMf ck b0 N A f0 f' res.2)) zar zst 0 0 (zA b0)) N f1 25 [(0, .ref (A 38))] []) ∧ (∀ (x1 : Int32) (x2 : Int32) (x3 : Int32) (x5 : Int32) (f1 : Nat → va_E) (μ : MS), zMf ck b0 N A f0 f1 μ → m_read_B n 1 x1 x2 x3 x5 μ = some res → zW zp l ze (zR 7 0 0) zst zm zar zbe zme zc D zcl b0 6 0 0 (MQ zbe (zQ D zcl b0 (fun r N' f' => r = some (.int res.1) ∧ N = N' ∧ zMf ck b0 N A f0 f' res.2)) zar zst 0 0 (zA b0)) N f1 32 [(0, .ref (A 38))] []) ∧ (∀ (x1 : Int32) (x2 : Int32) (x3 : Int32) (x5 : Int32) (f1 : Nat → va_E) (μ : MS), zMf ck b0 N A f0 f1 μ → m_read_B n 2 x1 x2 x3 x5 μ = some res → zW zp l ze (zR 7 0 0) zst zm zar zbe zme zc D zcl b0 6 0 0 (MQ zbe (zQ D zcl b0 (fun r N' f' => r = some (.int res.1) ∧ N = N' ∧ zMf ck b0 N A f0 f' res.2)) zar zst 0 0 (zA b0)) N f1 54 [(0, .ref (A 38))] []) ∧ (∀ (x1 : Int32) (x2 : Int32) (x3 : Int32) (x5 : Int32) (f1 : Nat → va_E) (μ : MS), zMf ck b0 N A f0 f1 μ → m_read_B n 3 x1 x2 x3 x5 μ = some res → zW zp l ze (zR 7 0 0) zst zm zar zbe zme zc D zcl b0 6 0 0 (MQ zbe (zQ D zcl b0 (fun r N' f' => r = some (.int res.1) ∧ N = N' ∧ zMf ck b0 N A f0 f' res.2)) zar zst 0 0 (zA b0)) N f1 87 [(0, .ref (A 38)), (1, .int x1), (2, .int x2)] []) ∧ (∀ (x1 : Int32) (x2 : Int32) (x3 : Int32) (x5 : Int32) (f1 : Nat → va_E) (μ : MS), zMf ck b0 N A f0 f1 μ → m_read_B n 4 x1 x2 x3 x5 μ = some res → zW zp l ze (zR 7 0 0) zst zm zar zbe zme zc D zcl b0 6 0 0 (MQ zbe (zQ D zcl b0 (fun r N' f' => r = some (.int res.1) ∧ N = N' ∧ zMf ck b0 N A f0 f' res.2)) zar zst 0 0 (zA b0)) N f1 131 [(0, .ref (A 38)), (1, .int x1), (3, .int x3)] []) ∧ (∀ (x1 : Int32) (x2 : Int32) (x3 : Int32) (x5 : Int32) (f1 : Nat → va_E) (μ : MS), zMf ck b0 N A f0 f1 μ → m_read_B n 5 x1 x2 x3 x5 μ = some res → zW zp l ze (zR 7 0 0) zst zm zar zbe zme zc D zcl b0 6 0 0 (MQ zbe (zQ D zcl b0 (fun r N' f' => r = some (.int res.1) ∧ N = N' ∧ zMf ck b0 N A f0 f' res.2)) zar zst 0 0 (zA b0)) N f1 198 [(0, .ref (A 38)), (1, .int x1), (2, .int x2)] []) ∧ (∀ (x1 : Int32) (x2 : Int32) (x3 : Int32) (x5 : Int32) (f1 : Nat → va_E) (μ : MS), zMf ck b0 N A f0 f1 μ → m_read_B n 6 x1 x2 x3 x5 μ = some res → zW zp l ze (zR 7 0 0) zst zm zar zbe zme zc D zcl b0 6 0 0 (MQ zbe (zQ D zcl b0 (fun r N' f' => r = some (.int res.1) ∧ N = N' ∧ zMf ck b0 N A f0 f' res.2)) zar zst 0 0 (zA b0)) N f1 232 [(0, .ref (A 38)), (1, .int x1)] []) ∧ (∀ (x1 : Int32) (x2 : Int32) (x3 : Int32) (x5 : Int32) (f1 : Nat → va_E) (μ : MS), zMf ck b0 N A f0 f1 μ → m_read_B n 7 x1 x2 x3 x5 μ = some res → zW zp l ze (zR 7 0 0) zst zm zar zbe zme zc D zcl b0 6 0 0 (MQ zbe (zQ D zcl b0 (fun r N' f' => r = some (.int res.1) ∧ N = N' ∧ zMf ck b0 N A f0 f' res.2)) zar zst 0 0 (zA b0)) N f1 258 [(0, .ref (A 38)), (1, .int x1), (3, .int x3)] []) ∧ (∀ (x1 : Int32) (x2 : Int32) (x3 : Int32) (x5 : Int32) (f1 : Nat → va_E) (μ : MS), zMf ck b0 N A f0 f1 μ → m_read_B n 8 x1 x2 x3 x5 μ = some res → zW zp l ze (zR 7 0 0) zst zm zar zbe zme zc D zcl b0 6 0 0 (MQ zbe (zQ D zcl b0 (fun r N' f' => r = some (.int res.1) ∧ N = N' ∧ zMf ck b0 N A f0 f' res.2)) zar zst 0 0 (zA b0)) N f1 312 [(0, .ref (A 38)), (3, .int x3), (5, .int x5)] []) ∧ (∀ (x1 : Int32) (x2 : Int32) (x3 : Int32) (x5 : Int32) (f1 : Nat → va_E) (μ : MS), zMf ck b0 N A f0 f1 μ → m_read_B n 9 x1 x2 x3 x5 μ = some res → zW zp l ze (zR 7 0 0) zst zm zar zbe zme zc D zcl b0 6 0 0 (MQ zbe (zQ D zcl b0 (fun r N' f' => r = some (.int res.1) ∧ N = N' ∧ zMf ck b0 N A f0 f' res.2)) zar zst 0 0 (zA b0)) N f1 360 [(0, .ref (A 38)), (1, .int x1)] []) ∧ (∀ (x1 : Int32) (x2 : Int32) (x3 : Int32) (x5 : Int32) (f1 : Nat → va_E) (μ : MS), zMf ck b0 N A f0 f1 μ → m_read_B n 10 x1 x2 x3 x5 μ = some res → zW zp l ze (zR 7 0 0) zst zm zar zbe zme zc D zcl b0 6 0 0 (MQ zbe (zQ D zcl b0 (fun r N' f' => r = some (.int res.1) ∧ N = N' ∧ zMf ck b0 N A f0 f' res.2)) zar zst 0 0 (zA b0)) N f1 368 [(0, .ref (A 38)), (1, .int x1)] []) ∧ (∀ (x1 : Int32) (x2 : Int32) (x3 : Int32) (x5 : Int32) (f1 : Nat → va_E) (μ : MS), zMf ck b0 N A f0 f1 μ → m_read_B n 11 x1 x2 x3 x5 μ = some res → zW zp l ze (zR 7 0 0) zst zm zar zbe zme zc D zcl b0 6 0 0 (MQ zbe (zQ D zcl b0 (fun r N' f' => r = some (.int res.1) ∧ N = N' ∧ zMf ck b0 N A f0 f' res.2)) zar zst 0 0 (zA b0)) N f1 377 [(0, .ref (A 38))] []) := by
    intro n
    induction n with
    | zero =>
      exact ⟨fun _ _ _ _ _ _ _ h => (by rw [m_read_B] at h; cases h), fun _ _ _ _ _ _ _ h => (by rw [m_read_B] at h; cases h), fun _ _ _ _ _ _ _ h => (by rw [m_read_B] at h; cases h), fun _ _ _ _ _ _ _ h => (by rw [m_read_B] at h; cases h), fun _ _ _ _ _ _ _ h => (by rw [m_read_B] at h; cases h), fun _ _ _ _ _ _ _ h => (by rw [m_read_B] at h; cases h), fun _ _ _ _ _ _ _ h => (by rw [m_read_B] at h; cases h), fun _ _ _ _ _ _ _ h => (by rw [m_read_B] at h; cases h), fun _ _ _ _ _ _ _ h => (by rw [m_read_B] at h; cases h), fun _ _ _ _ _ _ _ h => (by rw [m_read_B] at h; cases h), fun _ _ _ _ _ _ _ h => (by rw [m_read_B] at h; cases h), fun _ _ _ _ _ _ _ h => (by rw [m_read_B] at h; cases h)⟩
    | succ n ih =>
      refine ⟨?_, ?_, ?_, ?_, ?_, ?_, ?_, ?_, ?_, ?_, ?_, ?_⟩
      · intro x1 x2 x3 x5 f1 μ hM h
        rw [m_read_b0] at h
        refine z_aload_n X d_Mod_read_25 rfl ?_
        refine z_get X (v := .int (μ.1 27)) d_Mod_read_26 (hM.lo 38 (by decide)) hM.ob cl_Mod in_Mod 27 (by decide) fl_Mod_128 rfl rfl ?_
        refine z_if_ge X 380 d_Mod_read_29 (by decide) (fun h29 => ?_) (fun h29 => ?_)
        · skip
          have h := (if_pos h29).symm.trans h
          refine z_iconst X d_Mod_read_380 (v := 0) (by decide) ?_
          have e9 := Option.some.inj h
          subst e9
          exact z_iret X d_Mod_read_381 ⟨rfl, rfl, hM⟩
        · skip
          have h := (if_neg h29).symm.trans h
          refine zW.pick [0] (lv' := [(0, .ref (A 38))]) rfl ?_
          exact (ih).2.1 0 0 0 0 _ _ hM h
      · intro x1 x2 x3 x5 f1 μ hM h
        rw [m_read_b1] at h
        refine z_aload_n X d_Mod_read_32 rfl ?_
        refine z_get X (v := .int (μ.1 27)) d_Mod_read_33 (hM.lo 38 (by decide)) hM.ob cl_Mod in_Mod 27 (by decide) fl_Mod_128 rfl rfl ?_
        refine z_if_ge X 54 d_Mod_read_36 (by decide) (fun h36 => ?_) (fun h36 => ?_)
        · skip
          have h := (if_pos h36).symm.trans h
          refine zW.pick [0] (lv' := [(0, .ref (A 38))]) rfl ?_
          exact (ih).2.2.1 0 0 0 0 _ _ hM h
        · skip
          have h := (if_neg h36).symm.trans h
          refine z_aload_n X d_Mod_read_39 rfl ?_
          obtain ⟨p40, q40, h⟩ := bd h
          refine z_callV X zG_ok (c_Mod_begins hM q40) d_Mod_read_40 ⟨(z_cb (n := 0) X.2.2.2.2.1 ml_Mod_177 mc_Mod_begins ini_Mod (by decide +kernel) rfl rfl ⟨Nat.le_of_ble_eq_true rfl, Nat.le_of_ble_eq_true rfl⟩), X.2.2.2.2.1 _ im_Mod_begins, X.2.2.2.2.1 _ sel_Mod_begins⟩ (hM.lo 38 (by decide)) hM.ob cl_Mod rfl rfl (Nat.le_of_ble_eq_true rfl) ⟨Nat.le_of_ble_eq_true rfl, Nat.le_of_ble_eq_true rfl⟩ (fun r N1 f1 hp hN1 => ?_)
          obtain ⟨rfl, rfl, hM⟩ := hp
          refine z_if_ne X 54 d_Mod_read_43 (by decide) (fun h43 => ?_) (fun h43 => ?_)
          · skip
            have h := (if_neg h43).symm.trans h
            refine zW.pick [0] (lv' := [(0, .ref (A 38))]) rfl ?_
            exact (ih).2.2.1 0 0 0 0 _ _ hM h
          · skip
            have h := (if_pos h43).symm.trans h
            refine z_aload_n X d_Mod_read_46 rfl ?_
            obtain ⟨p47, q47, h⟩ := bd h
            refine z_callV X zG_ok (c_Mod_look hM q47) d_Mod_read_47 ⟨(z_cb (n := 0) X.2.2.2.2.1 ml_Mod_147 mc_Mod_look ini_Mod (by decide +kernel) rfl rfl ⟨Nat.le_of_ble_eq_true rfl, Nat.le_of_ble_eq_true rfl⟩), X.2.2.2.2.1 _ im_Mod_look, X.2.2.2.2.1 _ sel_Mod_look⟩ (hM.lo 38 (by decide)) hM.ob cl_Mod rfl rfl (Nat.le_of_ble_eq_true rfl) ⟨Nat.le_of_ble_eq_true rfl, Nat.le_of_ble_eq_true rfl⟩ (fun r N1 f1 hp hN1 => ?_)
            obtain ⟨rfl, rfl, hM⟩ := hp
            refine z_pop X d_Mod_read_50 rfl ?_
            refine z_goto X 32 d_Mod_read_51 (by decide) ?_
            refine zW.pick [0] (lv' := [(0, .ref (A 38))]) rfl ?_
            exact (ih).2.1 0 0 0 0 _ _ hM h
      · intro x1 x2 x3 x5 f1 μ hM h
        rw [m_read_b2] at h
        refine z_aload_n X d_Mod_read_54 rfl ?_
        refine z_get X (v := .int (μ.1 27)) d_Mod_read_55 (hM.lo 38 (by decide)) hM.ob cl_Mod in_Mod 27 (by decide) fl_Mod_128 rfl rfl ?_
        refine z_if_ge X 72 d_Mod_read_58 (by decide) (fun h58 => ?_) (fun h58 => ?_)
        · skip
          have h := (if_pos h58).symm.trans h
          refine z_iconst X d_Mod_read_72 (v := 0) (by decide) ?_
          refine z_istore_n X d_Mod_read_73 (by decide) rfl ?_
          refine z_aload_n X d_Mod_read_74 rfl ?_
          refine z_get X (v := .int (μ.1 27)) d_Mod_read_75 (hM.lo 38 (by decide)) hM.ob cl_Mod in_Mod 27 (by decide) fl_Mod_128 rfl rfl ?_
          refine z_if_ge X 85 d_Mod_read_78 (by decide) (fun h78 => ?_) (fun h78 => ?_)
          · skip
            refine z_iconst X d_Mod_read_85 (v := 0) (by decide) ?_
            refine z_istore_n X d_Mod_read_86 (by decide) rfl ?_
            refine zW.pick [0, 1, 2] (lv' := [(0, .ref (A 38)), (1, .int 0), (2, .int 0)]) rfl ?_
            exact (ih).2.2.2.1 0 0 0 0 _ _ hM h
          · skip
            exact absurd h58 h78
        · skip
          have h := (if_neg h58).symm.trans h
          refine z_aload_n X d_Mod_read_61 rfl ?_
          refine z_aload_n X d_Mod_read_62 rfl ?_
          obtain ⟨p63, q63, h⟩ := bd h
          refine z_callV X zG_ok (c_Mod_comparison hM q63) d_Mod_read_63 ⟨(z_cb (n := 0) X.2.2.2.2.1 ml_Mod_181 mc_Mod_comparison ini_Mod (by decide +kernel) rfl rfl ⟨Nat.le_of_ble_eq_true rfl, Nat.le_of_ble_eq_true rfl⟩), X.2.2.2.2.1 _ im_Mod_comparison, X.2.2.2.2.1 _ sel_Mod_comparison⟩ (hM.lo 38 (by decide)) hM.ob cl_Mod rfl rfl (Nat.le_of_ble_eq_true rfl) ⟨Nat.le_of_ble_eq_true rfl, Nat.le_of_ble_eq_true rfl⟩ (fun r N1 f1 hp hN1 => ?_)
          obtain ⟨rfl, rfl, hM⟩ := hp
          obtain ⟨p66, q66, h⟩ := bd h
          refine z_callV X zG_ok (c_Mod_taken hM q66) d_Mod_read_66 ⟨(z_cb (n := 1) X.2.2.2.2.1 ml_Mod_184 mc_Mod_taken ini_Mod (by decide +kernel) rfl rfl ⟨Nat.le_of_ble_eq_true rfl, Nat.le_of_ble_eq_true rfl⟩), X.2.2.2.2.1 _ im_Mod_taken, X.2.2.2.2.1 _ sel_Mod_taken⟩ (hM.lo 38 (by decide)) hM.ob cl_Mod rfl rfl (Nat.le_of_ble_eq_true rfl) ⟨Nat.le_of_ble_eq_true rfl, Nat.le_of_ble_eq_true rfl⟩ (fun r N1 f1 hp hN1 => ?_)
          obtain ⟨rfl, rfl, hM⟩ := hp
          refine z_goto X 73 d_Mod_read_69 (by decide) ?_
          refine z_istore_n X d_Mod_read_73 (by decide) rfl ?_
          refine z_aload_n X d_Mod_read_74 rfl ?_
          refine z_get X (v := .int (p66.2.1 27)) d_Mod_read_75 (hM.lo 38 (by decide)) hM.ob cl_Mod in_Mod 27 (by decide) fl_Mod_128 rfl rfl ?_
          refine z_if_ge X 85 d_Mod_read_78 (by decide) (fun h78 => ?_) (fun h78 => ?_)
          · skip
            have h := (if_pos h78).symm.trans h
            refine z_iconst X d_Mod_read_85 (v := 0) (by decide) ?_
            refine z_istore_n X d_Mod_read_86 (by decide) rfl ?_
            refine zW.pick [0, 1, 2] (lv' := [(0, .ref (A 38)), (1, .int p66.1), (2, .int 0)]) rfl ?_
            exact (ih).2.2.2.1 p66.1 0 0 0 _ _ hM h
          · skip
            have h := (if_neg h78).symm.trans h
            refine z_iconst X d_Mod_read_81 (v := 1) (by decide) ?_
            refine z_goto X 86 d_Mod_read_82 (by decide) ?_
            refine z_istore_n X d_Mod_read_86 (by decide) rfl ?_
            refine zW.pick [0, 1, 2] (lv' := [(0, .ref (A 38)), (1, .int p66.1), (2, .int 1)]) rfl ?_
            exact (ih).2.2.2.1 p66.1 1 0 0 _ _ hM h
      · intro x1 x2 x3 x5 f1 μ hM h
        rw [m_read_b3] at h
        refine z_iload_n X d_Mod_read_87 rfl ?_
        refine z_if_eq X 232 d_Mod_read_88 (by decide) (fun h88 => ?_) (fun h88 => ?_)
        · skip
          have h := (if_pos h88).symm.trans h
          refine zW.pick [0, 1] (lv' := [(0, .ref (A 38)), (1, .int x1)]) rfl ?_
          exact (ih).2.2.2.2.2.2.1 x1 0 0 0 _ _ hM h
        · skip
          have h := (if_neg h88).symm.trans h
          refine z_aload_n X d_Mod_read_91 rfl ?_
          obtain ⟨p92, q92, h⟩ := bd h
          refine z_callV X zG_ok (c_Mod_look hM q92) d_Mod_read_92 ⟨(z_cb (n := 0) X.2.2.2.2.1 ml_Mod_147 mc_Mod_look ini_Mod (by decide +kernel) rfl rfl ⟨Nat.le_of_ble_eq_true rfl, Nat.le_of_ble_eq_true rfl⟩), X.2.2.2.2.1 _ im_Mod_look, X.2.2.2.2.1 _ sel_Mod_look⟩ (hM.lo 38 (by decide)) hM.ob cl_Mod rfl rfl (Nat.le_of_ble_eq_true rfl) ⟨Nat.le_of_ble_eq_true rfl, Nat.le_of_ble_eq_true rfl⟩ (fun r N1 f1 hp hN1 => ?_)
          obtain ⟨rfl, rfl, hM⟩ := hp
          refine z_bipush X d_Mod_read_95 (v := 41) (by decide) ?_
          refine z_icmp_ne X 232 d_Mod_read_97 (by decide) (fun h97 => ?_) (fun h97 => ?_)
          · skip
            have h := (if_neg h97).symm.trans h
            refine zW.pick [0, 1] (lv' := [(0, .ref (A 38)), (1, .int x1)]) rfl ?_
            exact (ih).2.2.2.2.2.2.1 x1 0 0 0 _ _ hM h
          · skip
            have h := (if_pos h97).symm.trans h
            refine z_aload_n X d_Mod_read_100 rfl ?_
            refine z_iload_n X d_Mod_read_101 rfl ?_
            obtain ⟨p102, q102, h⟩ := bd h
            refine z_callV X zG_ok (c_Mod_or hM q102) d_Mod_read_102 ⟨(z_cb (n := 1) X.2.2.2.2.1 ml_Mod_188 mc_Mod_or ini_Mod (by decide +kernel) rfl rfl ⟨Nat.le_of_ble_eq_true rfl, Nat.le_of_ble_eq_true rfl⟩), X.2.2.2.2.1 _ im_Mod_or, X.2.2.2.2.1 _ sel_Mod_or⟩ (hM.lo 38 (by decide)) hM.ob cl_Mod rfl rfl (Nat.le_of_ble_eq_true rfl) ⟨Nat.le_of_ble_eq_true rfl, Nat.le_of_ble_eq_true rfl⟩ (fun r N1 f1 hp hN1 => ?_)
            obtain ⟨rfl, rfl, hM⟩ := hp
            refine z_istore_n X d_Mod_read_105 (by decide) rfl ?_
            refine z_aload_n X d_Mod_read_106 rfl ?_
            refine z_get X (v := .int (p102.2.1 30)) d_Mod_read_107 (hM.lo 38 (by decide)) hM.ob cl_Mod in_Mod 30 (by decide) fl_Mod_138 rfl rfl ?_
            refine z_if_le X 117 d_Mod_read_110 (by decide) (fun h110 => ?_) (fun h110 => ?_)
            · skip
              have h := (if_pos h110).symm.trans h
              refine z_iconst X d_Mod_read_117 (v := 0) (by decide) ?_
              refine z_istore_n X d_Mod_read_118 (by decide) rfl ?_
              refine z_iload_n X d_Mod_read_119 rfl ?_
              refine z_if_ne X 131 d_Mod_read_120 (by decide) (fun h120 => ?_) (fun h120 => ?_)
              · skip
                exact absurd h120 (by decide)
              · skip
                refine z_aload_n X d_Mod_read_123 rfl ?_
                refine z_aload_n X d_Mod_read_124 rfl ?_
                refine z_get X (v := .int (p102.2.1 25)) d_Mod_read_125 (hM.lo 38 (by decide)) hM.ob cl_Mod in_Mod 25 (by decide) fl_Mod_107 rfl rfl ?_
                obtain ⟨p128, q128, h⟩ := bd h
                refine z_callV X zG_ok (c_Mod_fail hM q128) d_Mod_read_128 ⟨(z_cb (n := 1) X.2.2.2.2.1 ml_Mod_134 mc_Mod_fail ini_Mod (by decide +kernel) rfl rfl ⟨Nat.le_of_ble_eq_true rfl, Nat.le_of_ble_eq_true rfl⟩), X.2.2.2.2.1 _ im_Mod_fail, X.2.2.2.2.1 _ sel_Mod_fail⟩ (hM.lo 38 (by decide)) hM.ob cl_Mod rfl rfl (Nat.le_of_ble_eq_true rfl) ⟨Nat.le_of_ble_eq_true rfl, Nat.le_of_ble_eq_true rfl⟩ (fun r N1 f1 hp hN1 => ?_)
                obtain ⟨rfl, rfl, hM⟩ := hp
                refine zW.pick [0, 1, 3] (lv' := [(0, .ref (A 38)), (1, .int p102.1), (3, .int 0)]) rfl ?_
                exact (ih).2.2.2.2.1 p102.1 0 0 0 _ _ hM h
            · skip
              have h := (if_neg h110).symm.trans h
              refine z_iconst X d_Mod_read_113 (v := 1) (by decide) ?_
              refine z_goto X 118 d_Mod_read_114 (by decide) ?_
              refine z_istore_n X d_Mod_read_118 (by decide) rfl ?_
              refine z_iload_n X d_Mod_read_119 rfl ?_
              refine z_if_ne X 131 d_Mod_read_120 (by decide) (fun h120 => ?_) (fun h120 => ?_)
              · skip
                refine zW.pick [0, 1, 3] (lv' := [(0, .ref (A 38)), (1, .int p102.1), (3, .int 1)]) rfl ?_
                exact (ih).2.2.2.2.1 p102.1 0 1 0 _ _ hM h
              · skip
                exact absurd h120 (by decide)
      · intro x1 x2 x3 x5 f1 μ hM h
        rw [m_read_b4] at h
        refine z_iload_n X d_Mod_read_131 rfl ?_
        refine z_istore_n X d_Mod_read_132 (by decide) rfl ?_
        refine z_iload_n X d_Mod_read_133 rfl ?_
        refine z_if_ne X 140 d_Mod_read_134 (by decide) (fun h134 => ?_) (fun h134 => ?_)
        · skip
          have h := (if_neg h134).symm.trans h
          refine z_aload_n X d_Mod_read_140 rfl ?_
          refine z_dup X d_Mod_read_141 rfl ?_
          refine z_get X (v := .int (μ.1 30)) d_Mod_read_142 (hM.lo 38 (by decide)) hM.ob cl_Mod in_Mod 30 (by decide) fl_Mod_138 rfl rfl ?_
          refine z_iconst X d_Mod_read_145 (v := 1) (by decide) ?_
          refine z_isub X d_Mod_read_146 ?_
          refine z_putM X t_Mod ty_Mod n_Mod d_Mod_read_147 hM cl_Mod in_Mod 30 (by decide) fl_Mod_138 rfl rfl rfl (by decide) rfl (fun hM => ?_)
          refine z_aload_n X d_Mod_read_150 rfl ?_
          refine z_dup X d_Mod_read_151 rfl ?_
          refine z_get X (v := .int (μ.1 26)) d_Mod_read_152 (hM.lo 38 (by decide)) hM.ob cl_Mod in_Mod 26 (by decide) fl_Mod_141 rfl rfl ?_
          refine z_iconst X d_Mod_read_155 (v := 1) (by decide) ?_
          refine z_isub X d_Mod_read_156 ?_
          refine z_putM X t_Mod ty_Mod n_Mod d_Mod_read_157 hM cl_Mod in_Mod 26 (by decide) fl_Mod_141 rfl rfl rfl (by decide) rfl (fun hM => ?_)
          refine z_aload_n X d_Mod_read_160 rfl ?_
          refine z_dup X d_Mod_read_161 rfl ?_
          refine z_get X (v := .int (μ.1 25)) d_Mod_read_162 (hM.lo 38 (by decide)) hM.ob cl_Mod in_Mod 25 (by decide) fl_Mod_107 rfl rfl ?_
          refine z_iconst X d_Mod_read_165 (v := 1) (by decide) ?_
          refine z_iadd X d_Mod_read_166 ?_
          refine z_putM X t_Mod ty_Mod n_Mod d_Mod_read_167 hM cl_Mod in_Mod 25 (by decide) fl_Mod_107 rfl rfl rfl (by decide) rfl (fun hM => ?_)
          refine z_aload_n X d_Mod_read_170 rfl ?_
          refine z_get X (v := .ref (A 28)) d_Mod_read_171 (hM.lo 38 (by decide)) hM.ob cl_Mod in_Mod 28 (by decide) fl_Mod_68 rfl rfl ?_
          refine z_aload_n X d_Mod_read_174 rfl ?_
          refine z_get X (v := .int ((μ.1 30) - 1)) d_Mod_read_175 (hM.lo 38 (by decide)) hM.ob cl_Mod in_Mod 30 (by decide) fl_Mod_138 rfl rfl ?_
          obtain ⟨b178, h⟩ := gd h
          refine z_iald X (g := (μ.2.1 28)) d_Mod_read_178 (hM.lo 28 (by decide)) (hM.iA 28 64 rfl) (t0 := 0) rfl (vp_of b178) ?_
          refine z_iconst X d_Mod_read_179 (v := 3) (by decide) ?_
          refine z_icmp_ne X 198 d_Mod_read_180 (by decide) (fun h180 => ?_) (fun h180 => ?_)
          · skip
            have h := (if_neg h180).symm.trans h
            refine zW.pick [0, 1, 3] (lv' := [(0, .ref (A 38)), (1, .int x1), (2, .int x3)]) rfl ?_
            exact (ih).2.2.2.2.2.1 x1 x3 0 0 _ _ hM h
          · skip
            have h := (if_pos h180).symm.trans h
            refine z_aload_n X d_Mod_read_183 rfl ?_
            refine z_get X (v := .ref (A 22)) d_Mod_read_184 (hM.lo 38 (by decide)) hM.ob cl_Mod in_Mod 22 (by decide) fl_Mod_62 rfl rfl ?_
            refine z_aload_n X d_Mod_read_187 rfl ?_
            refine z_get X (v := .ref (A 29)) d_Mod_read_188 (hM.lo 38 (by decide)) hM.ob cl_Mod in_Mod 29 (by decide) fl_Mod_71 rfl rfl ?_
            refine z_aload_n X d_Mod_read_191 rfl ?_
            refine z_get X (v := .int ((μ.1 30) - 1)) d_Mod_read_192 (hM.lo 38 (by decide)) hM.ob cl_Mod in_Mod 30 (by decide) fl_Mod_138 rfl rfl ?_
            refine z_iald X (g := (μ.2.1 29)) d_Mod_read_195 (hM.lo 29 (by decide)) (hM.iA 29 64 rfl) (t0 := 0) rfl (vp_of b178) ?_
            refine z_iload_n X d_Mod_read_196 rfl ?_
            obtain ⟨b197, h⟩ := gd h
            refine z_iastM X d_Mod_read_197 hM 22 40 rfl rfl (vp_of b197) (fun hM => ?_)
            refine zW.pick [0, 1, 3] (lv' := [(0, .ref (A 38)), (1, .int x1), (2, .int x3)]) rfl ?_
            exact (ih).2.2.2.2.2.1 x1 x3 0 0 _ _ hM h
        · skip
          have h := (if_pos h134).symm.trans h
          refine z_goto X 87 d_Mod_read_137 (by decide) ?_
          refine zW.pick [0, 1, 3] (lv' := [(0, .ref (A 38)), (1, .int x1), (2, .int x3)]) rfl ?_
          exact (ih).2.2.2.1 x1 x3 0 0 _ _ hM h
      · intro x1 x2 x3 x5 f1 μ hM h
        rw [m_read_b5] at h
        refine z_aload_n X d_Mod_read_198 rfl ?_
        refine z_aload_n X d_Mod_read_199 rfl ?_
        refine z_get X (v := .ref (A 28)) d_Mod_read_200 (hM.lo 38 (by decide)) hM.ob cl_Mod in_Mod 28 (by decide) fl_Mod_68 rfl rfl ?_
        refine z_aload_n X d_Mod_read_203 rfl ?_
        refine z_get X (v := .int (μ.1 30)) d_Mod_read_204 (hM.lo 38 (by decide)) hM.ob cl_Mod in_Mod 30 (by decide) fl_Mod_138 rfl rfl ?_
        obtain ⟨b207, h⟩ := gd h
        refine z_iald X (g := (μ.2.1 28)) d_Mod_read_207 (hM.lo 28 (by decide)) (hM.iA 28 64 rfl) (t0 := 0) rfl (vp_of b207) ?_
        refine z_iconst X d_Mod_read_208 (v := 3) (by decide) ?_
        refine z_icmp_ne X 224 d_Mod_read_209 (by decide) (fun h209 => ?_) (fun h209 => ?_)
        · skip
          have h := (if_neg h209).symm.trans h
          refine z_iload_n X d_Mod_read_224 rfl ?_
          obtain ⟨p225, q225, h⟩ := bd h
          refine z_callV X zG_ok (c_Mod_taken hM q225) d_Mod_read_225 ⟨(z_cb (n := 1) X.2.2.2.2.1 ml_Mod_184 mc_Mod_taken ini_Mod (by decide +kernel) rfl rfl ⟨Nat.le_of_ble_eq_true rfl, Nat.le_of_ble_eq_true rfl⟩), X.2.2.2.2.1 _ im_Mod_taken, X.2.2.2.2.1 _ sel_Mod_taken⟩ (hM.lo 38 (by decide)) hM.ob cl_Mod rfl rfl (Nat.le_of_ble_eq_true rfl) ⟨Nat.le_of_ble_eq_true rfl, Nat.le_of_ble_eq_true rfl⟩ (fun r N1 f1 hp hN1 => ?_)
          obtain ⟨rfl, rfl, hM⟩ := hp
          refine z_istore_n X d_Mod_read_228 (by decide) rfl ?_
          refine z_goto X 87 d_Mod_read_229 (by decide) ?_
          refine zW.pick [0, 1, 2] (lv' := [(0, .ref (A 38)), (1, .int p225.1), (2, .int x2)]) rfl ?_
          exact (ih).2.2.2.1 p225.1 x2 0 0 _ _ hM h
        · skip
          have h := (if_pos h209).symm.trans h
          refine z_aload_n X d_Mod_read_212 rfl ?_
          refine z_get X (v := .ref (A 29)) d_Mod_read_213 (hM.lo 38 (by decide)) hM.ob cl_Mod in_Mod 29 (by decide) fl_Mod_71 rfl rfl ?_
          refine z_aload_n X d_Mod_read_216 rfl ?_
          refine z_get X (v := .int (μ.1 30)) d_Mod_read_217 (hM.lo 38 (by decide)) hM.ob cl_Mod in_Mod 30 (by decide) fl_Mod_138 rfl rfl ?_
          refine z_iald X (g := (μ.2.1 29)) d_Mod_read_220 (hM.lo 29 (by decide)) (hM.iA 29 64 rfl) (t0 := 0) rfl (vp_of b207) ?_
          refine z_goto X 225 d_Mod_read_221 (by decide) ?_
          obtain ⟨p225, q225, h⟩ := bd h
          refine z_callV X zG_ok (c_Mod_taken hM q225) d_Mod_read_225 ⟨(z_cb (n := 1) X.2.2.2.2.1 ml_Mod_184 mc_Mod_taken ini_Mod (by decide +kernel) rfl rfl ⟨Nat.le_of_ble_eq_true rfl, Nat.le_of_ble_eq_true rfl⟩), X.2.2.2.2.1 _ im_Mod_taken, X.2.2.2.2.1 _ sel_Mod_taken⟩ (hM.lo 38 (by decide)) hM.ob cl_Mod rfl rfl (Nat.le_of_ble_eq_true rfl) ⟨Nat.le_of_ble_eq_true rfl, Nat.le_of_ble_eq_true rfl⟩ (fun r N1 f1 hp hN1 => ?_)
          obtain ⟨rfl, rfl, hM⟩ := hp
          refine z_istore_n X d_Mod_read_228 (by decide) rfl ?_
          refine z_goto X 87 d_Mod_read_229 (by decide) ?_
          refine zW.pick [0, 1, 2] (lv' := [(0, .ref (A 38)), (1, .int p225.1), (2, .int x2)]) rfl ?_
          exact (ih).2.2.2.1 p225.1 x2 0 0 _ _ hM h
      · intro x1 x2 x3 x5 f1 μ hM h
        rw [m_read_b6] at h
        refine z_aload_n X d_Mod_read_232 rfl ?_
        refine z_get X (v := .int (μ.1 27)) d_Mod_read_233 (hM.lo 38 (by decide)) hM.ob cl_Mod in_Mod 27 (by decide) fl_Mod_128 rfl rfl ?_
        refine z_if_lt X 241 d_Mod_read_236 (by decide) (fun h236 => ?_) (fun h236 => ?_)
        · skip
          have h := (if_pos h236).symm.trans h
          refine z_aload_n X d_Mod_read_241 rfl ?_
          obtain ⟨p242, q242, h⟩ := bd h
          refine z_callV X zG_ok (c_Mod_look hM q242) d_Mod_read_242 ⟨(z_cb (n := 0) X.2.2.2.2.1 ml_Mod_147 mc_Mod_look ini_Mod (by decide +kernel) rfl rfl ⟨Nat.le_of_ble_eq_true rfl, Nat.le_of_ble_eq_true rfl⟩), X.2.2.2.2.1 _ im_Mod_look, X.2.2.2.2.1 _ sel_Mod_look⟩ (hM.lo 38 (by decide)) hM.ob cl_Mod rfl rfl (Nat.le_of_ble_eq_true rfl) ⟨Nat.le_of_ble_eq_true rfl, Nat.le_of_ble_eq_true rfl⟩ (fun r N1 f1 hp hN1 => ?_)
          obtain ⟨rfl, rfl, hM⟩ := hp
          refine z_istore_n X d_Mod_read_245 (by decide) rfl ?_
          refine z_iload_n X d_Mod_read_246 rfl ?_
          refine z_bipush X d_Mod_read_247 (v := 38) (by decide) ?_
          refine z_icmp_eq X 258 d_Mod_read_249 (by decide) (fun h249 => ?_) (fun h249 => ?_)
          · skip
            have h := (if_pos h249).symm.trans h
            refine zW.pick [0, 1, 2] (lv' := [(0, .ref (A 38)), (1, .int x1), (3, .int p242.1)]) rfl ?_
            exact (ih).2.2.2.2.2.2.2.1 x1 0 p242.1 0 _ _ hM h
          · skip
            have h := (if_neg h249).symm.trans h
            refine z_iload_n X d_Mod_read_252 rfl ?_
            refine z_bipush X d_Mod_read_253 (v := 124) (by decide) ?_
            refine z_icmp_ne X 342 d_Mod_read_255 (by decide) (fun h255 => ?_) (fun h255 => ?_)
            · skip
              have h := (if_neg h255).symm.trans h
              refine z_aload_n X d_Mod_read_342 rfl ?_
              refine z_iload_n X d_Mod_read_343 rfl ?_
              obtain ⟨p344, q344, h⟩ := bd h
              refine z_callV X zG_ok (c_Mod_or hM q344) d_Mod_read_344 ⟨(z_cb (n := 1) X.2.2.2.2.1 ml_Mod_188 mc_Mod_or ini_Mod (by decide +kernel) rfl rfl ⟨Nat.le_of_ble_eq_true rfl, Nat.le_of_ble_eq_true rfl⟩), X.2.2.2.2.1 _ im_Mod_or, X.2.2.2.2.1 _ sel_Mod_or⟩ (hM.lo 38 (by decide)) hM.ob cl_Mod rfl rfl (Nat.le_of_ble_eq_true rfl) ⟨Nat.le_of_ble_eq_true rfl, Nat.le_of_ble_eq_true rfl⟩ (fun r N1 f1 hp hN1 => ?_)
              obtain ⟨rfl, rfl, hM⟩ := hp
              refine z_istore_n X d_Mod_read_347 (by decide) rfl ?_
              refine z_iload_n X d_Mod_read_348 rfl ?_
              refine z_iconst X d_Mod_read_349 (v := -1) (by decide) ?_
              refine z_icmp_ne X 360 d_Mod_read_350 (by decide) (fun h350 => ?_) (fun h350 => ?_)
              · skip
                have h := (if_neg h350).symm.trans h
                refine zW.pick [0, 1] (lv' := [(0, .ref (A 38)), (1, .int p344.1)]) rfl ?_
                exact (ih).2.2.2.2.2.2.2.2.2.1 p344.1 0 0 0 _ _ hM h
              · skip
                have h := (if_pos h350).symm.trans h
                refine z_aload_n X d_Mod_read_353 rfl ?_
                refine z_get X (v := .int (p344.2.1 30)) d_Mod_read_354 (hM.lo 38 (by decide)) hM.ob cl_Mod in_Mod 30 (by decide) fl_Mod_138 rfl rfl ?_
                refine z_if_le X 368 d_Mod_read_357 (by decide) (fun h357 => ?_) (fun h357 => ?_)
                · skip
                  have h := (if_pos h357).symm.trans h
                  refine zW.pick [0, 1] (lv' := [(0, .ref (A 38)), (1, .int p344.1)]) rfl ?_
                  exact (ih).2.2.2.2.2.2.2.2.2.2.1 p344.1 0 0 0 _ _ hM h
                · skip
                  have h := (if_neg h357).symm.trans h
                  refine zW.pick [0, 1] (lv' := [(0, .ref (A 38)), (1, .int p344.1)]) rfl ?_
                  exact (ih).2.2.2.2.2.2.2.2.2.1 p344.1 0 0 0 _ _ hM h
            · skip
              have h := (if_pos h255).symm.trans h
              refine zW.pick [0, 1, 2] (lv' := [(0, .ref (A 38)), (1, .int x1), (3, .int p242.1)]) rfl ?_
              exact (ih).2.2.2.2.2.2.2.1 x1 0 p242.1 0 _ _ hM h
        · skip
          have h := (if_neg h236).symm.trans h
          refine z_iconst X d_Mod_read_239 (v := 0) (by decide) ?_
          have e9 := Option.some.inj h
          subst e9
          exact z_iret X d_Mod_read_240 ⟨rfl, rfl, hM⟩
      · intro x1 x2 x3 x5 f1 μ hM h
        rw [m_read_b7] at h
        refine z_iload_n X d_Mod_read_258 rfl ?_
        refine z_bipush X d_Mod_read_259 (v := 124) (by decide) ?_
        refine z_icmp_ne X 272 d_Mod_read_261 (by decide) (fun h261 => ?_) (fun h261 => ?_)
        · skip
          have h := (if_neg h261).symm.trans h
          refine z_iload_n X d_Mod_read_272 rfl ?_
          refine z_istore X d_Mod_read_273 (by decide) rfl ?_
          refine z_aload_n X d_Mod_read_275 rfl ?_
          refine z_iload_n X d_Mod_read_276 rfl ?_
          refine z_bipush X d_Mod_read_277 (v := 124) (by decide) ?_
          refine z_icmp_ne X 286 d_Mod_read_279 (by decide) (fun h279 => ?_) (fun h279 => ?_)
          · skip
            refine z_iconst X d_Mod_read_286 (v := 1) (by decide) ?_
            refine z_aload_n X d_Mod_read_287 rfl ?_
            refine z_get X (v := .int (μ.1 25)) d_Mod_read_288 (hM.lo 38 (by decide)) hM.ob cl_Mod in_Mod 25 (by decide) fl_Mod_107 rfl rfl ?_
            obtain ⟨p291, q291, h⟩ := bd h
            refine z_callV X zG_ok (c_Mod_node hM q291) d_Mod_read_291 ⟨(z_cb (n := 2) X.2.2.2.2.1 ml_Mod_158 mc_Mod_node ini_Mod (by decide +kernel) rfl rfl ⟨Nat.le_of_ble_eq_true rfl, Nat.le_of_ble_eq_true rfl⟩), X.2.2.2.2.1 _ im_Mod_node, X.2.2.2.2.1 _ sel_Mod_node⟩ (hM.lo 38 (by decide)) hM.ob cl_Mod rfl rfl (Nat.le_of_ble_eq_true rfl) ⟨Nat.le_of_ble_eq_true rfl, Nat.le_of_ble_eq_true rfl⟩ (fun r N1 f1 hp hN1 => ?_)
            obtain ⟨rfl, rfl, hM⟩ := hp
            refine z_istore X d_Mod_read_294 (by decide) rfl ?_
            refine z_aload_n X d_Mod_read_296 rfl ?_
            refine z_get X (v := .int (p291.2.1 27)) d_Mod_read_297 (hM.lo 38 (by decide)) hM.ob cl_Mod in_Mod 27 (by decide) fl_Mod_128 rfl rfl ?_
            refine z_if_ge X 312 d_Mod_read_300 (by decide) (fun h300 => ?_) (fun h300 => ?_)
            · skip
              have h := (if_pos h300).symm.trans h
              refine zW.pick [0, 2, 4] (lv' := [(0, .ref (A 38)), (3, .int x3), (5, .int p291.1)]) rfl ?_
              exact (ih).2.2.2.2.2.2.2.2.1 0 0 x3 p291.1 _ _ hM h
            · skip
              have h := (if_neg h300).symm.trans h
              refine z_aload_n X d_Mod_read_303 rfl ?_
              refine z_get X (v := .ref (A 22)) d_Mod_read_304 (hM.lo 38 (by decide)) hM.ob cl_Mod in_Mod 22 (by decide) fl_Mod_62 rfl rfl ?_
              refine z_iload X d_Mod_read_307 rfl ?_
              refine z_iload X d_Mod_read_309 rfl ?_
              obtain ⟨b311, h⟩ := gd h
              refine z_iastM X d_Mod_read_311 hM 22 40 rfl rfl (vp_of b311) (fun hM => ?_)
              refine zW.pick [0, 2, 4] (lv' := [(0, .ref (A 38)), (3, .int x3), (5, .int p291.1)]) rfl ?_
              exact (ih).2.2.2.2.2.2.2.2.1 0 0 x3 p291.1 _ _ hM h
          · skip
            exact absurd h279 h261
        · skip
          have h := (if_pos h261).symm.trans h
          refine z_aload_n X d_Mod_read_264 rfl ?_
          refine z_iload_n X d_Mod_read_265 rfl ?_
          obtain ⟨p266, q266, h⟩ := bd h
          refine z_callV X zG_ok (c_Mod_or hM q266) d_Mod_read_266 ⟨(z_cb (n := 1) X.2.2.2.2.1 ml_Mod_188 mc_Mod_or ini_Mod (by decide +kernel) rfl rfl ⟨Nat.le_of_ble_eq_true rfl, Nat.le_of_ble_eq_true rfl⟩), X.2.2.2.2.1 _ im_Mod_or, X.2.2.2.2.1 _ sel_Mod_or⟩ (hM.lo 38 (by decide)) hM.ob cl_Mod rfl rfl (Nat.le_of_ble_eq_true rfl) ⟨Nat.le_of_ble_eq_true rfl, Nat.le_of_ble_eq_true rfl⟩ (fun r N1 f1 hp hN1 => ?_)
          obtain ⟨rfl, rfl, hM⟩ := hp
          refine z_goto X 273 d_Mod_read_269 (by decide) ?_
          refine z_istore X d_Mod_read_273 (by decide) rfl ?_
          refine z_aload_n X d_Mod_read_275 rfl ?_
          refine z_iload_n X d_Mod_read_276 rfl ?_
          refine z_bipush X d_Mod_read_277 (v := 124) (by decide) ?_
          refine z_icmp_ne X 286 d_Mod_read_279 (by decide) (fun h279 => ?_) (fun h279 => ?_)
          · skip
            exact absurd h261 h279
          · skip
            refine z_iconst X d_Mod_read_282 (v := 0) (by decide) ?_
            refine z_goto X 287 d_Mod_read_283 (by decide) ?_
            refine z_aload_n X d_Mod_read_287 rfl ?_
            refine z_get X (v := .int (p266.2.1 25)) d_Mod_read_288 (hM.lo 38 (by decide)) hM.ob cl_Mod in_Mod 25 (by decide) fl_Mod_107 rfl rfl ?_
            obtain ⟨p291, q291, h⟩ := bd h
            refine z_callV X zG_ok (c_Mod_node hM q291) d_Mod_read_291 ⟨(z_cb (n := 2) X.2.2.2.2.1 ml_Mod_158 mc_Mod_node ini_Mod (by decide +kernel) rfl rfl ⟨Nat.le_of_ble_eq_true rfl, Nat.le_of_ble_eq_true rfl⟩), X.2.2.2.2.1 _ im_Mod_node, X.2.2.2.2.1 _ sel_Mod_node⟩ (hM.lo 38 (by decide)) hM.ob cl_Mod rfl rfl (Nat.le_of_ble_eq_true rfl) ⟨Nat.le_of_ble_eq_true rfl, Nat.le_of_ble_eq_true rfl⟩ (fun r N1 f1 hp hN1 => ?_)
            obtain ⟨rfl, rfl, hM⟩ := hp
            refine z_istore X d_Mod_read_294 (by decide) rfl ?_
            refine z_aload_n X d_Mod_read_296 rfl ?_
            refine z_get X (v := .int (p291.2.1 27)) d_Mod_read_297 (hM.lo 38 (by decide)) hM.ob cl_Mod in_Mod 27 (by decide) fl_Mod_128 rfl rfl ?_
            refine z_if_ge X 312 d_Mod_read_300 (by decide) (fun h300 => ?_) (fun h300 => ?_)
            · skip
              have h := (if_pos h300).symm.trans h
              refine zW.pick [0, 2, 4] (lv' := [(0, .ref (A 38)), (3, .int x3), (5, .int p291.1)]) rfl ?_
              exact (ih).2.2.2.2.2.2.2.2.1 0 0 x3 p291.1 _ _ hM h
            · skip
              have h := (if_neg h300).symm.trans h
              refine z_aload_n X d_Mod_read_303 rfl ?_
              refine z_get X (v := .ref (A 22)) d_Mod_read_304 (hM.lo 38 (by decide)) hM.ob cl_Mod in_Mod 22 (by decide) fl_Mod_62 rfl rfl ?_
              refine z_iload X d_Mod_read_307 rfl ?_
              refine z_iload X d_Mod_read_309 rfl ?_
              obtain ⟨b311, h⟩ := gd h
              refine z_iastM X d_Mod_read_311 hM 22 40 rfl rfl (vp_of b311) (fun hM => ?_)
              refine zW.pick [0, 2, 4] (lv' := [(0, .ref (A 38)), (3, .int x3), (5, .int p291.1)]) rfl ?_
              exact (ih).2.2.2.2.2.2.2.2.1 0 0 x3 p291.1 _ _ hM h
      · intro x1 x2 x3 x5 f1 μ hM h
        rw [m_read_b8] at h
        refine z_aload_n X d_Mod_read_312 rfl ?_
        refine z_iload_n X d_Mod_read_313 rfl ?_
        refine z_bipush X d_Mod_read_314 (v := 124) (by decide) ?_
        refine z_icmp_ne X 323 d_Mod_read_316 (by decide) (fun h316 => ?_) (fun h316 => ?_)
        · skip
          have h := (if_neg h316).symm.trans h
          refine z_iconst X d_Mod_read_323 (v := 1) (by decide) ?_
          refine z_iload X d_Mod_read_324 rfl ?_
          obtain ⟨p326, q326, h⟩ := bd h
          refine z_callV X zG_ok (c_Mod_push hM q326) d_Mod_read_326 ⟨(z_cb (n := 2) X.2.2.2.2.1 ml_Mod_173 mc_Mod_push ini_Mod (by decide +kernel) rfl rfl ⟨Nat.le_of_ble_eq_true rfl, Nat.le_of_ble_eq_true rfl⟩), X.2.2.2.2.1 _ im_Mod_push, X.2.2.2.2.1 _ sel_Mod_push⟩ (hM.lo 38 (by decide)) hM.ob cl_Mod rfl rfl (Nat.le_of_ble_eq_true rfl) ⟨Nat.le_of_ble_eq_true rfl, Nat.le_of_ble_eq_true rfl⟩ (fun r N1 f1 hp hN1 => ?_)
          obtain ⟨rfl, rfl, hM⟩ := hp
          refine z_aload_n X d_Mod_read_329 rfl ?_
          refine z_dup X d_Mod_read_330 rfl ?_
          refine z_get X (v := .int (p326.1 25)) d_Mod_read_331 (hM.lo 38 (by decide)) hM.ob cl_Mod in_Mod 25 (by decide) fl_Mod_107 rfl rfl ?_
          refine z_iconst X d_Mod_read_334 (v := 1) (by decide) ?_
          refine z_iadd X d_Mod_read_335 ?_
          refine z_putM X t_Mod ty_Mod n_Mod d_Mod_read_336 hM cl_Mod in_Mod 25 (by decide) fl_Mod_107 rfl rfl rfl (by decide) rfl (fun hM => ?_)
          refine z_goto X 377 d_Mod_read_339 (by decide) ?_
          refine zW.pick [0] (lv' := [(0, .ref (A 38))]) rfl ?_
          exact (ih).2.2.2.2.2.2.2.2.2.2.2 0 0 0 0 _ _ hM h
        · skip
          have h := (if_pos h316).symm.trans h
          refine z_iconst X d_Mod_read_319 (v := 0) (by decide) ?_
          refine z_goto X 324 d_Mod_read_320 (by decide) ?_
          refine z_iload X d_Mod_read_324 rfl ?_
          obtain ⟨p326, q326, h⟩ := bd h
          refine z_callV X zG_ok (c_Mod_push hM q326) d_Mod_read_326 ⟨(z_cb (n := 2) X.2.2.2.2.1 ml_Mod_173 mc_Mod_push ini_Mod (by decide +kernel) rfl rfl ⟨Nat.le_of_ble_eq_true rfl, Nat.le_of_ble_eq_true rfl⟩), X.2.2.2.2.1 _ im_Mod_push, X.2.2.2.2.1 _ sel_Mod_push⟩ (hM.lo 38 (by decide)) hM.ob cl_Mod rfl rfl (Nat.le_of_ble_eq_true rfl) ⟨Nat.le_of_ble_eq_true rfl, Nat.le_of_ble_eq_true rfl⟩ (fun r N1 f1 hp hN1 => ?_)
          obtain ⟨rfl, rfl, hM⟩ := hp
          refine z_aload_n X d_Mod_read_329 rfl ?_
          refine z_dup X d_Mod_read_330 rfl ?_
          refine z_get X (v := .int (p326.1 25)) d_Mod_read_331 (hM.lo 38 (by decide)) hM.ob cl_Mod in_Mod 25 (by decide) fl_Mod_107 rfl rfl ?_
          refine z_iconst X d_Mod_read_334 (v := 1) (by decide) ?_
          refine z_iadd X d_Mod_read_335 ?_
          refine z_putM X t_Mod ty_Mod n_Mod d_Mod_read_336 hM cl_Mod in_Mod 25 (by decide) fl_Mod_107 rfl rfl rfl (by decide) rfl (fun hM => ?_)
          refine z_goto X 377 d_Mod_read_339 (by decide) ?_
          refine zW.pick [0] (lv' := [(0, .ref (A 38))]) rfl ?_
          exact (ih).2.2.2.2.2.2.2.2.2.2.2 0 0 0 0 _ _ hM h
      · intro x1 x2 x3 x5 f1 μ hM h
        rw [m_read_b9] at h
        refine z_aload_n X d_Mod_read_360 rfl ?_
        refine z_aload_n X d_Mod_read_361 rfl ?_
        refine z_get X (v := .int (μ.1 25)) d_Mod_read_362 (hM.lo 38 (by decide)) hM.ob cl_Mod in_Mod 25 (by decide) fl_Mod_107 rfl rfl ?_
        obtain ⟨p365, q365, h⟩ := bd h
        refine z_callV X zG_ok (c_Mod_fail hM q365) d_Mod_read_365 ⟨(z_cb (n := 1) X.2.2.2.2.1 ml_Mod_134 mc_Mod_fail ini_Mod (by decide +kernel) rfl rfl ⟨Nat.le_of_ble_eq_true rfl, Nat.le_of_ble_eq_true rfl⟩), X.2.2.2.2.1 _ im_Mod_fail, X.2.2.2.2.1 _ sel_Mod_fail⟩ (hM.lo 38 (by decide)) hM.ob cl_Mod rfl rfl (Nat.le_of_ble_eq_true rfl) ⟨Nat.le_of_ble_eq_true rfl, Nat.le_of_ble_eq_true rfl⟩ (fun r N1 f1 hp hN1 => ?_)
        obtain ⟨rfl, rfl, hM⟩ := hp
        refine zW.pick [0, 1] (lv' := [(0, .ref (A 38)), (1, .int x1)]) rfl ?_
        exact (ih).2.2.2.2.2.2.2.2.2.2.1 x1 0 0 0 _ _ hM h
      · intro x1 x2 x3 x5 f1 μ hM h
        rw [m_read_b10] at h
        refine z_aload_n X d_Mod_read_368 rfl ?_
        refine z_get X (v := .int (μ.1 27)) d_Mod_read_369 (hM.lo 38 (by decide)) hM.ob cl_Mod in_Mod 27 (by decide) fl_Mod_128 rfl rfl ?_
        refine z_if_ge X 377 d_Mod_read_372 (by decide) (fun h372 => ?_) (fun h372 => ?_)
        · skip
          have h := (if_pos h372).symm.trans h
          refine zW.pick [0] (lv' := [(0, .ref (A 38))]) rfl ?_
          exact (ih).2.2.2.2.2.2.2.2.2.2.2 0 0 0 0 _ _ hM h
        · skip
          have h := (if_neg h372).symm.trans h
          refine z_iload_n X d_Mod_read_375 rfl ?_
          have e9 := Option.some.inj h
          subst e9
          exact z_iret X d_Mod_read_376 ⟨rfl, rfl, hM⟩
      · intro x1 x2 x3 x5 f1 μ hM h
        rw [m_read_b11] at h
        refine z_goto X 25 d_Mod_read_377 (by decide) ?_
        refine zW.pick [0] (lv' := [(0, .ref (A 38))]) rfl ?_
        exact (ih).1 0 0 0 0 _ _ hM h
  rw [m_read] at h
  refine z_aload_n X d_Mod_read_0 rfl ?_
  refine z_iconst X d_Mod_read_1 (v := 0) (by decide) ?_
  refine z_putM X t_Mod ty_Mod n_Mod d_Mod_read_2 hM cl_Mod in_Mod 25 (by decide) fl_Mod_107 rfl rfl rfl (by decide) rfl (fun hM => ?_)
  refine z_aload_n X d_Mod_read_5 rfl ?_
  refine z_iconst X d_Mod_read_6 (v := 0) (by decide) ?_
  refine z_putM X t_Mod ty_Mod n_Mod d_Mod_read_7 hM cl_Mod in_Mod 24 (by decide) fl_Mod_131 rfl rfl rfl (by decide) rfl (fun hM => ?_)
  refine z_aload_n X d_Mod_read_10 rfl ?_
  refine z_iconst X d_Mod_read_11 (v := 0) (by decide) ?_
  refine z_putM X t_Mod ty_Mod n_Mod d_Mod_read_12 hM cl_Mod in_Mod 26 (by decide) fl_Mod_141 rfl rfl rfl (by decide) rfl (fun hM => ?_)
  refine z_aload_n X d_Mod_read_15 rfl ?_
  refine z_iconst X d_Mod_read_16 (v := 0) (by decide) ?_
  refine z_putM X t_Mod ty_Mod n_Mod d_Mod_read_17 hM cl_Mod in_Mod 30 (by decide) fl_Mod_138 rfl rfl rfl (by decide) rfl (fun hM => ?_)
  refine z_aload_n X d_Mod_read_20 rfl ?_
  refine z_iconst X d_Mod_read_21 (v := -1) (by decide) ?_
  refine z_putM X t_Mod ty_Mod n_Mod d_Mod_read_22 hM cl_Mod in_Mod 27 (by decide) fl_Mod_128 rfl rfl rfl (by decide) rfl (fun hM => ?_)
  refine zW.pick [0] (lv' := [(0, .ref (A 38))]) rfl ?_
  exact (L 4096).1 0 0 0 0 _ _ hM h
end
