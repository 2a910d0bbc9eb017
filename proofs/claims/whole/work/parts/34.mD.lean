section
variable {l : Launch} {D : va_G} {ck : Nat → ClassId} {ad : (Nat → Nat) × (Nat → Nat)} {b0 N : Nat} {f : Nat → va_E}
theorem d_Mod_badAt_0 : decode prog_10_method_40_code 0 = .ok (.iload_n 1, 1) := by decide +kernel
theorem d_Mod_badAt_1 : decode prog_10_method_40_code 1 = .ok (.istore_n 3, 1) := by decide +kernel
theorem d_Mod_badAt_2 : decode prog_10_method_40_code 2 = .ok (.iconst 0, 1) := by decide +kernel
theorem d_Mod_badAt_3 : decode prog_10_method_40_code 3 = .ok (.istore 4, 2) := by decide +kernel
theorem d_Mod_badAt_5 : decode prog_10_method_40_code 5 = .ok (.iload 4, 2) := by decide +kernel
theorem d_Mod_badAt_7 : decode prog_10_method_40_code 7 = .ok (.bipush 10, 2) := by decide +kernel
theorem d_Mod_badAt_9 : decode prog_10_method_40_code 9 = .ok (.if_icmp .ge 92, 3) := by decide +kernel
theorem d_Mod_badAt_12 : decode prog_10_method_40_code 12 = .ok (.iconst 0, 1) := by decide +kernel
theorem d_Mod_badAt_13 : decode prog_10_method_40_code 13 = .ok (.istore 5, 2) := by decide +kernel
theorem d_Mod_badAt_15 : decode prog_10_method_40_code 15 = .ok (.iload 5, 2) := by decide +kernel
theorem d_Mod_badAt_17 : decode prog_10_method_40_code 17 = .ok (.aload_n 0, 1) := by decide +kernel
theorem d_Mod_badAt_18 : decode prog_10_method_40_code 18 = .ok (.getfield 97, 3) := by decide +kernel
theorem d_Mod_badAt_21 : decode prog_10_method_40_code 21 = .ok (.if_icmp .ge 74, 3) := by decide +kernel
theorem d_Mod_badAt_24 : decode prog_10_method_40_code 24 = .ok (.aload_n 0, 1) := by decide +kernel
theorem d_Mod_badAt_25 : decode prog_10_method_40_code 25 = .ok (.getfield 28, 3) := by decide +kernel
theorem d_Mod_badAt_28 : decode prog_10_method_40_code 28 = .ok (.iload 5, 2) := by decide +kernel
theorem d_Mod_badAt_30 : decode prog_10_method_40_code 30 = .ok (.iaload, 1) := by decide +kernel
theorem d_Mod_badAt_31 : decode prog_10_method_40_code 31 = .ok (.iload 4, 2) := by decide +kernel
theorem d_Mod_badAt_33 : decode prog_10_method_40_code 33 = .ok (.if_icmp .ne 28, 3) := by decide +kernel
theorem d_Mod_badAt_36 : decode prog_10_method_40_code 36 = .ok (.aload_n 0, 1) := by decide +kernel
theorem d_Mod_badAt_37 : decode prog_10_method_40_code 37 = .ok (.getfield 47, 3) := by decide +kernel
theorem d_Mod_badAt_40 : decode prog_10_method_40_code 40 = .ok (.iload 5, 2) := by decide +kernel
theorem d_Mod_badAt_42 : decode prog_10_method_40_code 42 = .ok (.baload, 1) := by decide +kernel
theorem d_Mod_badAt_43 : decode prog_10_method_40_code 43 = .ok (.ifCond .eq 18, 3) := by decide +kernel
theorem d_Mod_badAt_46 : decode prog_10_method_40_code 46 = .ok (.aload_n 0, 1) := by decide +kernel
theorem d_Mod_badAt_47 : decode prog_10_method_40_code 47 = .ok (.getfield 31, 3) := by decide +kernel
theorem d_Mod_badAt_50 : decode prog_10_method_40_code 50 = .ok (.iload 5, 2) := by decide +kernel
theorem d_Mod_badAt_52 : decode prog_10_method_40_code 52 = .ok (.baload, 1) := by decide +kernel
theorem d_Mod_badAt_53 : decode prog_10_method_40_code 53 = .ok (.iload_n 2, 1) := by decide +kernel
theorem d_Mod_badAt_54 : decode prog_10_method_40_code 54 = .ok (.if_icmp .ne 7, 3) := by decide +kernel
theorem d_Mod_badAt_57 : decode prog_10_method_40_code 57 = .ok (.iconst 1, 1) := by decide +kernel
theorem d_Mod_badAt_58 : decode prog_10_method_40_code 58 = .ok (.goto 4, 3) := by decide +kernel
theorem d_Mod_badAt_61 : decode prog_10_method_40_code 61 = .ok (.iconst 0, 1) := by decide +kernel
theorem d_Mod_badAt_62 : decode prog_10_method_40_code 62 = .ok (.istore 6, 2) := by decide +kernel
theorem d_Mod_badAt_64 : decode prog_10_method_40_code 64 = .ok (.iload 6, 2) := by decide +kernel
theorem d_Mod_badAt_66 : decode prog_10_method_40_code 66 = .ok (.ifCond .eq 10, 3) := by decide +kernel
theorem d_Mod_badAt_69 : decode prog_10_method_40_code 69 = .ok (.iload_n 3, 1) := by decide +kernel
theorem d_Mod_badAt_70 : decode prog_10_method_40_code 70 = .ok (.ifCond .ne 6, 3) := by decide +kernel
theorem d_Mod_badAt_73 : decode prog_10_method_40_code 73 = .ok (.iload 5, 2) := by decide +kernel
theorem d_Mod_badAt_75 : decode prog_10_method_40_code 75 = .ok (.ireturn, 1) := by decide +kernel
theorem d_Mod_badAt_76 : decode prog_10_method_40_code 76 = .ok (.iload_n 3, 1) := by decide +kernel
theorem d_Mod_badAt_77 : decode prog_10_method_40_code 77 = .ok (.iload 6, 2) := by decide +kernel
theorem d_Mod_badAt_79 : decode prog_10_method_40_code 79 = .ok (.ifCond .eq 7, 3) := by decide +kernel
theorem d_Mod_badAt_82 : decode prog_10_method_40_code 82 = .ok (.iconst 1, 1) := by decide +kernel
theorem d_Mod_badAt_83 : decode prog_10_method_40_code 83 = .ok (.goto 4, 3) := by decide +kernel
theorem d_Mod_badAt_86 : decode prog_10_method_40_code 86 = .ok (.iconst 0, 1) := by decide +kernel
theorem d_Mod_badAt_87 : decode prog_10_method_40_code 87 = .ok (.isub, 1) := by decide +kernel
theorem d_Mod_badAt_88 : decode prog_10_method_40_code 88 = .ok (.istore_n 3, 1) := by decide +kernel
theorem d_Mod_badAt_89 : decode prog_10_method_40_code 89 = .ok (.iinc 5 1, 3) := by decide +kernel
theorem d_Mod_badAt_92 : decode prog_10_method_40_code 92 = .ok (.goto (-77), 3) := by decide +kernel
theorem d_Mod_badAt_95 : decode prog_10_method_40_code 95 = .ok (.iinc 4 1, 3) := by decide +kernel
theorem d_Mod_badAt_98 : decode prog_10_method_40_code 98 = .ok (.goto (-93), 3) := by decide +kernel
theorem d_Mod_badAt_101 : decode prog_10_method_40_code 101 = .ok (.iconst (-1), 1) := by decide +kernel
theorem d_Mod_badAt_102 : decode prog_10_method_40_code 102 = .ok (.ireturn, 1) := by decide +kernel
def m_badAt_B : Nat → Nat → Int32 → Int32 → Int32 → Int32 → Int32 → MS → Option (Int32 × MS)
  | 0, _, _, _, _, _, _, _ => none
  | n + 1, b, x2, x3, x4, x5, x6, μ => if b = 0 then (if 10 ≤ x4 then some ((-1), μ) else m_badAt_B n 1 x2 x3 x4 0 0 μ)
    else if b = 1 then (if (μ.1 3) ≤ x5 then m_badAt_B n 0 x2 x3 (x4 + 1) 0 0 μ else (if inb x5 20 = true then (if ((μ.2.1 11) x5.toNatClampNeg) = x4 then (if ((μ.2.1 17) x5.toNatClampNeg) = 0 then m_badAt_B n 2 x2 x3 x4 x5 0 μ else (if ((μ.2.1 12) x5.toNatClampNeg) = x2 then (if x3 = 0 then some (x5, μ) else m_badAt_B n 3 x2 x3 x4 x5 1 μ) else m_badAt_B n 2 x2 x3 x4 x5 0 μ)) else m_badAt_B n 2 x2 x3 x4 x5 0 μ) else none))
    else if b = 2 then m_badAt_B n 3 x2 x3 x4 x5 0 μ
    else (if x6 = 0 then m_badAt_B n 1 x2 (x3 - 0) x4 (x5 + 1) 0 μ else m_badAt_B n 1 x2 (x3 - 1) x4 (x5 + 1) 0 μ)
theorem m_badAt_b0 (n : Nat) (x2 : Int32) (x3 : Int32) (x4 : Int32) (x5 : Int32) (x6 : Int32) (μ : MS) : m_badAt_B (n + 1) 0 x2 x3 x4 x5 x6 μ = (if 10 ≤ x4 then some ((-1), μ) else m_badAt_B n 1 x2 x3 x4 0 0 μ) := by
  rw [m_badAt_B, if_pos rfl]
theorem m_badAt_b1 (n : Nat) (x2 : Int32) (x3 : Int32) (x4 : Int32) (x5 : Int32) (x6 : Int32) (μ : MS) : m_badAt_B (n + 1) 1 x2 x3 x4 x5 x6 μ = (if (μ.1 3) ≤ x5 then m_badAt_B n 0 x2 x3 (x4 + 1) 0 0 μ else (if inb x5 20 = true then (if ((μ.2.1 11) x5.toNatClampNeg) = x4 then (if ((μ.2.1 17) x5.toNatClampNeg) = 0 then m_badAt_B n 2 x2 x3 x4 x5 0 μ else (if ((μ.2.1 12) x5.toNatClampNeg) = x2 then (if x3 = 0 then some (x5, μ) else m_badAt_B n 3 x2 x3 x4 x5 1 μ) else m_badAt_B n 2 x2 x3 x4 x5 0 μ)) else m_badAt_B n 2 x2 x3 x4 x5 0 μ) else none)) := by
  rw [m_badAt_B, if_neg (by decide), if_pos rfl]
theorem m_badAt_b2 (n : Nat) (x2 : Int32) (x3 : Int32) (x4 : Int32) (x5 : Int32) (x6 : Int32) (μ : MS) : m_badAt_B (n + 1) 2 x2 x3 x4 x5 x6 μ = m_badAt_B n 3 x2 x3 x4 x5 0 μ := by
  rw [m_badAt_B, if_neg (by decide), if_neg (by decide), if_pos rfl]
theorem m_badAt_b3 (n : Nat) (x2 : Int32) (x3 : Int32) (x4 : Int32) (x5 : Int32) (x6 : Int32) (μ : MS) : m_badAt_B (n + 1) 3 x2 x3 x4 x5 x6 μ = (if x6 = 0 then m_badAt_B n 1 x2 (x3 - 0) x4 (x5 + 1) 0 μ else m_badAt_B n 1 x2 (x3 - 1) x4 (x5 + 1) 0 μ) := by
  rw [m_badAt_B, if_neg (by decide), if_neg (by decide), if_neg (by decide)]
def m_badAt (x1 x2 : Int32) (μ : MS) : Option (Int32 × MS) := m_badAt_B 4096 0 x2 x1 0 0 0 μ
set_option maxHeartbeats 4000000 in
set_option maxRecDepth 100000 in
theorem c_Mod_badAt {A : Nat → Nat} {f0 : Nat → va_E} {μ : MS} {x1 x2 : Int32} {res : (Int32 × MS)} (hM : zMf ck b0 N A f0 f μ) (h : m_badAt x1 x2 μ = some res) : zK l D ck ad b0 y_Mod_badAt prog_10_method_40_code 7 ((some FieldType.int)) 0 0 0 [.ref (A 38), .int x1, .int x2] N f (fun r N' f' => r = some (.int res.1) ∧ N = N' ∧ zMf ck b0 N A f0 f' res.2) := by
  refine zM.of zG_w (by decide) (Nat.le_of_ble_eq_true rfl) ?_
  intro zp ze zst zm zar zbe zme zc X hnm hb0
  have L : ∀ n : Nat, (∀ (x2 : Int32) (x3 : Int32) (x4 : Int32) (x5 : Int32) (x6 : Int32) (f1 : Nat → va_E) (μ : MS), zMf ck b0 N A f0 f1 μ → m_badAt_B n 0 x2 x3 x4 x5 x6 μ = some res → zW zp l ze (zR 0 0 0) zst zm zar zbe zme zc D zcl b0 7 0 0 (MQ zbe (zQ D zcl b0 (fun r N' f' => r = some (.int res.1) ∧ N = N' ∧ zMf ck b0 N A f0 f' res.2)) zar zst 0 0 (zA b0)) N f1 5 [(0, .ref (A 38)), (2, .int x2), (3, .int x3), (4, .int x4)] []) ∧ (∀ (x2 : Int32) (x3 : Int32) (x4 : Int32) (x5 : Int32) (x6 : Int32) (f1 : Nat → va_E) (μ : MS), zMf ck b0 N A f0 f1 μ → m_badAt_B n 1 x2 x3 x4 x5 x6 μ = some res → zW zp l ze (zR 0 0 0) zst zm zar zbe zme zc D zcl b0 7 0 0 (MQ zbe (zQ D zcl b0 (fun r N' f' => r = some (.int res.1) ∧ N = N' ∧ zMf ck b0 N A f0 f' res.2)) zar zst 0 0 (zA b0)) N f1 15 [(0, .ref (A 38)), (2, .int x2), (3, .int x3), (4, .int x4), (5, .int x5)] []) ∧ (∀ (x2 : Int32) (x3 : Int32) (x4 : Int32) (x5 : Int32) (x6 : Int32) (f1 : Nat → va_E) (μ : MS), zMf ck b0 N A f0 f1 μ → m_badAt_B n 2 x2 x3 x4 x5 x6 μ = some res → zW zp l ze (zR 0 0 0) zst zm zar zbe zme zc D zcl b0 7 0 0 (MQ zbe (zQ D zcl b0 (fun r N' f' => r = some (.int res.1) ∧ N = N' ∧ zMf ck b0 N A f0 f' res.2)) zar zst 0 0 (zA b0)) N f1 61 [(0, .ref (A 38)), (2, .int x2), (3, .int x3), (4, .int x4), (5, .int x5)] []) ∧ (∀ (x2 : Int32) (x3 : Int32) (x4 : Int32) (x5 : Int32) (x6 : Int32) (f1 : Nat → va_E) (μ : MS), zMf ck b0 N A f0 f1 μ → m_badAt_B n 3 x2 x3 x4 x5 x6 μ = some res → zW zp l ze (zR 0 0 0) zst zm zar zbe zme zc D zcl b0 7 0 0 (MQ zbe (zQ D zcl b0 (fun r N' f' => r = some (.int res.1) ∧ N = N' ∧ zMf ck b0 N A f0 f' res.2)) zar zst 0 0 (zA b0)) N f1 76 [(0, .ref (A 38)), (2, .int x2), (3, .int x3), (4, .int x4), (5, .int x5), (6, .int x6)] []) := by
    intro n
    induction n with
    | zero =>
      exact ⟨fun _ _ _ _ _ _ _ _ h => (by rw [m_badAt_B] at h; cases h), fun _ _ _ _ _ _ _ _ h => (by rw [m_badAt_B] at h; cases h), fun _ _ _ _ _ _ _ _ h => (by rw [m_badAt_B] at h; cases h), fun _ _ _ _ _ _ _ _ h => (by rw [m_badAt_B] at h; cases h)⟩
    | succ n ih =>
      refine ⟨?_, ?_, ?_, ?_⟩
      · intro x2 x3 x4 x5 x6 f1 μ hM h
        rw [m_badAt_b0] at h
        refine z_iload X d_Mod_badAt_5 rfl ?_
        refine z_bipush X d_Mod_badAt_7 (v := 10) (by decide) ?_
        refine z_icmp_ge X 101 d_Mod_badAt_9 (by decide) (fun h9 => ?_) (fun h9 => ?_)
        · skip
          have h := (if_pos h9).symm.trans h
          refine z_iconst X d_Mod_badAt_101 (v := -1) (by decide) ?_
          have e9 := Option.some.inj h
          subst e9
          exact z_iret X d_Mod_badAt_102 ⟨rfl, rfl, hM⟩
        · skip
          have h := (if_neg h9).symm.trans h
          refine z_iconst X d_Mod_badAt_12 (v := 0) (by decide) ?_
          refine z_istore X d_Mod_badAt_13 (by decide) rfl ?_
          refine zW.pick [0, 1, 2, 3, 4] (lv' := [(0, .ref (A 38)), (2, .int x2), (3, .int x3), (4, .int x4), (5, .int 0)]) rfl ?_
          exact (ih).2.1 x2 x3 x4 0 0 _ _ hM h
      · intro x2 x3 x4 x5 x6 f1 μ hM h
        rw [m_badAt_b1] at h
        refine z_iload X d_Mod_badAt_15 rfl ?_
        refine z_aload_n X d_Mod_badAt_17 rfl ?_
        refine z_get X (v := .int (μ.1 3)) d_Mod_badAt_18 (hM.lo 38 (by decide)) hM.ob cl_Mod in_Mod 3 (by decide) fl_Mod_97 rfl rfl ?_
        refine z_icmp_ge X 95 d_Mod_badAt_21 (by decide) (fun h21 => ?_) (fun h21 => ?_)
        · skip
          have h := (if_pos h21).symm.trans h
          refine z_iinc X d_Mod_badAt_95 rfl (iic 1 1 (by decide) _) (by decide) rfl ?_
          refine z_goto X 5 d_Mod_badAt_98 (by decide) ?_
          refine zW.pick [0, 1, 2, 3] (lv' := [(0, .ref (A 38)), (2, .int x2), (3, .int x3), (4, .int (x4 + 1))]) rfl ?_
          exact (ih).1 x2 x3 (x4 + 1) 0 0 _ _ hM h
        · skip
          have h := (if_neg h21).symm.trans h
          refine z_aload_n X d_Mod_badAt_24 rfl ?_
          refine z_get X (v := .ref (A 11)) d_Mod_badAt_25 (hM.lo 38 (by decide)) hM.ob cl_Mod in_Mod 11 (by decide) fl_Mod_28 rfl rfl ?_
          refine z_iload X d_Mod_badAt_28 rfl ?_
          obtain ⟨b30, h⟩ := gd h
          refine z_iald X (g := (μ.2.1 11)) d_Mod_badAt_30 (hM.lo 11 (by decide)) (hM.iA 11 20 rfl) (t0 := 0) rfl (vp_of b30) ?_
          refine z_iload X d_Mod_badAt_31 rfl ?_
          refine z_icmp_ne X 61 d_Mod_badAt_33 (by decide) (fun h33 => ?_) (fun h33 => ?_)
          · skip
            have h := (if_neg h33).symm.trans h
            refine zW.pick [0, 1, 2, 3, 4] (lv' := [(0, .ref (A 38)), (2, .int x2), (3, .int x3), (4, .int x4), (5, .int x5)]) rfl ?_
            exact (ih).2.2.1 x2 x3 x4 x5 0 _ _ hM h
          · skip
            have h := (if_pos h33).symm.trans h
            refine z_aload_n X d_Mod_badAt_36 rfl ?_
            refine z_get X (v := .ref (A 17)) d_Mod_badAt_37 (hM.lo 38 (by decide)) hM.ob cl_Mod in_Mod 17 (by decide) fl_Mod_47 rfl rfl ?_
            refine z_iload X d_Mod_badAt_40 rfl ?_
            refine z_zald X (g := (μ.2.1 17)) d_Mod_badAt_42 (hM.lo 17 (by decide)) (hM.zA 17 20 rfl) (t0 := 1) rfl (vp_of b30) ?_
            refine z_if_eq X 61 d_Mod_badAt_43 (by decide) (fun h43 => ?_) (fun h43 => ?_)
            · skip
              have h := (if_pos h43).symm.trans h
              refine zW.pick [0, 1, 2, 3, 4] (lv' := [(0, .ref (A 38)), (2, .int x2), (3, .int x3), (4, .int x4), (5, .int x5)]) rfl ?_
              exact (ih).2.2.1 x2 x3 x4 x5 0 _ _ hM h
            · skip
              have h := (if_neg h43).symm.trans h
              refine z_aload_n X d_Mod_badAt_46 rfl ?_
              refine z_get X (v := .ref (A 12)) d_Mod_badAt_47 (hM.lo 38 (by decide)) hM.ob cl_Mod in_Mod 12 (by decide) fl_Mod_31 rfl rfl ?_
              refine z_iload X d_Mod_badAt_50 rfl ?_
              refine z_zald X (g := (μ.2.1 12)) d_Mod_badAt_52 (hM.lo 12 (by decide)) (hM.zA 12 20 rfl) (t0 := 1) rfl (vp_of b30) ?_
              refine z_iload_n X d_Mod_badAt_53 rfl ?_
              refine z_icmp_ne X 61 d_Mod_badAt_54 (by decide) (fun h54 => ?_) (fun h54 => ?_)
              · skip
                have h := (if_neg h54).symm.trans h
                refine zW.pick [0, 1, 2, 3, 4] (lv' := [(0, .ref (A 38)), (2, .int x2), (3, .int x3), (4, .int x4), (5, .int x5)]) rfl ?_
                exact (ih).2.2.1 x2 x3 x4 x5 0 _ _ hM h
              · skip
                have h := (if_pos h54).symm.trans h
                refine z_iconst X d_Mod_badAt_57 (v := 1) (by decide) ?_
                refine z_goto X 62 d_Mod_badAt_58 (by decide) ?_
                refine z_istore X d_Mod_badAt_62 (by decide) rfl ?_
                refine z_iload X d_Mod_badAt_64 rfl ?_
                refine z_if_eq X 76 d_Mod_badAt_66 (by decide) (fun h66 => ?_) (fun h66 => ?_)
                · skip
                  exact absurd h66 (by decide)
                · skip
                  refine z_iload_n X d_Mod_badAt_69 rfl ?_
                  refine z_if_ne X 76 d_Mod_badAt_70 (by decide) (fun h70 => ?_) (fun h70 => ?_)
                  · skip
                    have h := (if_neg h70).symm.trans h
                    refine zW.pick [0, 1, 2, 3, 4, 5] (lv' := [(0, .ref (A 38)), (2, .int x2), (3, .int x3), (4, .int x4), (5, .int x5), (6, .int 1)]) rfl ?_
                    exact (ih).2.2.2 x2 x3 x4 x5 1 _ _ hM h
                  · skip
                    have h := (if_pos h70).symm.trans h
                    refine z_iload X d_Mod_badAt_73 rfl ?_
                    have e9 := Option.some.inj h
                    subst e9
                    exact z_iret X d_Mod_badAt_75 ⟨rfl, rfl, hM⟩
      · intro x2 x3 x4 x5 x6 f1 μ hM h
        rw [m_badAt_b2] at h
        refine z_iconst X d_Mod_badAt_61 (v := 0) (by decide) ?_
        refine z_istore X d_Mod_badAt_62 (by decide) rfl ?_
        refine z_iload X d_Mod_badAt_64 rfl ?_
        refine z_if_eq X 76 d_Mod_badAt_66 (by decide) (fun h66 => ?_) (fun h66 => ?_)
        · skip
          refine zW.pick [0, 1, 2, 3, 4, 5] (lv' := [(0, .ref (A 38)), (2, .int x2), (3, .int x3), (4, .int x4), (5, .int x5), (6, .int 0)]) rfl ?_
          exact (ih).2.2.2 x2 x3 x4 x5 0 _ _ hM h
        · skip
          exact absurd h66 (by decide)
      · intro x2 x3 x4 x5 x6 f1 μ hM h
        rw [m_badAt_b3] at h
        refine z_iload_n X d_Mod_badAt_76 rfl ?_
        refine z_iload X d_Mod_badAt_77 rfl ?_
        refine z_if_eq X 86 d_Mod_badAt_79 (by decide) (fun h79 => ?_) (fun h79 => ?_)
        · skip
          have h := (if_pos h79).symm.trans h
          refine z_iconst X d_Mod_badAt_86 (v := 0) (by decide) ?_
          refine z_isub X d_Mod_badAt_87 ?_
          refine z_istore_n X d_Mod_badAt_88 (by decide) rfl ?_
          refine z_iinc X d_Mod_badAt_89 rfl (iic 1 1 (by decide) _) (by decide) rfl ?_
          refine z_goto X 15 d_Mod_badAt_92 (by decide) ?_
          refine zW.pick [0, 1, 2, 3, 4] (lv' := [(0, .ref (A 38)), (2, .int x2), (3, .int (x3 - 0)), (4, .int x4), (5, .int (x5 + 1))]) rfl ?_
          exact (ih).2.1 x2 (x3 - 0) x4 (x5 + 1) 0 _ _ hM h
        · skip
          have h := (if_neg h79).symm.trans h
          refine z_iconst X d_Mod_badAt_82 (v := 1) (by decide) ?_
          refine z_goto X 87 d_Mod_badAt_83 (by decide) ?_
          refine z_isub X d_Mod_badAt_87 ?_
          refine z_istore_n X d_Mod_badAt_88 (by decide) rfl ?_
          refine z_iinc X d_Mod_badAt_89 rfl (iic 1 1 (by decide) _) (by decide) rfl ?_
          refine z_goto X 15 d_Mod_badAt_92 (by decide) ?_
          refine zW.pick [0, 1, 2, 3, 4] (lv' := [(0, .ref (A 38)), (2, .int x2), (3, .int (x3 - 1)), (4, .int x4), (5, .int (x5 + 1))]) rfl ?_
          exact (ih).2.1 x2 (x3 - 1) x4 (x5 + 1) 0 _ _ hM h
  rw [m_badAt] at h
  refine z_iload_n X d_Mod_badAt_0 rfl ?_
  refine z_istore_n X d_Mod_badAt_1 (by decide) rfl ?_
  refine z_iconst X d_Mod_badAt_2 (v := 0) (by decide) ?_
  refine z_istore X d_Mod_badAt_3 (by decide) rfl ?_
  refine zW.pick [0, 2, 3, 4] (lv' := [(0, .ref (A 38)), (2, .int x2), (3, .int x1), (4, .int 0)]) rfl ?_
  exact (L 4096).1 x2 x1 0 0 0 _ _ hM h
theorem d_Mod_bad_0 : decode prog_10_method_41_code 0 = .ok (.aload_n 0, 1) := by decide +kernel
theorem d_Mod_bad_1 : decode prog_10_method_41_code 1 = .ok (.iconst 0, 1) := by decide +kernel
theorem d_Mod_bad_2 : decode prog_10_method_41_code 2 = .ok (.putfield 93, 3) := by decide +kernel
theorem d_Mod_bad_5 : decode prog_10_method_41_code 5 = .ok (.aload_n 0, 1) := by decide +kernel
theorem d_Mod_bad_6 : decode prog_10_method_41_code 6 = .ok (.iload_n 1, 1) := by decide +kernel
theorem d_Mod_bad_7 : decode prog_10_method_41_code 7 = .ok (.iload_n 2, 1) := by decide +kernel
theorem d_Mod_bad_8 : decode prog_10_method_41_code 8 = .ok (.invokevirtual 237, 3) := by decide +kernel
theorem d_Mod_bad_11 : decode prog_10_method_41_code 11 = .ok (.ireturn, 1) := by decide +kernel
def m_bad (x1 x2 : Int32) (μ : MS) : Option (Int32 × MS) := (m_badAt x1 x2 (sI 0 0 μ)).bind (fun p8 => some (p8.1, p8.2))
set_option maxHeartbeats 4000000 in
set_option maxRecDepth 100000 in
theorem c_Mod_bad {A : Nat → Nat} {f0 : Nat → va_E} {μ : MS} {x1 x2 : Int32} {res : (Int32 × MS)} (hM : zMf ck b0 N A f0 f μ) (h : m_bad x1 x2 μ = some res) : zK l D ck ad b0 y_Mod_bad prog_10_method_41_code 3 ((some FieldType.int)) 1 0 0 [.ref (A 38), .int x1, .int x2] N f (fun r N' f' => r = some (.int res.1) ∧ N = N' ∧ zMf ck b0 N A f0 f' res.2) := by
  refine zM.of zG_w (by decide) (Nat.le_of_ble_eq_true rfl) ?_
  intro zp ze zst zm zar zbe zme zc X hnm hb0
  rw [m_bad] at h
  refine z_aload_n X d_Mod_bad_0 rfl ?_
  refine z_iconst X d_Mod_bad_1 (v := 0) (by decide) ?_
  refine z_putM X t_Mod ty_Mod n_Mod d_Mod_bad_2 hM cl_Mod in_Mod 0 (by decide) fl_Mod_93 rfl rfl rfl (by decide) rfl (fun hM => ?_)
  refine z_aload_n X d_Mod_bad_5 rfl ?_
  refine z_iload_n X d_Mod_bad_6 rfl ?_
  refine z_iload_n X d_Mod_bad_7 rfl ?_
  obtain ⟨p8, q8, h⟩ := bd h
  refine z_callV X zG_ok (c_Mod_badAt hM q8) d_Mod_bad_8 ⟨(z_cb (n := 2) X.2.2.2.2.1 ml_Mod_237 mc_Mod_badAt ini_Mod (by decide +kernel) rfl rfl ⟨Nat.le_of_ble_eq_true rfl, Nat.le_of_ble_eq_true rfl⟩), X.2.2.2.2.1 _ im_Mod_badAt, X.2.2.2.2.1 _ sel_Mod_badAt⟩ (hM.lo 38 (by decide)) hM.ob cl_Mod rfl rfl (Nat.le_of_ble_eq_true rfl) ⟨Nat.le_of_ble_eq_true rfl, Nat.le_of_ble_eq_true rfl⟩ (fun r N1 f1 hp hN1 => ?_)
  obtain ⟨rfl, rfl, hM⟩ := hp
  have e9 := Option.some.inj h
  subst e9
  exact z_iret X d_Mod_bad_11 ⟨rfl, rfl, hM⟩
theorem d_Mod_was_0 : decode prog_10_method_42_code 0 = .ok (.aload_n 0, 1) := by decide +kernel
theorem d_Mod_was_1 : decode prog_10_method_42_code 1 = .ok (.aload_n 0, 1) := by decide +kernel
theorem d_Mod_was_2 : decode prog_10_method_42_code 2 = .ok (.iload_n 1, 1) := by decide +kernel
theorem d_Mod_was_3 : decode prog_10_method_42_code 3 = .ok (.invokevirtual 197, 3) := by decide +kernel
theorem d_Mod_was_6 : decode prog_10_method_42_code 6 = .ok (.ifCond .eq 7, 3) := by decide +kernel
theorem d_Mod_was_9 : decode prog_10_method_42_code 9 = .ok (.iconst 0, 1) := by decide +kernel
theorem d_Mod_was_10 : decode prog_10_method_42_code 10 = .ok (.goto 4, 3) := by decide +kernel
theorem d_Mod_was_13 : decode prog_10_method_42_code 13 = .ok (.iconst 1, 1) := by decide +kernel
theorem d_Mod_was_14 : decode prog_10_method_42_code 14 = .ok (.putfield 93, 3) := by decide +kernel
theorem d_Mod_was_17 : decode prog_10_method_42_code 17 = .ok (.aload_n 0, 1) := by decide +kernel
theorem d_Mod_was_18 : decode prog_10_method_42_code 18 = .ok (.getfield 93, 3) := by decide +kernel
theorem d_Mod_was_21 : decode prog_10_method_42_code 21 = .ok (.ifCond .le 7, 3) := by decide +kernel
theorem d_Mod_was_24 : decode prog_10_method_42_code 24 = .ok (.iconst 0, 1) := by decide +kernel
theorem d_Mod_was_25 : decode prog_10_method_42_code 25 = .ok (.goto 9, 3) := by decide +kernel
theorem d_Mod_was_28 : decode prog_10_method_42_code 28 = .ok (.aload_n 0, 1) := by decide +kernel
theorem d_Mod_was_29 : decode prog_10_method_42_code 29 = .ok (.getfield 38, 3) := by decide +kernel
theorem d_Mod_was_32 : decode prog_10_method_42_code 32 = .ok (.iload_n 1, 1) := by decide +kernel
theorem d_Mod_was_33 : decode prog_10_method_42_code 33 = .ok (.iaload, 1) := by decide +kernel
theorem d_Mod_was_34 : decode prog_10_method_42_code 34 = .ok (.ireturn, 1) := by decide +kernel
def m_was (x1 : Int32) (μ : MS) : Option (Int32 × MS) := (m_isRule x1 μ).bind (fun p3 => (if p3.1 = 0 then some (0, (sI 0 1 p3.2)) else (if inb x1 20 = true then some (((p3.2.2.1 14) x1.toNatClampNeg), (sI 0 0 p3.2)) else none)))
set_option maxHeartbeats 4000000 in
set_option maxRecDepth 100000 in
theorem c_Mod_was {A : Nat → Nat} {f0 : Nat → va_E} {μ : MS} {x1 : Int32} {res : (Int32 × MS)} (hM : zMf ck b0 N A f0 f μ) (h : m_was x1 μ = some res) : zK l D ck ad b0 y_Mod_was prog_10_method_42_code 2 ((some FieldType.int)) 1 0 0 [.ref (A 38), .int x1] N f (fun r N' f' => r = some (.int res.1) ∧ N = N' ∧ zMf ck b0 N A f0 f' res.2) := by
  refine zM.of zG_w (by decide) (Nat.le_of_ble_eq_true rfl) ?_
  intro zp ze zst zm zar zbe zme zc X hnm hb0
  rw [m_was] at h
  refine z_aload_n X d_Mod_was_0 rfl ?_
  refine z_aload_n X d_Mod_was_1 rfl ?_
  refine z_iload_n X d_Mod_was_2 rfl ?_
  obtain ⟨p3, q3, h⟩ := bd h
  refine z_callV X zG_ok (c_Mod_isRule hM q3) d_Mod_was_3 ⟨(z_cb (n := 1) X.2.2.2.2.1 ml_Mod_197 mc_Mod_isRule ini_Mod (by decide +kernel) rfl rfl ⟨Nat.le_of_ble_eq_true rfl, Nat.le_of_ble_eq_true rfl⟩), X.2.2.2.2.1 _ im_Mod_isRule, X.2.2.2.2.1 _ sel_Mod_isRule⟩ (hM.lo 38 (by decide)) hM.ob cl_Mod rfl rfl (Nat.le_of_ble_eq_true rfl) ⟨Nat.le_of_ble_eq_true rfl, Nat.le_of_ble_eq_true rfl⟩ (fun r N1 f1 hp hN1 => ?_)
  obtain ⟨rfl, rfl, hM⟩ := hp
  refine z_if_eq X 13 d_Mod_was_6 (by decide) (fun h6 => ?_) (fun h6 => ?_)
  · skip
    have h := (if_pos h6).symm.trans h
    refine z_iconst X d_Mod_was_13 (v := 1) (by decide) ?_
    refine z_putM X t_Mod ty_Mod n_Mod d_Mod_was_14 hM cl_Mod in_Mod 0 (by decide) fl_Mod_93 rfl rfl rfl (by decide) rfl (fun hM => ?_)
    refine z_aload_n X d_Mod_was_17 rfl ?_
    refine z_get X (v := .int 1) d_Mod_was_18 (hM.lo 38 (by decide)) hM.ob cl_Mod in_Mod 0 (by decide) fl_Mod_93 rfl rfl ?_
    refine z_if_le X 28 d_Mod_was_21 (by decide) (fun h21 => ?_) (fun h21 => ?_)
    · skip
      exact absurd h21 (by decide)
    · skip
      refine z_iconst X d_Mod_was_24 (v := 0) (by decide) ?_
      refine z_goto X 34 d_Mod_was_25 (by decide) ?_
      have e9 := Option.some.inj h
      subst e9
      exact z_iret X d_Mod_was_34 ⟨rfl, rfl, hM⟩
  · skip
    have h := (if_neg h6).symm.trans h
    refine z_iconst X d_Mod_was_9 (v := 0) (by decide) ?_
    refine z_goto X 14 d_Mod_was_10 (by decide) ?_
    refine z_putM X t_Mod ty_Mod n_Mod d_Mod_was_14 hM cl_Mod in_Mod 0 (by decide) fl_Mod_93 rfl rfl rfl (by decide) rfl (fun hM => ?_)
    refine z_aload_n X d_Mod_was_17 rfl ?_
    refine z_get X (v := .int 0) d_Mod_was_18 (hM.lo 38 (by decide)) hM.ob cl_Mod in_Mod 0 (by decide) fl_Mod_93 rfl rfl ?_
    refine z_if_le X 28 d_Mod_was_21 (by decide) (fun h21 => ?_) (fun h21 => ?_)
    · skip
      refine z_aload_n X d_Mod_was_28 rfl ?_
      refine z_get X (v := .ref (A 14)) d_Mod_was_29 (hM.lo 38 (by decide)) hM.ob cl_Mod in_Mod 14 (by decide) fl_Mod_38 rfl rfl ?_
      refine z_iload_n X d_Mod_was_32 rfl ?_
      obtain ⟨b33, h⟩ := gd h
      refine z_iald X (g := (p3.2.2.1 14)) d_Mod_was_33 (hM.lo 14 (by decide)) (hM.iA 14 20 rfl) (t0 := 0) rfl (vp_of b33) ?_
      have e9 := Option.some.inj h
      subst e9
      exact z_iret X d_Mod_was_34 ⟨rfl, rfl, hM⟩
    · skip
      exact absurd h21 (by decide)
theorem d_Mod_is_0 : decode prog_10_method_43_code 0 = .ok (.aload_n 0, 1) := by decide +kernel
theorem d_Mod_is_1 : decode prog_10_method_43_code 1 = .ok (.aload_n 0, 1) := by decide +kernel
theorem d_Mod_is_2 : decode prog_10_method_43_code 2 = .ok (.iload_n 1, 1) := by decide +kernel
theorem d_Mod_is_3 : decode prog_10_method_43_code 3 = .ok (.invokevirtual 197, 3) := by decide +kernel
theorem d_Mod_is_6 : decode prog_10_method_43_code 6 = .ok (.ifCond .eq 7, 3) := by decide +kernel
theorem d_Mod_is_9 : decode prog_10_method_43_code 9 = .ok (.iconst 0, 1) := by decide +kernel
theorem d_Mod_is_10 : decode prog_10_method_43_code 10 = .ok (.goto 4, 3) := by decide +kernel
theorem d_Mod_is_13 : decode prog_10_method_43_code 13 = .ok (.iconst 1, 1) := by decide +kernel
theorem d_Mod_is_14 : decode prog_10_method_43_code 14 = .ok (.putfield 93, 3) := by decide +kernel
theorem d_Mod_is_17 : decode prog_10_method_43_code 17 = .ok (.aload_n 0, 1) := by decide +kernel
theorem d_Mod_is_18 : decode prog_10_method_43_code 18 = .ok (.getfield 93, 3) := by decide +kernel
theorem d_Mod_is_21 : decode prog_10_method_43_code 21 = .ok (.ifCond .le 7, 3) := by decide +kernel
theorem d_Mod_is_24 : decode prog_10_method_43_code 24 = .ok (.iconst 0, 1) := by decide +kernel
theorem d_Mod_is_25 : decode prog_10_method_43_code 25 = .ok (.goto 8, 3) := by decide +kernel
theorem d_Mod_is_28 : decode prog_10_method_43_code 28 = .ok (.aload_n 0, 1) := by decide +kernel
theorem d_Mod_is_29 : decode prog_10_method_43_code 29 = .ok (.iload_n 1, 1) := by decide +kernel
theorem d_Mod_is_30 : decode prog_10_method_43_code 30 = .ok (.invokevirtual 234, 3) := by decide +kernel
theorem d_Mod_is_33 : decode prog_10_method_43_code 33 = .ok (.ireturn, 1) := by decide +kernel
def m_is (x1 : Int32) (μ : MS) : Option (Int32 × MS) := (m_isRule x1 μ).bind (fun p3 => (if p3.1 = 0 then some (0, (sI 0 1 p3.2)) else (m_work x1 (sI 0 0 p3.2)).bind (fun p30 => some (p30.1, p30.2))))
set_option maxHeartbeats 4000000 in
set_option maxRecDepth 100000 in
theorem c_Mod_is {A : Nat → Nat} {f0 : Nat → va_E} {μ : MS} {x1 : Int32} {res : (Int32 × MS)} (hM : zMf ck b0 N A f0 f μ) (h : m_is x1 μ = some res) : zK l D ck ad b0 y_Mod_is prog_10_method_43_code 2 ((some FieldType.int)) 5 0 0 [.ref (A 38), .int x1] N f (fun r N' f' => r = some (.int res.1) ∧ N = N' ∧ zMf ck b0 N A f0 f' res.2) := by
  refine zM.of zG_w (by decide) (Nat.le_of_ble_eq_true rfl) ?_
  intro zp ze zst zm zar zbe zme zc X hnm hb0
  rw [m_is] at h
  refine z_aload_n X d_Mod_is_0 rfl ?_
  refine z_aload_n X d_Mod_is_1 rfl ?_
  refine z_iload_n X d_Mod_is_2 rfl ?_
  obtain ⟨p3, q3, h⟩ := bd h
  refine z_callV X zG_ok (c_Mod_isRule hM q3) d_Mod_is_3 ⟨(z_cb (n := 1) X.2.2.2.2.1 ml_Mod_197 mc_Mod_isRule ini_Mod (by decide +kernel) rfl rfl ⟨Nat.le_of_ble_eq_true rfl, Nat.le_of_ble_eq_true rfl⟩), X.2.2.2.2.1 _ im_Mod_isRule, X.2.2.2.2.1 _ sel_Mod_isRule⟩ (hM.lo 38 (by decide)) hM.ob cl_Mod rfl rfl (Nat.le_of_ble_eq_true rfl) ⟨Nat.le_of_ble_eq_true rfl, Nat.le_of_ble_eq_true rfl⟩ (fun r N1 f1 hp hN1 => ?_)
  obtain ⟨rfl, rfl, hM⟩ := hp
  refine z_if_eq X 13 d_Mod_is_6 (by decide) (fun h6 => ?_) (fun h6 => ?_)
  · skip
    have h := (if_pos h6).symm.trans h
    refine z_iconst X d_Mod_is_13 (v := 1) (by decide) ?_
    refine z_putM X t_Mod ty_Mod n_Mod d_Mod_is_14 hM cl_Mod in_Mod 0 (by decide) fl_Mod_93 rfl rfl rfl (by decide) rfl (fun hM => ?_)
    refine z_aload_n X d_Mod_is_17 rfl ?_
    refine z_get X (v := .int 1) d_Mod_is_18 (hM.lo 38 (by decide)) hM.ob cl_Mod in_Mod 0 (by decide) fl_Mod_93 rfl rfl ?_
    refine z_if_le X 28 d_Mod_is_21 (by decide) (fun h21 => ?_) (fun h21 => ?_)
    · skip
      exact absurd h21 (by decide)
    · skip
      refine z_iconst X d_Mod_is_24 (v := 0) (by decide) ?_
      refine z_goto X 33 d_Mod_is_25 (by decide) ?_
      have e9 := Option.some.inj h
      subst e9
      exact z_iret X d_Mod_is_33 ⟨rfl, rfl, hM⟩
  · skip
    have h := (if_neg h6).symm.trans h
    refine z_iconst X d_Mod_is_9 (v := 0) (by decide) ?_
    refine z_goto X 14 d_Mod_is_10 (by decide) ?_
    refine z_putM X t_Mod ty_Mod n_Mod d_Mod_is_14 hM cl_Mod in_Mod 0 (by decide) fl_Mod_93 rfl rfl rfl (by decide) rfl (fun hM => ?_)
    refine z_aload_n X d_Mod_is_17 rfl ?_
    refine z_get X (v := .int 0) d_Mod_is_18 (hM.lo 38 (by decide)) hM.ob cl_Mod in_Mod 0 (by decide) fl_Mod_93 rfl rfl ?_
    refine z_if_le X 28 d_Mod_is_21 (by decide) (fun h21 => ?_) (fun h21 => ?_)
    · skip
      refine z_aload_n X d_Mod_is_28 rfl ?_
      refine z_iload_n X d_Mod_is_29 rfl ?_
      obtain ⟨p30, q30, h⟩ := bd h
      refine z_callV X zG_ok (c_Mod_work hM q30) d_Mod_is_30 ⟨(z_cb (n := 1) X.2.2.2.2.1 ml_Mod_234 mc_Mod_work ini_Mod (by decide +kernel) rfl rfl ⟨Nat.le_of_ble_eq_true rfl, Nat.le_of_ble_eq_true rfl⟩), X.2.2.2.2.1 _ im_Mod_work, X.2.2.2.2.1 _ sel_Mod_work⟩ (hM.lo 38 (by decide)) hM.ob cl_Mod rfl rfl (Nat.le_of_ble_eq_true rfl) ⟨Nat.le_of_ble_eq_true rfl, Nat.le_of_ble_eq_true rfl⟩ (fun r N1 f1 hp hN1 => ?_)
      obtain ⟨rfl, rfl, hM⟩ := hp
      have e9 := Option.some.inj h
      subst e9
      exact z_iret X d_Mod_is_33 ⟨rfl, rfl, hM⟩
    · skip
      exact absurd h21 (by decide)
theorem d_Mod_answer_0 : decode prog_10_method_44_code 0 = .ok (.aload_n 0, 1) := by decide +kernel
theorem d_Mod_answer_1 : decode prog_10_method_44_code 1 = .ok (.iconst 0, 1) := by decide +kernel
theorem d_Mod_answer_2 : decode prog_10_method_44_code 2 = .ok (.putfield 93, 3) := by decide +kernel
theorem d_Mod_answer_5 : decode prog_10_method_44_code 5 = .ok (.aload_n 0, 1) := by decide +kernel
theorem d_Mod_answer_6 : decode prog_10_method_44_code 6 = .ok (.iload_n 1, 1) := by decide +kernel
theorem d_Mod_answer_7 : decode prog_10_method_44_code 7 = .ok (.invokevirtual 197, 3) := by decide +kernel
theorem d_Mod_answer_10 : decode prog_10_method_44_code 10 = .ok (.ifCond .eq 32, 3) := by decide +kernel
theorem d_Mod_answer_13 : decode prog_10_method_44_code 13 = .ok (.aload_n 0, 1) := by decide +kernel
theorem d_Mod_answer_14 : decode prog_10_method_44_code 14 = .ok (.getfield 31, 3) := by decide +kernel
theorem d_Mod_answer_17 : decode prog_10_method_44_code 17 = .ok (.iload_n 1, 1) := by decide +kernel
theorem d_Mod_answer_18 : decode prog_10_method_44_code 18 = .ok (.baload, 1) := by decide +kernel
theorem d_Mod_answer_19 : decode prog_10_method_44_code 19 = .ok (.ifCond .ne 23, 3) := by decide +kernel
theorem d_Mod_answer_22 : decode prog_10_method_44_code 22 = .ok (.aload_n 0, 1) := by decide +kernel
theorem d_Mod_answer_23 : decode prog_10_method_44_code 23 = .ok (.getfield 38, 3) := by decide +kernel
theorem d_Mod_answer_26 : decode prog_10_method_44_code 26 = .ok (.iload_n 1, 1) := by decide +kernel
theorem d_Mod_answer_27 : decode prog_10_method_44_code 27 = .ok (.iaload, 1) := by decide +kernel
theorem d_Mod_answer_28 : decode prog_10_method_44_code 28 = .ok (.iconst (-1), 1) := by decide +kernel
theorem d_Mod_answer_29 : decode prog_10_method_44_code 29 = .ok (.if_icmp .eq 13, 3) := by decide +kernel
theorem d_Mod_answer_32 : decode prog_10_method_44_code 32 = .ok (.aload_n 0, 1) := by decide +kernel
theorem d_Mod_answer_33 : decode prog_10_method_44_code 33 = .ok (.getfield 38, 3) := by decide +kernel
theorem d_Mod_answer_36 : decode prog_10_method_44_code 36 = .ok (.iload_n 1, 1) := by decide +kernel
theorem d_Mod_answer_37 : decode prog_10_method_44_code 37 = .ok (.iaload, 1) := by decide +kernel
theorem d_Mod_answer_38 : decode prog_10_method_44_code 38 = .ok (.iconst 1, 1) := by decide +kernel
theorem d_Mod_answer_39 : decode prog_10_method_44_code 39 = .ok (.if_icmp .ne 5, 3) := by decide +kernel
theorem d_Mod_answer_42 : decode prog_10_method_44_code 42 = .ok (.iconst 0, 1) := by decide +kernel
theorem d_Mod_answer_43 : decode prog_10_method_44_code 43 = .ok (.ireturn, 1) := by decide +kernel
theorem d_Mod_answer_44 : decode prog_10_method_44_code 44 = .ok (.aload_n 0, 1) := by decide +kernel
theorem d_Mod_answer_45 : decode prog_10_method_44_code 45 = .ok (.getfield 44, 3) := by decide +kernel
theorem d_Mod_answer_48 : decode prog_10_method_44_code 48 = .ok (.iload_n 1, 1) := by decide +kernel
theorem d_Mod_answer_49 : decode prog_10_method_44_code 49 = .ok (.iconst 1, 1) := by decide +kernel
theorem d_Mod_answer_50 : decode prog_10_method_44_code 50 = .ok (.bastore, 1) := by decide +kernel
theorem d_Mod_answer_51 : decode prog_10_method_44_code 51 = .ok (.iconst 1, 1) := by decide +kernel
theorem d_Mod_answer_52 : decode prog_10_method_44_code 52 = .ok (.ireturn, 1) := by decide +kernel
def m_answer (x1 : Int32) (μ : MS) : Option (Int32 × MS) := (m_isRule x1 (sI 0 0 μ)).bind (fun p7 => (if p7.1 = 0 then some (0, p7.2) else (if inb x1 20 = true then (if ((p7.2.2.1 12) x1.toNatClampNeg) = 0 then (if ((p7.2.2.1 14) x1.toNatClampNeg) = (-1) then some (0, p7.2) else (if ((p7.2.2.1 14) x1.toNatClampNeg) = 1 then some (0, p7.2) else some (1, (sA 16 (x1.toNatClampNeg) (vp_nar .boolean 1) p7.2)))) else some (0, p7.2)) else none)))
set_option maxHeartbeats 4000000 in
set_option maxRecDepth 100000 in
theorem c_Mod_answer {A : Nat → Nat} {f0 : Nat → va_E} {μ : MS} {x1 : Int32} {res : (Int32 × MS)} (hM : zMf ck b0 N A f0 f μ) (h : m_answer x1 μ = some res) : zK l D ck ad b0 y_Mod_answer prog_10_method_44_code 2 ((some FieldType.boolean)) 1 0 0 [.ref (A 38), .int x1] N f (fun r N' f' => r = some (.int res.1) ∧ N = N' ∧ zMf ck b0 N A f0 f' res.2) := by
  refine zM.of zG_w (by decide) (Nat.le_of_ble_eq_true rfl) ?_
  intro zp ze zst zm zar zbe zme zc X hnm hb0
  rw [m_answer] at h
  refine z_aload_n X d_Mod_answer_0 rfl ?_
  refine z_iconst X d_Mod_answer_1 (v := 0) (by decide) ?_
  refine z_putM X t_Mod ty_Mod n_Mod d_Mod_answer_2 hM cl_Mod in_Mod 0 (by decide) fl_Mod_93 rfl rfl rfl (by decide) rfl (fun hM => ?_)
  refine z_aload_n X d_Mod_answer_5 rfl ?_
  refine z_iload_n X d_Mod_answer_6 rfl ?_
  obtain ⟨p7, q7, h⟩ := bd h
  refine z_callV X zG_ok (c_Mod_isRule hM q7) d_Mod_answer_7 ⟨(z_cb (n := 1) X.2.2.2.2.1 ml_Mod_197 mc_Mod_isRule ini_Mod (by decide +kernel) rfl rfl ⟨Nat.le_of_ble_eq_true rfl, Nat.le_of_ble_eq_true rfl⟩), X.2.2.2.2.1 _ im_Mod_isRule, X.2.2.2.2.1 _ sel_Mod_isRule⟩ (hM.lo 38 (by decide)) hM.ob cl_Mod rfl rfl (Nat.le_of_ble_eq_true rfl) ⟨Nat.le_of_ble_eq_true rfl, Nat.le_of_ble_eq_true rfl⟩ (fun r N1 f1 hp hN1 => ?_)
  obtain ⟨rfl, rfl, hM⟩ := hp
  refine z_if_eq X 42 d_Mod_answer_10 (by decide) (fun h10 => ?_) (fun h10 => ?_)
  · skip
    have h := (if_pos h10).symm.trans h
    refine z_iconst X d_Mod_answer_42 (v := 0) (by decide) ?_
    have e9 := Option.some.inj h
    subst e9
    exact z_zret X d_Mod_answer_43 rfl ⟨rfl, rfl, hM⟩
  · skip
    have h := (if_neg h10).symm.trans h
    refine z_aload_n X d_Mod_answer_13 rfl ?_
    refine z_get X (v := .ref (A 12)) d_Mod_answer_14 (hM.lo 38 (by decide)) hM.ob cl_Mod in_Mod 12 (by decide) fl_Mod_31 rfl rfl ?_
    refine z_iload_n X d_Mod_answer_17 rfl ?_
    obtain ⟨b18, h⟩ := gd h
    refine z_zald X (g := (p7.2.2.1 12)) d_Mod_answer_18 (hM.lo 12 (by decide)) (hM.zA 12 20 rfl) (t0 := 1) rfl (vp_of b18) ?_
    refine z_if_ne X 42 d_Mod_answer_19 (by decide) (fun h19 => ?_) (fun h19 => ?_)
    · skip
      have h := (if_neg h19).symm.trans h
      refine z_iconst X d_Mod_answer_42 (v := 0) (by decide) ?_
      have e9 := Option.some.inj h
      subst e9
      exact z_zret X d_Mod_answer_43 rfl ⟨rfl, rfl, hM⟩
    · skip
      have h := (if_pos h19).symm.trans h
      refine z_aload_n X d_Mod_answer_22 rfl ?_
      refine z_get X (v := .ref (A 14)) d_Mod_answer_23 (hM.lo 38 (by decide)) hM.ob cl_Mod in_Mod 14 (by decide) fl_Mod_38 rfl rfl ?_
      refine z_iload_n X d_Mod_answer_26 rfl ?_
      refine z_iald X (g := (p7.2.2.1 14)) d_Mod_answer_27 (hM.lo 14 (by decide)) (hM.iA 14 20 rfl) (t0 := 0) rfl (vp_of b18) ?_
      refine z_iconst X d_Mod_answer_28 (v := -1) (by decide) ?_
      refine z_icmp_eq X 42 d_Mod_answer_29 (by decide) (fun h29 => ?_) (fun h29 => ?_)
      · skip
        have h := (if_pos h29).symm.trans h
        refine z_iconst X d_Mod_answer_42 (v := 0) (by decide) ?_
        have e9 := Option.some.inj h
        subst e9
        exact z_zret X d_Mod_answer_43 rfl ⟨rfl, rfl, hM⟩
      · skip
        have h := (if_neg h29).symm.trans h
        refine z_aload_n X d_Mod_answer_32 rfl ?_
        refine z_get X (v := .ref (A 14)) d_Mod_answer_33 (hM.lo 38 (by decide)) hM.ob cl_Mod in_Mod 14 (by decide) fl_Mod_38 rfl rfl ?_
        refine z_iload_n X d_Mod_answer_36 rfl ?_
        refine z_iald X (g := (p7.2.2.1 14)) d_Mod_answer_37 (hM.lo 14 (by decide)) (hM.iA 14 20 rfl) (t0 := 0) rfl (vp_of b18) ?_
        refine z_iconst X d_Mod_answer_38 (v := 1) (by decide) ?_
        refine z_icmp_ne X 44 d_Mod_answer_39 (by decide) (fun h39 => ?_) (fun h39 => ?_)
        · skip
          have h := (if_neg h39).symm.trans h
          refine z_aload_n X d_Mod_answer_44 rfl ?_
          refine z_get X (v := .ref (A 16)) d_Mod_answer_45 (hM.lo 38 (by decide)) hM.ob cl_Mod in_Mod 16 (by decide) fl_Mod_44 rfl rfl ?_
          refine z_iload_n X d_Mod_answer_48 rfl ?_
          refine z_iconst X d_Mod_answer_49 (v := 1) (by decide) ?_
          refine z_zastM X d_Mod_answer_50 hM 16 20 rfl rfl (vp_of b18) (fun hM => ?_)
          refine z_iconst X d_Mod_answer_51 (v := 1) (by decide) ?_
          have e9 := Option.some.inj h
          subst e9
          exact z_zret X d_Mod_answer_52 rfl ⟨rfl, rfl, hM⟩
        · skip
          have h := (if_pos h39).symm.trans h
          refine z_iconst X d_Mod_answer_42 (v := 0) (by decide) ?_
          have e9 := Option.some.inj h
          subst e9
          exact z_zret X d_Mod_answer_43 rfl ⟨rfl, rfl, hM⟩
theorem d_Mod_touch_0 : decode prog_10_method_45_code 0 = .ok (.aload_n 0, 1) := by decide +kernel
theorem d_Mod_touch_1 : decode prog_10_method_45_code 1 = .ok (.iload_n 1, 1) := by decide +kernel
theorem d_Mod_touch_2 : decode prog_10_method_45_code 2 = .ok (.iconst 0, 1) := by decide +kernel
theorem d_Mod_touch_3 : decode prog_10_method_45_code 3 = .ok (.bipush 19, 2) := by decide +kernel
theorem d_Mod_touch_5 : decode prog_10_method_45_code 5 = .ok (.invokestatic 100, 3) := by decide +kernel
theorem d_Mod_touch_8 : decode prog_10_method_45_code 8 = .ok (.ifCond .eq 7, 3) := by decide +kernel
theorem d_Mod_touch_11 : decode prog_10_method_45_code 11 = .ok (.iconst 0, 1) := by decide +kernel
theorem d_Mod_touch_12 : decode prog_10_method_45_code 12 = .ok (.goto 4, 3) := by decide +kernel
theorem d_Mod_touch_15 : decode prog_10_method_45_code 15 = .ok (.iconst 1, 1) := by decide +kernel
theorem d_Mod_touch_16 : decode prog_10_method_45_code 16 = .ok (.putfield 93, 3) := by decide +kernel
theorem d_Mod_touch_19 : decode prog_10_method_45_code 19 = .ok (.aload_n 0, 1) := by decide +kernel
theorem d_Mod_touch_20 : decode prog_10_method_45_code 20 = .ok (.getfield 93, 3) := by decide +kernel
theorem d_Mod_touch_23 : decode prog_10_method_45_code 23 = .ok (.ifCond .le 5, 3) := by decide +kernel
theorem d_Mod_touch_26 : decode prog_10_method_45_code 26 = .ok (.iconst 0, 1) := by decide +kernel
theorem d_Mod_touch_27 : decode prog_10_method_45_code 27 = .ok (.ireturn, 1) := by decide +kernel
theorem d_Mod_touch_28 : decode prog_10_method_45_code 28 = .ok (.iconst 0, 1) := by decide +kernel
theorem d_Mod_touch_29 : decode prog_10_method_45_code 29 = .ok (.istore_n 2, 1) := by decide +kernel
theorem d_Mod_touch_30 : decode prog_10_method_45_code 30 = .ok (.iconst 0, 1) := by decide +kernel
theorem d_Mod_touch_31 : decode prog_10_method_45_code 31 = .ok (.istore_n 3, 1) := by decide +kernel
theorem d_Mod_touch_32 : decode prog_10_method_45_code 32 = .ok (.iload_n 3, 1) := by decide +kernel
theorem d_Mod_touch_33 : decode prog_10_method_45_code 33 = .ok (.aload_n 0, 1) := by decide +kernel
theorem d_Mod_touch_34 : decode prog_10_method_45_code 34 = .ok (.getfield 97, 3) := by decide +kernel
theorem d_Mod_touch_37 : decode prog_10_method_45_code 37 = .ok (.if_icmp .ge 88, 3) := by decide +kernel
theorem d_Mod_touch_40 : decode prog_10_method_45_code 40 = .ok (.iconst 0, 1) := by decide +kernel
theorem d_Mod_touch_41 : decode prog_10_method_45_code 41 = .ok (.istore 4, 2) := by decide +kernel
theorem d_Mod_touch_43 : decode prog_10_method_45_code 43 = .ok (.bipush 40, 2) := by decide +kernel
theorem d_Mod_touch_45 : decode prog_10_method_45_code 45 = .ok (.iload_n 3, 1) := by decide +kernel
theorem d_Mod_touch_46 : decode prog_10_method_45_code 46 = .ok (.imul, 1) := by decide +kernel
theorem d_Mod_touch_47 : decode prog_10_method_45_code 47 = .ok (.istore 5, 2) := by decide +kernel
theorem d_Mod_touch_49 : decode prog_10_method_45_code 49 = .ok (.iload 5, 2) := by decide +kernel
theorem d_Mod_touch_51 : decode prog_10_method_45_code 51 = .ok (.bipush 40, 2) := by decide +kernel
theorem d_Mod_touch_53 : decode prog_10_method_45_code 53 = .ok (.iload_n 3, 1) := by decide +kernel
theorem d_Mod_touch_54 : decode prog_10_method_45_code 54 = .ok (.imul, 1) := by decide +kernel
theorem d_Mod_touch_55 : decode prog_10_method_45_code 55 = .ok (.aload_n 0, 1) := by decide +kernel
theorem d_Mod_touch_56 : decode prog_10_method_45_code 56 = .ok (.getfield 25, 3) := by decide +kernel
theorem d_Mod_touch_59 : decode prog_10_method_45_code 59 = .ok (.iload_n 3, 1) := by decide +kernel
theorem d_Mod_touch_60 : decode prog_10_method_45_code 60 = .ok (.iaload, 1) := by decide +kernel
theorem d_Mod_touch_61 : decode prog_10_method_45_code 61 = .ok (.iadd, 1) := by decide +kernel
theorem d_Mod_touch_62 : decode prog_10_method_45_code 62 = .ok (.if_icmp .ge 44, 3) := by decide +kernel
theorem d_Mod_touch_65 : decode prog_10_method_45_code 65 = .ok (.iload 4, 2) := by decide +kernel
theorem d_Mod_touch_67 : decode prog_10_method_45_code 67 = .ok (.ifCond .ne 26, 3) := by decide +kernel
theorem d_Mod_touch_70 : decode prog_10_method_45_code 70 = .ok (.aload_n 0, 1) := by decide +kernel
theorem d_Mod_touch_71 : decode prog_10_method_45_code 71 = .ok (.getfield 13, 3) := by decide +kernel
theorem d_Mod_touch_74 : decode prog_10_method_45_code 74 = .ok (.iload 5, 2) := by decide +kernel
theorem d_Mod_touch_76 : decode prog_10_method_45_code 76 = .ok (.iaload, 1) := by decide +kernel
theorem d_Mod_touch_77 : decode prog_10_method_45_code 77 = .ok (.bipush 11, 2) := by decide +kernel
theorem d_Mod_touch_79 : decode prog_10_method_45_code 79 = .ok (.if_icmp .le 18, 3) := by decide +kernel
theorem d_Mod_touch_82 : decode prog_10_method_45_code 82 = .ok (.aload_n 0, 1) := by decide +kernel
theorem d_Mod_touch_83 : decode prog_10_method_45_code 83 = .ok (.getfield 16, 3) := by decide +kernel
theorem d_Mod_touch_86 : decode prog_10_method_45_code 86 = .ok (.iload 5, 2) := by decide +kernel
theorem d_Mod_touch_88 : decode prog_10_method_45_code 88 = .ok (.iaload, 1) := by decide +kernel
theorem d_Mod_touch_89 : decode prog_10_method_45_code 89 = .ok (.iload_n 1, 1) := by decide +kernel
theorem d_Mod_touch_90 : decode prog_10_method_45_code 90 = .ok (.if_icmp .ne 7, 3) := by decide +kernel
theorem d_Mod_touch_93 : decode prog_10_method_45_code 93 = .ok (.iconst 1, 1) := by decide +kernel
theorem d_Mod_touch_94 : decode prog_10_method_45_code 94 = .ok (.goto 4, 3) := by decide +kernel
theorem d_Mod_touch_97 : decode prog_10_method_45_code 97 = .ok (.iconst 0, 1) := by decide +kernel
theorem d_Mod_touch_98 : decode prog_10_method_45_code 98 = .ok (.istore 4, 2) := by decide +kernel
theorem d_Mod_touch_100 : decode prog_10_method_45_code 100 = .ok (.iinc 5 1, 3) := by decide +kernel
theorem d_Mod_touch_103 : decode prog_10_method_45_code 103 = .ok (.goto (-54), 3) := by decide +kernel
theorem d_Mod_touch_106 : decode prog_10_method_45_code 106 = .ok (.iload_n 2, 1) := by decide +kernel
theorem d_Mod_touch_107 : decode prog_10_method_45_code 107 = .ok (.iload 4, 2) := by decide +kernel
theorem d_Mod_touch_109 : decode prog_10_method_45_code 109 = .ok (.ifCond .eq 7, 3) := by decide +kernel
theorem d_Mod_touch_112 : decode prog_10_method_45_code 112 = .ok (.iconst 1, 1) := by decide +kernel
theorem d_Mod_touch_113 : decode prog_10_method_45_code 113 = .ok (.goto 4, 3) := by decide +kernel
theorem d_Mod_touch_116 : decode prog_10_method_45_code 116 = .ok (.iconst 0, 1) := by decide +kernel
theorem d_Mod_touch_117 : decode prog_10_method_45_code 117 = .ok (.iadd, 1) := by decide +kernel
theorem d_Mod_touch_118 : decode prog_10_method_45_code 118 = .ok (.istore_n 2, 1) := by decide +kernel
theorem d_Mod_touch_119 : decode prog_10_method_45_code 119 = .ok (.iinc 3 1, 3) := by decide +kernel
theorem d_Mod_touch_122 : decode prog_10_method_45_code 122 = .ok (.goto (-90), 3) := by decide +kernel
theorem d_Mod_touch_125 : decode prog_10_method_45_code 125 = .ok (.iload_n 2, 1) := by decide +kernel
theorem d_Mod_touch_126 : decode prog_10_method_45_code 126 = .ok (.ireturn, 1) := by decide +kernel
def m_touch_B : Nat → Nat → Int32 → Int32 → Int32 → Int32 → Int32 → MS → Option (Int32 × MS)
  | 0, _, _, _, _, _, _, _ => none
  | n + 1, b, x1, x2, x3, x4, x5, μ => if b = 0 then (if (μ.1 3) ≤ x3 then some (x2, μ) else m_touch_B n 1 x1 x2 x3 0 (40 * x3) μ)
    else if b = 1 then (if inb x3 20 = true then (if ((40 * x3) + ((μ.2.1 10) x3.toNatClampNeg)) ≤ x5 then (if x4 = 0 then m_touch_B n 0 x1 (x2 + 0) (x3 + 1) 0 0 μ else m_touch_B n 0 x1 (x2 + 1) (x3 + 1) 0 0 μ) else (if x4 = 0 then (if inb x5 800 = true then (if ((μ.2.1 6) x5.toNatClampNeg) ≤ 11 then m_touch_B n 3 x1 x2 x3 0 x5 μ else (if ((μ.2.1 7) x5.toNatClampNeg) = x1 then m_touch_B n 2 x1 x2 x3 0 x5 μ else m_touch_B n 3 x1 x2 x3 0 x5 μ)) else none) else m_touch_B n 2 x1 x2 x3 0 x5 μ)) else none)
    else if b = 2 then m_touch_B n 1 x1 x2 x3 1 (x5 + 1) μ
    else m_touch_B n 1 x1 x2 x3 0 (x5 + 1) μ
theorem m_touch_b0 (n : Nat) (x1 : Int32) (x2 : Int32) (x3 : Int32) (x4 : Int32) (x5 : Int32) (μ : MS) : m_touch_B (n + 1) 0 x1 x2 x3 x4 x5 μ = (if (μ.1 3) ≤ x3 then some (x2, μ) else m_touch_B n 1 x1 x2 x3 0 (40 * x3) μ) := by
  rw [m_touch_B, if_pos rfl]
theorem m_touch_b1 (n : Nat) (x1 : Int32) (x2 : Int32) (x3 : Int32) (x4 : Int32) (x5 : Int32) (μ : MS) : m_touch_B (n + 1) 1 x1 x2 x3 x4 x5 μ = (if inb x3 20 = true then (if ((40 * x3) + ((μ.2.1 10) x3.toNatClampNeg)) ≤ x5 then (if x4 = 0 then m_touch_B n 0 x1 (x2 + 0) (x3 + 1) 0 0 μ else m_touch_B n 0 x1 (x2 + 1) (x3 + 1) 0 0 μ) else (if x4 = 0 then (if inb x5 800 = true then (if ((μ.2.1 6) x5.toNatClampNeg) ≤ 11 then m_touch_B n 3 x1 x2 x3 0 x5 μ else (if ((μ.2.1 7) x5.toNatClampNeg) = x1 then m_touch_B n 2 x1 x2 x3 0 x5 μ else m_touch_B n 3 x1 x2 x3 0 x5 μ)) else none) else m_touch_B n 2 x1 x2 x3 0 x5 μ)) else none) := by
  rw [m_touch_B, if_neg (by decide), if_pos rfl]
theorem m_touch_b2 (n : Nat) (x1 : Int32) (x2 : Int32) (x3 : Int32) (x4 : Int32) (x5 : Int32) (μ : MS) : m_touch_B (n + 1) 2 x1 x2 x3 x4 x5 μ = m_touch_B n 1 x1 x2 x3 1 (x5 + 1) μ := by
  rw [m_touch_B, if_neg (by decide), if_neg (by decide), if_pos rfl]
theorem m_touch_b3 (n : Nat) (x1 : Int32) (x2 : Int32) (x3 : Int32) (x4 : Int32) (x5 : Int32) (μ : MS) : m_touch_B (n + 1) 3 x1 x2 x3 x4 x5 μ = m_touch_B n 1 x1 x2 x3 0 (x5 + 1) μ := by
  rw [m_touch_B, if_neg (by decide), if_neg (by decide), if_neg (by decide)]
def m_touch (x1 : Int32) (μ : MS) : Option (Int32 × MS) := (m_in x1 0 19).bind (fun p5 => (if p5 = 0 then some (0, (sI 0 1 μ)) else m_touch_B 4096 0 x1 0 0 0 0 (sI 0 0 μ)))
set_option maxHeartbeats 4000000 in
set_option maxRecDepth 100000 in
theorem c_Mod_touch {A : Nat → Nat} {f0 : Nat → va_E} {μ : MS} {x1 : Int32} {res : (Int32 × MS)} (hM : zMf ck b0 N A f0 f μ) (h : m_touch x1 μ = some res) : zK l D ck ad b0 y_Mod_touch prog_10_method_45_code 6 ((some FieldType.int)) 1 0 0 [.ref (A 38), .int x1] N f (fun r N' f' => r = some (.int res.1) ∧ N = N' ∧ zMf ck b0 N A f0 f' res.2) := by
  refine zM.of zG_w (by decide) (Nat.le_of_ble_eq_true rfl) ?_
  intro zp ze zst zm zar zbe zme zc X hnm hb0
  have L : ∀ n : Nat, (∀ (x1 : Int32) (x2 : Int32) (x3 : Int32) (x4 : Int32) (x5 : Int32) (f1 : Nat → va_E) (μ : MS), zMf ck b0 N A f0 f1 μ → m_touch_B n 0 x1 x2 x3 x4 x5 μ = some res → zW zp l ze (zR 1 0 0) zst zm zar zbe zme zc D zcl b0 6 0 0 (MQ zbe (zQ D zcl b0 (fun r N' f' => r = some (.int res.1) ∧ N = N' ∧ zMf ck b0 N A f0 f' res.2)) zar zst 0 0 (zA b0)) N f1 32 [(0, .ref (A 38)), (1, .int x1), (2, .int x2), (3, .int x3)] []) ∧ (∀ (x1 : Int32) (x2 : Int32) (x3 : Int32) (x4 : Int32) (x5 : Int32) (f1 : Nat → va_E) (μ : MS), zMf ck b0 N A f0 f1 μ → m_touch_B n 1 x1 x2 x3 x4 x5 μ = some res → zW zp l ze (zR 1 0 0) zst zm zar zbe zme zc D zcl b0 6 0 0 (MQ zbe (zQ D zcl b0 (fun r N' f' => r = some (.int res.1) ∧ N = N' ∧ zMf ck b0 N A f0 f' res.2)) zar zst 0 0 (zA b0)) N f1 49 [(0, .ref (A 38)), (1, .int x1), (2, .int x2), (3, .int x3), (4, .int x4), (5, .int x5)] []) ∧ (∀ (x1 : Int32) (x2 : Int32) (x3 : Int32) (x4 : Int32) (x5 : Int32) (f1 : Nat → va_E) (μ : MS), zMf ck b0 N A f0 f1 μ → m_touch_B n 2 x1 x2 x3 x4 x5 μ = some res → zW zp l ze (zR 1 0 0) zst zm zar zbe zme zc D zcl b0 6 0 0 (MQ zbe (zQ D zcl b0 (fun r N' f' => r = some (.int res.1) ∧ N = N' ∧ zMf ck b0 N A f0 f' res.2)) zar zst 0 0 (zA b0)) N f1 93 [(0, .ref (A 38)), (1, .int x1), (2, .int x2), (3, .int x3), (5, .int x5)] []) ∧ (∀ (x1 : Int32) (x2 : Int32) (x3 : Int32) (x4 : Int32) (x5 : Int32) (f1 : Nat → va_E) (μ : MS), zMf ck b0 N A f0 f1 μ → m_touch_B n 3 x1 x2 x3 x4 x5 μ = some res → zW zp l ze (zR 1 0 0) zst zm zar zbe zme zc D zcl b0 6 0 0 (MQ zbe (zQ D zcl b0 (fun r N' f' => r = some (.int res.1) ∧ N = N' ∧ zMf ck b0 N A f0 f' res.2)) zar zst 0 0 (zA b0)) N f1 97 [(0, .ref (A 38)), (1, .int x1), (2, .int x2), (3, .int x3), (5, .int x5)] []) := by
    intro n
    induction n with
    | zero =>
      exact ⟨fun _ _ _ _ _ _ _ _ h => (by rw [m_touch_B] at h; cases h), fun _ _ _ _ _ _ _ _ h => (by rw [m_touch_B] at h; cases h), fun _ _ _ _ _ _ _ _ h => (by rw [m_touch_B] at h; cases h), fun _ _ _ _ _ _ _ _ h => (by rw [m_touch_B] at h; cases h)⟩
    | succ n ih =>
      refine ⟨?_, ?_, ?_, ?_⟩
      · intro x1 x2 x3 x4 x5 f1 μ hM h
        rw [m_touch_b0] at h
        refine z_iload_n X d_Mod_touch_32 rfl ?_
        refine z_aload_n X d_Mod_touch_33 rfl ?_
        refine z_get X (v := .int (μ.1 3)) d_Mod_touch_34 (hM.lo 38 (by decide)) hM.ob cl_Mod in_Mod 3 (by decide) fl_Mod_97 rfl rfl ?_
        refine z_icmp_ge X 125 d_Mod_touch_37 (by decide) (fun h37 => ?_) (fun h37 => ?_)
        · skip
          have h := (if_pos h37).symm.trans h
          refine z_iload_n X d_Mod_touch_125 rfl ?_
          have e9 := Option.some.inj h
          subst e9
          exact z_iret X d_Mod_touch_126 ⟨rfl, rfl, hM⟩
        · skip
          have h := (if_neg h37).symm.trans h
          refine z_iconst X d_Mod_touch_40 (v := 0) (by decide) ?_
          refine z_istore X d_Mod_touch_41 (by decide) rfl ?_
          refine z_bipush X d_Mod_touch_43 (v := 40) (by decide) ?_
          refine z_iload_n X d_Mod_touch_45 rfl ?_
          refine z_imul X d_Mod_touch_46 ?_
          refine z_istore X d_Mod_touch_47 (by decide) rfl ?_
          refine zW.pick [0, 1, 2, 3, 4, 5] (lv' := [(0, .ref (A 38)), (1, .int x1), (2, .int x2), (3, .int x3), (4, .int 0), (5, .int (40 * x3))]) rfl ?_
          exact (ih).2.1 x1 x2 x3 0 (40 * x3) _ _ hM h
      · intro x1 x2 x3 x4 x5 f1 μ hM h
        rw [m_touch_b1] at h
        refine z_iload X d_Mod_touch_49 rfl ?_
        refine z_bipush X d_Mod_touch_51 (v := 40) (by decide) ?_
        refine z_iload_n X d_Mod_touch_53 rfl ?_
        refine z_imul X d_Mod_touch_54 ?_
        refine z_aload_n X d_Mod_touch_55 rfl ?_
        refine z_get X (v := .ref (A 10)) d_Mod_touch_56 (hM.lo 38 (by decide)) hM.ob cl_Mod in_Mod 10 (by decide) fl_Mod_25 rfl rfl ?_
        refine z_iload_n X d_Mod_touch_59 rfl ?_
        obtain ⟨b60, h⟩ := gd h
        refine z_iald X (g := (μ.2.1 10)) d_Mod_touch_60 (hM.lo 10 (by decide)) (hM.iA 10 20 rfl) (t0 := 0) rfl (vp_of b60) ?_
        refine z_iadd X d_Mod_touch_61 ?_
        refine z_icmp_ge X 106 d_Mod_touch_62 (by decide) (fun h62 => ?_) (fun h62 => ?_)
        · skip
          have h := (if_pos h62).symm.trans h
          refine z_iload_n X d_Mod_touch_106 rfl ?_
          refine z_iload X d_Mod_touch_107 rfl ?_
          refine z_if_eq X 116 d_Mod_touch_109 (by decide) (fun h109 => ?_) (fun h109 => ?_)
          · skip
            have h := (if_pos h109).symm.trans h
            refine z_iconst X d_Mod_touch_116 (v := 0) (by decide) ?_
            refine z_iadd X d_Mod_touch_117 ?_
            refine z_istore_n X d_Mod_touch_118 (by decide) rfl ?_
            refine z_iinc X d_Mod_touch_119 rfl (iic 1 1 (by decide) _) (by decide) rfl ?_
            refine z_goto X 32 d_Mod_touch_122 (by decide) ?_
            refine zW.pick [0, 1, 2, 3] (lv' := [(0, .ref (A 38)), (1, .int x1), (2, .int (x2 + 0)), (3, .int (x3 + 1))]) rfl ?_
            exact (ih).1 x1 (x2 + 0) (x3 + 1) 0 0 _ _ hM h
          · skip
            have h := (if_neg h109).symm.trans h
            refine z_iconst X d_Mod_touch_112 (v := 1) (by decide) ?_
            refine z_goto X 117 d_Mod_touch_113 (by decide) ?_
            refine z_iadd X d_Mod_touch_117 ?_
            refine z_istore_n X d_Mod_touch_118 (by decide) rfl ?_
            refine z_iinc X d_Mod_touch_119 rfl (iic 1 1 (by decide) _) (by decide) rfl ?_
            refine z_goto X 32 d_Mod_touch_122 (by decide) ?_
            refine zW.pick [0, 1, 2, 3] (lv' := [(0, .ref (A 38)), (1, .int x1), (2, .int (x2 + 1)), (3, .int (x3 + 1))]) rfl ?_
            exact (ih).1 x1 (x2 + 1) (x3 + 1) 0 0 _ _ hM h
        · skip
          have h := (if_neg h62).symm.trans h
          refine z_iload X d_Mod_touch_65 rfl ?_
          refine z_if_ne X 93 d_Mod_touch_67 (by decide) (fun h67 => ?_) (fun h67 => ?_)
          · skip
            have h := (if_neg h67).symm.trans h
            refine zW.pick [0, 1, 2, 3, 5] (lv' := [(0, .ref (A 38)), (1, .int x1), (2, .int x2), (3, .int x3), (5, .int x5)]) rfl ?_
            exact (ih).2.2.1 x1 x2 x3 0 x5 _ _ hM h
          · skip
            have h := (if_pos h67).symm.trans h
            refine z_aload_n X d_Mod_touch_70 rfl ?_
            refine z_get X (v := .ref (A 6)) d_Mod_touch_71 (hM.lo 38 (by decide)) hM.ob cl_Mod in_Mod 6 (by decide) fl_Mod_13 rfl rfl ?_
            refine z_iload X d_Mod_touch_74 rfl ?_
            obtain ⟨b76, h⟩ := gd h
            refine z_iald X (g := (μ.2.1 6)) d_Mod_touch_76 (hM.lo 6 (by decide)) (hM.iA 6 800 rfl) (t0 := 0) rfl (vp_of b76) ?_
            refine z_bipush X d_Mod_touch_77 (v := 11) (by decide) ?_
            refine z_icmp_le X 97 d_Mod_touch_79 (by decide) (fun h79 => ?_) (fun h79 => ?_)
            · skip
              have h := (if_pos h79).symm.trans h
              refine zW.pick [0, 1, 2, 3, 5] (lv' := [(0, .ref (A 38)), (1, .int x1), (2, .int x2), (3, .int x3), (5, .int x5)]) rfl ?_
              exact (ih).2.2.2 x1 x2 x3 0 x5 _ _ hM h
            · skip
              have h := (if_neg h79).symm.trans h
              refine z_aload_n X d_Mod_touch_82 rfl ?_
              refine z_get X (v := .ref (A 7)) d_Mod_touch_83 (hM.lo 38 (by decide)) hM.ob cl_Mod in_Mod 7 (by decide) fl_Mod_16 rfl rfl ?_
              refine z_iload X d_Mod_touch_86 rfl ?_
              refine z_iald X (g := (μ.2.1 7)) d_Mod_touch_88 (hM.lo 7 (by decide)) (hM.iA 7 800 rfl) (t0 := 0) rfl (vp_of b76) ?_
              refine z_iload_n X d_Mod_touch_89 rfl ?_
              refine z_icmp_ne X 97 d_Mod_touch_90 (by decide) (fun h90 => ?_) (fun h90 => ?_)
              · skip
                have h := (if_neg h90).symm.trans h
                refine zW.pick [0, 1, 2, 3, 5] (lv' := [(0, .ref (A 38)), (1, .int x1), (2, .int x2), (3, .int x3), (5, .int x5)]) rfl ?_
                exact (ih).2.2.2 x1 x2 x3 0 x5 _ _ hM h
              · skip
                have h := (if_pos h90).symm.trans h
                refine zW.pick [0, 1, 2, 3, 5] (lv' := [(0, .ref (A 38)), (1, .int x1), (2, .int x2), (3, .int x3), (5, .int x5)]) rfl ?_
                exact (ih).2.2.1 x1 x2 x3 0 x5 _ _ hM h
      · intro x1 x2 x3 x4 x5 f1 μ hM h
        rw [m_touch_b2] at h
        refine z_iconst X d_Mod_touch_93 (v := 1) (by decide) ?_
        refine z_goto X 98 d_Mod_touch_94 (by decide) ?_
        refine z_istore X d_Mod_touch_98 (by decide) rfl ?_
        refine z_iinc X d_Mod_touch_100 rfl (iic 1 1 (by decide) _) (by decide) rfl ?_
        refine z_goto X 49 d_Mod_touch_103 (by decide) ?_
        refine zW.pick [0, 1, 2, 3, 5, 4] (lv' := [(0, .ref (A 38)), (1, .int x1), (2, .int x2), (3, .int x3), (4, .int 1), (5, .int (x5 + 1))]) rfl ?_
        exact (ih).2.1 x1 x2 x3 1 (x5 + 1) _ _ hM h
      · intro x1 x2 x3 x4 x5 f1 μ hM h
        rw [m_touch_b3] at h
        refine z_iconst X d_Mod_touch_97 (v := 0) (by decide) ?_
        refine z_istore X d_Mod_touch_98 (by decide) rfl ?_
        refine z_iinc X d_Mod_touch_100 rfl (iic 1 1 (by decide) _) (by decide) rfl ?_
        refine z_goto X 49 d_Mod_touch_103 (by decide) ?_
        refine zW.pick [0, 1, 2, 3, 5, 4] (lv' := [(0, .ref (A 38)), (1, .int x1), (2, .int x2), (3, .int x3), (4, .int 0), (5, .int (x5 + 1))]) rfl ?_
        exact (ih).2.1 x1 x2 x3 0 (x5 + 1) _ _ hM h
  rw [m_touch] at h
  refine z_aload_n X d_Mod_touch_0 rfl ?_
  refine z_iload_n X d_Mod_touch_1 rfl ?_
  refine z_iconst X d_Mod_touch_2 (v := 0) (by decide) ?_
  refine z_bipush X d_Mod_touch_3 (v := 19) (by decide) ?_
  obtain ⟨p5, q5, h⟩ := bd h
  refine z_callS X zG_ok (c_Mod_in q5) d_Mod_touch_5 ⟨(z_cb (n := 3) X.2.2.2.2.1 ml_Mod_100 mc_Mod_in ini_Mod (by decide +kernel) rfl rfl ⟨Nat.le_of_ble_eq_true rfl, Nat.le_of_ble_eq_true rfl⟩), X.2.2.2.2.1 _ st_Mod_in⟩ rfl rfl (Nat.le_of_ble_eq_true rfl) ⟨Nat.le_of_ble_eq_true rfl, Nat.le_of_ble_eq_true rfl⟩ (fun r N1 f1 hp hN1 => ?_)
  obtain ⟨rfl, rfl, rfl⟩ := hp
  refine z_if_eq X 15 d_Mod_touch_8 (by decide) (fun h8 => ?_) (fun h8 => ?_)
  · skip
    have h := (if_pos h8).symm.trans h
    refine z_iconst X d_Mod_touch_15 (v := 1) (by decide) ?_
    refine z_putM X t_Mod ty_Mod n_Mod d_Mod_touch_16 hM cl_Mod in_Mod 0 (by decide) fl_Mod_93 rfl rfl rfl (by decide) rfl (fun hM => ?_)
    refine z_aload_n X d_Mod_touch_19 rfl ?_
    refine z_get X (v := .int 1) d_Mod_touch_20 (hM.lo 38 (by decide)) hM.ob cl_Mod in_Mod 0 (by decide) fl_Mod_93 rfl rfl ?_
    refine z_if_le X 28 d_Mod_touch_23 (by decide) (fun h23 => ?_) (fun h23 => ?_)
    · skip
      exact absurd h23 (by decide)
    · skip
      refine z_iconst X d_Mod_touch_26 (v := 0) (by decide) ?_
      have e9 := Option.some.inj h
      subst e9
      exact z_iret X d_Mod_touch_27 ⟨rfl, rfl, hM⟩
  · skip
    have h := (if_neg h8).symm.trans h
    refine z_iconst X d_Mod_touch_11 (v := 0) (by decide) ?_
    refine z_goto X 16 d_Mod_touch_12 (by decide) ?_
    refine z_putM X t_Mod ty_Mod n_Mod d_Mod_touch_16 hM cl_Mod in_Mod 0 (by decide) fl_Mod_93 rfl rfl rfl (by decide) rfl (fun hM => ?_)
    refine z_aload_n X d_Mod_touch_19 rfl ?_
    refine z_get X (v := .int 0) d_Mod_touch_20 (hM.lo 38 (by decide)) hM.ob cl_Mod in_Mod 0 (by decide) fl_Mod_93 rfl rfl ?_
    refine z_if_le X 28 d_Mod_touch_23 (by decide) (fun h23 => ?_) (fun h23 => ?_)
    · skip
      refine z_iconst X d_Mod_touch_28 (v := 0) (by decide) ?_
      refine z_istore_n X d_Mod_touch_29 (by decide) rfl ?_
      refine z_iconst X d_Mod_touch_30 (v := 0) (by decide) ?_
      refine z_istore_n X d_Mod_touch_31 (by decide) rfl ?_
      refine zW.pick [0, 1, 2, 3] (lv' := [(0, .ref (A 38)), (1, .int x1), (2, .int 0), (3, .int 0)]) rfl ?_
      exact (L 4096).1 x1 0 0 0 0 _ _ hM h
    · skip
      exact absurd h23 (by decide)
theorem d_Mod_never_0 : decode prog_10_method_46_code 0 = .ok (.aload_n 0, 1) := by decide +kernel
theorem d_Mod_never_1 : decode prog_10_method_46_code 1 = .ok (.iconst 0, 1) := by decide +kernel
theorem d_Mod_never_2 : decode prog_10_method_46_code 2 = .ok (.putfield 93, 3) := by decide +kernel
theorem d_Mod_never_5 : decode prog_10_method_46_code 5 = .ok (.iload_n 1, 1) := by decide +kernel
theorem d_Mod_never_6 : decode prog_10_method_46_code 6 = .ok (.istore_n 2, 1) := by decide +kernel
theorem d_Mod_never_7 : decode prog_10_method_46_code 7 = .ok (.iconst 0, 1) := by decide +kernel
theorem d_Mod_never_8 : decode prog_10_method_46_code 8 = .ok (.istore_n 3, 1) := by decide +kernel
theorem d_Mod_never_9 : decode prog_10_method_46_code 9 = .ok (.iload_n 3, 1) := by decide +kernel
theorem d_Mod_never_10 : decode prog_10_method_46_code 10 = .ok (.aload_n 0, 1) := by decide +kernel
theorem d_Mod_never_11 : decode prog_10_method_46_code 11 = .ok (.getfield 97, 3) := by decide +kernel
theorem d_Mod_never_14 : decode prog_10_method_46_code 14 = .ok (.if_icmp .ge 58, 3) := by decide +kernel
theorem d_Mod_never_17 : decode prog_10_method_46_code 17 = .ok (.aload_n 0, 1) := by decide +kernel
theorem d_Mod_never_18 : decode prog_10_method_46_code 18 = .ok (.getfield 38, 3) := by decide +kernel
theorem d_Mod_never_21 : decode prog_10_method_46_code 21 = .ok (.iload_n 3, 1) := by decide +kernel
theorem d_Mod_never_22 : decode prog_10_method_46_code 22 = .ok (.iaload, 1) := by decide +kernel
theorem d_Mod_never_23 : decode prog_10_method_46_code 23 = .ok (.ifCond .lt 16, 3) := by decide +kernel
theorem d_Mod_never_26 : decode prog_10_method_46_code 26 = .ok (.aload_n 0, 1) := by decide +kernel
theorem d_Mod_never_27 : decode prog_10_method_46_code 27 = .ok (.getfield 41, 3) := by decide +kernel
theorem d_Mod_never_30 : decode prog_10_method_46_code 30 = .ok (.iload_n 3, 1) := by decide +kernel
theorem d_Mod_never_31 : decode prog_10_method_46_code 31 = .ok (.baload, 1) := by decide +kernel
theorem d_Mod_never_32 : decode prog_10_method_46_code 32 = .ok (.ifCond .ne 7, 3) := by decide +kernel
theorem d_Mod_never_35 : decode prog_10_method_46_code 35 = .ok (.iconst 1, 1) := by decide +kernel
theorem d_Mod_never_36 : decode prog_10_method_46_code 36 = .ok (.goto 4, 3) := by decide +kernel
theorem d_Mod_never_39 : decode prog_10_method_46_code 39 = .ok (.iconst 0, 1) := by decide +kernel
theorem d_Mod_never_40 : decode prog_10_method_46_code 40 = .ok (.istore 4, 2) := by decide +kernel
theorem d_Mod_never_42 : decode prog_10_method_46_code 42 = .ok (.iload 4, 2) := by decide +kernel
theorem d_Mod_never_44 : decode prog_10_method_46_code 44 = .ok (.ifCond .eq 9, 3) := by decide +kernel
theorem d_Mod_never_47 : decode prog_10_method_46_code 47 = .ok (.iload_n 2, 1) := by decide +kernel
theorem d_Mod_never_48 : decode prog_10_method_46_code 48 = .ok (.ifCond .ne 5, 3) := by decide +kernel
theorem d_Mod_never_51 : decode prog_10_method_46_code 51 = .ok (.iload_n 3, 1) := by decide +kernel
theorem d_Mod_never_52 : decode prog_10_method_46_code 52 = .ok (.ireturn, 1) := by decide +kernel
theorem d_Mod_never_53 : decode prog_10_method_46_code 53 = .ok (.iload_n 2, 1) := by decide +kernel
theorem d_Mod_never_54 : decode prog_10_method_46_code 54 = .ok (.iload 4, 2) := by decide +kernel
theorem d_Mod_never_56 : decode prog_10_method_46_code 56 = .ok (.ifCond .eq 7, 3) := by decide +kernel
theorem d_Mod_never_59 : decode prog_10_method_46_code 59 = .ok (.iconst 1, 1) := by decide +kernel
theorem d_Mod_never_60 : decode prog_10_method_46_code 60 = .ok (.goto 4, 3) := by decide +kernel
theorem d_Mod_never_63 : decode prog_10_method_46_code 63 = .ok (.iconst 0, 1) := by decide +kernel
theorem d_Mod_never_64 : decode prog_10_method_46_code 64 = .ok (.isub, 1) := by decide +kernel
theorem d_Mod_never_65 : decode prog_10_method_46_code 65 = .ok (.istore_n 2, 1) := by decide +kernel
theorem d_Mod_never_66 : decode prog_10_method_46_code 66 = .ok (.iinc 3 1, 3) := by decide +kernel
theorem d_Mod_never_69 : decode prog_10_method_46_code 69 = .ok (.goto (-60), 3) := by decide +kernel
theorem d_Mod_never_72 : decode prog_10_method_46_code 72 = .ok (.iconst (-1), 1) := by decide +kernel
theorem d_Mod_never_73 : decode prog_10_method_46_code 73 = .ok (.ireturn, 1) := by decide +kernel
def m_never_B : Nat → Nat → Int32 → Int32 → Int32 → MS → Option (Int32 × MS)
  | 0, _, _, _, _, _ => none
  | n + 1, b, x2, x3, x4, μ => if b = 0 then (if (μ.1 3) ≤ x3 then some ((-1), μ) else (if inb x3 20 = true then (if ((μ.2.1 14) x3.toNatClampNeg) < 0 then m_never_B n 1 x2 x3 0 μ else (if ((μ.2.1 15) x3.toNatClampNeg) = 0 then (if x2 = 0 then some (x3, μ) else m_never_B n 2 x2 x3 1 μ) else m_never_B n 1 x2 x3 0 μ)) else none))
    else if b = 1 then m_never_B n 2 x2 x3 0 μ
    else (if x4 = 0 then m_never_B n 0 (x2 - 0) (x3 + 1) 0 μ else m_never_B n 0 (x2 - 1) (x3 + 1) 0 μ)
theorem m_never_b0 (n : Nat) (x2 : Int32) (x3 : Int32) (x4 : Int32) (μ : MS) : m_never_B (n + 1) 0 x2 x3 x4 μ = (if (μ.1 3) ≤ x3 then some ((-1), μ) else (if inb x3 20 = true then (if ((μ.2.1 14) x3.toNatClampNeg) < 0 then m_never_B n 1 x2 x3 0 μ else (if ((μ.2.1 15) x3.toNatClampNeg) = 0 then (if x2 = 0 then some (x3, μ) else m_never_B n 2 x2 x3 1 μ) else m_never_B n 1 x2 x3 0 μ)) else none)) := by
  rw [m_never_B, if_pos rfl]
theorem m_never_b1 (n : Nat) (x2 : Int32) (x3 : Int32) (x4 : Int32) (μ : MS) : m_never_B (n + 1) 1 x2 x3 x4 μ = m_never_B n 2 x2 x3 0 μ := by
  rw [m_never_B, if_neg (by decide), if_pos rfl]
theorem m_never_b2 (n : Nat) (x2 : Int32) (x3 : Int32) (x4 : Int32) (μ : MS) : m_never_B (n + 1) 2 x2 x3 x4 μ = (if x4 = 0 then m_never_B n 0 (x2 - 0) (x3 + 1) 0 μ else m_never_B n 0 (x2 - 1) (x3 + 1) 0 μ) := by
  rw [m_never_B, if_neg (by decide), if_neg (by decide)]
def m_never (x1 : Int32) (μ : MS) : Option (Int32 × MS) := m_never_B 4096 0 x1 0 0 (sI 0 0 μ)
set_option maxHeartbeats 4000000 in
set_option maxRecDepth 100000 in
theorem c_Mod_never {A : Nat → Nat} {f0 : Nat → va_E} {μ : MS} {x1 : Int32} {res : (Int32 × MS)} (hM : zMf ck b0 N A f0 f μ) (h : m_never x1 μ = some res) : zK l D ck ad b0 y_Mod_never prog_10_method_46_code 5 ((some FieldType.int)) 0 0 0 [.ref (A 38), .int x1] N f (fun r N' f' => r = some (.int res.1) ∧ N = N' ∧ zMf ck b0 N A f0 f' res.2) := by
  refine zM.of zG_w (by decide) (Nat.le_of_ble_eq_true rfl) ?_
  intro zp ze zst zm zar zbe zme zc X hnm hb0
  have L : ∀ n : Nat, (∀ (x2 : Int32) (x3 : Int32) (x4 : Int32) (f1 : Nat → va_E) (μ : MS), zMf ck b0 N A f0 f1 μ → m_never_B n 0 x2 x3 x4 μ = some res → zW zp l ze (zR 0 0 0) zst zm zar zbe zme zc D zcl b0 5 0 0 (MQ zbe (zQ D zcl b0 (fun r N' f' => r = some (.int res.1) ∧ N = N' ∧ zMf ck b0 N A f0 f' res.2)) zar zst 0 0 (zA b0)) N f1 9 [(0, .ref (A 38)), (2, .int x2), (3, .int x3)] []) ∧ (∀ (x2 : Int32) (x3 : Int32) (x4 : Int32) (f1 : Nat → va_E) (μ : MS), zMf ck b0 N A f0 f1 μ → m_never_B n 1 x2 x3 x4 μ = some res → zW zp l ze (zR 0 0 0) zst zm zar zbe zme zc D zcl b0 5 0 0 (MQ zbe (zQ D zcl b0 (fun r N' f' => r = some (.int res.1) ∧ N = N' ∧ zMf ck b0 N A f0 f' res.2)) zar zst 0 0 (zA b0)) N f1 39 [(0, .ref (A 38)), (2, .int x2), (3, .int x3)] []) ∧ (∀ (x2 : Int32) (x3 : Int32) (x4 : Int32) (f1 : Nat → va_E) (μ : MS), zMf ck b0 N A f0 f1 μ → m_never_B n 2 x2 x3 x4 μ = some res → zW zp l ze (zR 0 0 0) zst zm zar zbe zme zc D zcl b0 5 0 0 (MQ zbe (zQ D zcl b0 (fun r N' f' => r = some (.int res.1) ∧ N = N' ∧ zMf ck b0 N A f0 f' res.2)) zar zst 0 0 (zA b0)) N f1 53 [(0, .ref (A 38)), (2, .int x2), (3, .int x3), (4, .int x4)] []) := by
    intro n
    induction n with
    | zero =>
      exact ⟨fun _ _ _ _ _ _ h => (by rw [m_never_B] at h; cases h), fun _ _ _ _ _ _ h => (by rw [m_never_B] at h; cases h), fun _ _ _ _ _ _ h => (by rw [m_never_B] at h; cases h)⟩
    | succ n ih =>
      refine ⟨?_, ?_, ?_⟩
      · intro x2 x3 x4 f1 μ hM h
        rw [m_never_b0] at h
        refine z_iload_n X d_Mod_never_9 rfl ?_
        refine z_aload_n X d_Mod_never_10 rfl ?_
        refine z_get X (v := .int (μ.1 3)) d_Mod_never_11 (hM.lo 38 (by decide)) hM.ob cl_Mod in_Mod 3 (by decide) fl_Mod_97 rfl rfl ?_
        refine z_icmp_ge X 72 d_Mod_never_14 (by decide) (fun h14 => ?_) (fun h14 => ?_)
        · skip
          have h := (if_pos h14).symm.trans h
          refine z_iconst X d_Mod_never_72 (v := -1) (by decide) ?_
          have e9 := Option.some.inj h
          subst e9
          exact z_iret X d_Mod_never_73 ⟨rfl, rfl, hM⟩
        · skip
          have h := (if_neg h14).symm.trans h
          refine z_aload_n X d_Mod_never_17 rfl ?_
          refine z_get X (v := .ref (A 14)) d_Mod_never_18 (hM.lo 38 (by decide)) hM.ob cl_Mod in_Mod 14 (by decide) fl_Mod_38 rfl rfl ?_
          refine z_iload_n X d_Mod_never_21 rfl ?_
          obtain ⟨b22, h⟩ := gd h
          refine z_iald X (g := (μ.2.1 14)) d_Mod_never_22 (hM.lo 14 (by decide)) (hM.iA 14 20 rfl) (t0 := 0) rfl (vp_of b22) ?_
          refine z_if_lt X 39 d_Mod_never_23 (by decide) (fun h23 => ?_) (fun h23 => ?_)
          · skip
            have h := (if_pos h23).symm.trans h
            refine zW.pick [0, 1, 2] (lv' := [(0, .ref (A 38)), (2, .int x2), (3, .int x3)]) rfl ?_
            exact (ih).2.1 x2 x3 0 _ _ hM h
          · skip
            have h := (if_neg h23).symm.trans h
            refine z_aload_n X d_Mod_never_26 rfl ?_
            refine z_get X (v := .ref (A 15)) d_Mod_never_27 (hM.lo 38 (by decide)) hM.ob cl_Mod in_Mod 15 (by decide) fl_Mod_41 rfl rfl ?_
            refine z_iload_n X d_Mod_never_30 rfl ?_
            refine z_zald X (g := (μ.2.1 15)) d_Mod_never_31 (hM.lo 15 (by decide)) (hM.zA 15 20 rfl) (t0 := 1) rfl (vp_of b22) ?_
            refine z_if_ne X 39 d_Mod_never_32 (by decide) (fun h32 => ?_) (fun h32 => ?_)
            · skip
              have h := (if_neg h32).symm.trans h
              refine zW.pick [0, 1, 2] (lv' := [(0, .ref (A 38)), (2, .int x2), (3, .int x3)]) rfl ?_
              exact (ih).2.1 x2 x3 0 _ _ hM h
            · skip
              have h := (if_pos h32).symm.trans h
              refine z_iconst X d_Mod_never_35 (v := 1) (by decide) ?_
              refine z_goto X 40 d_Mod_never_36 (by decide) ?_
              refine z_istore X d_Mod_never_40 (by decide) rfl ?_
              refine z_iload X d_Mod_never_42 rfl ?_
              refine z_if_eq X 53 d_Mod_never_44 (by decide) (fun h44 => ?_) (fun h44 => ?_)
              · skip
                exact absurd h44 (by decide)
              · skip
                refine z_iload_n X d_Mod_never_47 rfl ?_
                refine z_if_ne X 53 d_Mod_never_48 (by decide) (fun h48 => ?_) (fun h48 => ?_)
                · skip
                  have h := (if_neg h48).symm.trans h
                  refine zW.pick [0, 1, 2, 3] (lv' := [(0, .ref (A 38)), (2, .int x2), (3, .int x3), (4, .int 1)]) rfl ?_
                  exact (ih).2.2 x2 x3 1 _ _ hM h
                · skip
                  have h := (if_pos h48).symm.trans h
                  refine z_iload_n X d_Mod_never_51 rfl ?_
                  have e9 := Option.some.inj h
                  subst e9
                  exact z_iret X d_Mod_never_52 ⟨rfl, rfl, hM⟩
      · intro x2 x3 x4 f1 μ hM h
        rw [m_never_b1] at h
        refine z_iconst X d_Mod_never_39 (v := 0) (by decide) ?_
        refine z_istore X d_Mod_never_40 (by decide) rfl ?_
        refine z_iload X d_Mod_never_42 rfl ?_
        refine z_if_eq X 53 d_Mod_never_44 (by decide) (fun h44 => ?_) (fun h44 => ?_)
        · skip
          refine zW.pick [0, 1, 2, 3] (lv' := [(0, .ref (A 38)), (2, .int x2), (3, .int x3), (4, .int 0)]) rfl ?_
          exact (ih).2.2 x2 x3 0 _ _ hM h
        · skip
          exact absurd h44 (by decide)
      · intro x2 x3 x4 f1 μ hM h
        rw [m_never_b2] at h
        refine z_iload_n X d_Mod_never_53 rfl ?_
        refine z_iload X d_Mod_never_54 rfl ?_
        refine z_if_eq X 63 d_Mod_never_56 (by decide) (fun h56 => ?_) (fun h56 => ?_)
        · skip
          have h := (if_pos h56).symm.trans h
          refine z_iconst X d_Mod_never_63 (v := 0) (by decide) ?_
          refine z_isub X d_Mod_never_64 ?_
          refine z_istore_n X d_Mod_never_65 (by decide) rfl ?_
          refine z_iinc X d_Mod_never_66 rfl (iic 1 1 (by decide) _) (by decide) rfl ?_
          refine z_goto X 9 d_Mod_never_69 (by decide) ?_
          refine zW.pick [0, 1, 2] (lv' := [(0, .ref (A 38)), (2, .int (x2 - 0)), (3, .int (x3 + 1))]) rfl ?_
          exact (ih).1 (x2 - 0) (x3 + 1) 0 _ _ hM h
        · skip
          have h := (if_neg h56).symm.trans h
          refine z_iconst X d_Mod_never_59 (v := 1) (by decide) ?_
          refine z_goto X 64 d_Mod_never_60 (by decide) ?_
          refine z_isub X d_Mod_never_64 ?_
          refine z_istore_n X d_Mod_never_65 (by decide) rfl ?_
          refine z_iinc X d_Mod_never_66 rfl (iic 1 1 (by decide) _) (by decide) rfl ?_
          refine z_goto X 9 d_Mod_never_69 (by decide) ?_
          refine zW.pick [0, 1, 2] (lv' := [(0, .ref (A 38)), (2, .int (x2 - 1)), (3, .int (x3 + 1))]) rfl ?_
          exact (ih).1 (x2 - 1) (x3 + 1) 0 _ _ hM h
  rw [m_never] at h
  refine z_aload_n X d_Mod_never_0 rfl ?_
  refine z_iconst X d_Mod_never_1 (v := 0) (by decide) ?_
  refine z_putM X t_Mod ty_Mod n_Mod d_Mod_never_2 hM cl_Mod in_Mod 0 (by decide) fl_Mod_93 rfl rfl rfl (by decide) rfl (fun hM => ?_)
  refine z_iload_n X d_Mod_never_5 rfl ?_
  refine z_istore_n X d_Mod_never_6 (by decide) rfl ?_
  refine z_iconst X d_Mod_never_7 (v := 0) (by decide) ?_
  refine z_istore_n X d_Mod_never_8 (by decide) rfl ?_
  refine zW.pick [0, 2, 3] (lv' := [(0, .ref (A 38)), (2, .int x1), (3, .int 0)]) rfl ?_
  exact (L 4096).1 x1 0 0 _ _ hM h
theorem d_Mod_node2_0 : decode prog_10_method_47_code 0 = .ok (.aload_n 0, 1) := by decide +kernel
theorem d_Mod_node2_1 : decode prog_10_method_47_code 1 = .ok (.aload_n 0, 1) := by decide +kernel
theorem d_Mod_node2_2 : decode prog_10_method_47_code 2 = .ok (.iload_n 1, 1) := by decide +kernel
theorem d_Mod_node2_3 : decode prog_10_method_47_code 3 = .ok (.invokevirtual 197, 3) := by decide +kernel
theorem d_Mod_node2_6 : decode prog_10_method_47_code 6 = .ok (.ifCond .eq 42, 3) := by decide +kernel
theorem d_Mod_node2_9 : decode prog_10_method_47_code 9 = .ok (.iload_n 2, 1) := by decide +kernel
theorem d_Mod_node2_10 : decode prog_10_method_47_code 10 = .ok (.ifCond .lt 38, 3) := by decide +kernel
theorem d_Mod_node2_13 : decode prog_10_method_47_code 13 = .ok (.iload_n 2, 1) := by decide +kernel
theorem d_Mod_node2_14 : decode prog_10_method_47_code 14 = .ok (.aload_n 0, 1) := by decide +kernel
theorem d_Mod_node2_15 : decode prog_10_method_47_code 15 = .ok (.getfield 25, 3) := by decide +kernel
theorem d_Mod_node2_18 : decode prog_10_method_47_code 18 = .ok (.aload_n 0, 1) := by decide +kernel
theorem d_Mod_node2_19 : decode prog_10_method_47_code 19 = .ok (.iload_n 1, 1) := by decide +kernel
theorem d_Mod_node2_20 : decode prog_10_method_47_code 20 = .ok (.invokevirtual 197, 3) := by decide +kernel
theorem d_Mod_node2_23 : decode prog_10_method_47_code 23 = .ok (.ifCond .eq 7, 3) := by decide +kernel
theorem d_Mod_node2_26 : decode prog_10_method_47_code 26 = .ok (.iload_n 1, 1) := by decide +kernel
theorem d_Mod_node2_27 : decode prog_10_method_47_code 27 = .ok (.goto 4, 3) := by decide +kernel
theorem d_Mod_node2_30 : decode prog_10_method_47_code 30 = .ok (.iconst 0, 1) := by decide +kernel
theorem d_Mod_node2_31 : decode prog_10_method_47_code 31 = .ok (.iaload, 1) := by decide +kernel
theorem d_Mod_node2_32 : decode prog_10_method_47_code 32 = .ok (.if_icmp .ge 16, 3) := by decide +kernel
theorem d_Mod_node2_35 : decode prog_10_method_47_code 35 = .ok (.iload_n 3, 1) := by decide +kernel
theorem d_Mod_node2_36 : decode prog_10_method_47_code 36 = .ok (.iconst 0, 1) := by decide +kernel
theorem d_Mod_node2_37 : decode prog_10_method_47_code 37 = .ok (.iconst 3, 1) := by decide +kernel
theorem d_Mod_node2_38 : decode prog_10_method_47_code 38 = .ok (.invokestatic 100, 3) := by decide +kernel
theorem d_Mod_node2_41 : decode prog_10_method_47_code 41 = .ok (.ifCond .eq 7, 3) := by decide +kernel
theorem d_Mod_node2_44 : decode prog_10_method_47_code 44 = .ok (.iconst 0, 1) := by decide +kernel
theorem d_Mod_node2_45 : decode prog_10_method_47_code 45 = .ok (.goto 4, 3) := by decide +kernel
theorem d_Mod_node2_48 : decode prog_10_method_47_code 48 = .ok (.iconst 1, 1) := by decide +kernel
theorem d_Mod_node2_49 : decode prog_10_method_47_code 49 = .ok (.putfield 93, 3) := by decide +kernel
theorem d_Mod_node2_52 : decode prog_10_method_47_code 52 = .ok (.aload_n 0, 1) := by decide +kernel
theorem d_Mod_node2_53 : decode prog_10_method_47_code 53 = .ok (.getfield 93, 3) := by decide +kernel
theorem d_Mod_node2_56 : decode prog_10_method_47_code 56 = .ok (.ifCond .le 5, 3) := by decide +kernel
theorem d_Mod_node2_59 : decode prog_10_method_47_code 59 = .ok (.iconst 0, 1) := by decide +kernel
theorem d_Mod_node2_60 : decode prog_10_method_47_code 60 = .ok (.ireturn, 1) := by decide +kernel
theorem d_Mod_node2_61 : decode prog_10_method_47_code 61 = .ok (.bipush 40, 2) := by decide +kernel
theorem d_Mod_node2_63 : decode prog_10_method_47_code 63 = .ok (.iload_n 1, 1) := by decide +kernel
theorem d_Mod_node2_64 : decode prog_10_method_47_code 64 = .ok (.imul, 1) := by decide +kernel
theorem d_Mod_node2_65 : decode prog_10_method_47_code 65 = .ok (.iload_n 2, 1) := by decide +kernel
theorem d_Mod_node2_66 : decode prog_10_method_47_code 66 = .ok (.iadd, 1) := by decide +kernel
theorem d_Mod_node2_67 : decode prog_10_method_47_code 67 = .ok (.istore 4, 2) := by decide +kernel
theorem d_Mod_node2_69 : decode prog_10_method_47_code 69 = .ok (.iload_n 3, 1) := by decide +kernel
theorem d_Mod_node2_70 : decode prog_10_method_47_code 70 = .ok (.ifCond .ne 13, 3) := by decide +kernel
theorem d_Mod_node2_73 : decode prog_10_method_47_code 73 = .ok (.aload_n 0, 1) := by decide +kernel
theorem d_Mod_node2_74 : decode prog_10_method_47_code 74 = .ok (.getfield 13, 3) := by decide +kernel
theorem d_Mod_node2_77 : decode prog_10_method_47_code 77 = .ok (.iload 4, 2) := by decide +kernel
theorem d_Mod_node2_79 : decode prog_10_method_47_code 79 = .ok (.iaload, 1) := by decide +kernel
theorem d_Mod_node2_80 : decode prog_10_method_47_code 80 = .ok (.goto 40, 3) := by decide +kernel
theorem d_Mod_node2_83 : decode prog_10_method_47_code 83 = .ok (.iload_n 3, 1) := by decide +kernel
theorem d_Mod_node2_84 : decode prog_10_method_47_code 84 = .ok (.iconst 1, 1) := by decide +kernel
theorem d_Mod_node2_85 : decode prog_10_method_47_code 85 = .ok (.if_icmp .ne 13, 3) := by decide +kernel
theorem d_Mod_node2_88 : decode prog_10_method_47_code 88 = .ok (.aload_n 0, 1) := by decide +kernel
theorem d_Mod_node2_89 : decode prog_10_method_47_code 89 = .ok (.getfield 16, 3) := by decide +kernel
theorem d_Mod_node2_92 : decode prog_10_method_47_code 92 = .ok (.iload 4, 2) := by decide +kernel
theorem d_Mod_node2_94 : decode prog_10_method_47_code 94 = .ok (.iaload, 1) := by decide +kernel
theorem d_Mod_node2_95 : decode prog_10_method_47_code 95 = .ok (.goto 25, 3) := by decide +kernel
theorem d_Mod_node2_98 : decode prog_10_method_47_code 98 = .ok (.iload_n 3, 1) := by decide +kernel
theorem d_Mod_node2_99 : decode prog_10_method_47_code 99 = .ok (.iconst 2, 1) := by decide +kernel
theorem d_Mod_node2_100 : decode prog_10_method_47_code 100 = .ok (.if_icmp .ne 13, 3) := by decide +kernel
theorem d_Mod_node2_103 : decode prog_10_method_47_code 103 = .ok (.aload_n 0, 1) := by decide +kernel
theorem d_Mod_node2_104 : decode prog_10_method_47_code 104 = .ok (.getfield 19, 3) := by decide +kernel
theorem d_Mod_node2_107 : decode prog_10_method_47_code 107 = .ok (.iload 4, 2) := by decide +kernel
theorem d_Mod_node2_109 : decode prog_10_method_47_code 109 = .ok (.iaload, 1) := by decide +kernel
theorem d_Mod_node2_110 : decode prog_10_method_47_code 110 = .ok (.goto 10, 3) := by decide +kernel
theorem d_Mod_node2_113 : decode prog_10_method_47_code 113 = .ok (.aload_n 0, 1) := by decide +kernel
theorem d_Mod_node2_114 : decode prog_10_method_47_code 114 = .ok (.getfield 22, 3) := by decide +kernel
theorem d_Mod_node2_117 : decode prog_10_method_47_code 117 = .ok (.iload 4, 2) := by decide +kernel
theorem d_Mod_node2_119 : decode prog_10_method_47_code 119 = .ok (.iaload, 1) := by decide +kernel
theorem d_Mod_node2_120 : decode prog_10_method_47_code 120 = .ok (.ireturn, 1) := by decide +kernel
def m_node2 (x1 x2 x3 : Int32) (μ : MS) : Option (Int32 × MS) := (m_isRule x1 μ).bind (fun p3 => (if p3.1 = 0 then some (0, (sI 0 1 p3.2)) else (if x2 < 0 then some (0, (sI 0 1 p3.2)) else (m_isRule x1 p3.2).bind (fun p20 => (if p20.1 = 0 then (if inb 0 20 = true then (if ((p20.2.2.1 10) (0 : Int32).toNatClampNeg) ≤ x2 then some (0, (sI 0 1 p20.2)) else (m_in x3 0 3).bind (fun p38 => (if p38 = 0 then some (0, (sI 0 1 p20.2)) else (if x3 = 0 then (if inb ((40 * x1) + x2) 800 = true then some (((p20.2.2.1 6) ((40 * x1) + x2).toNatClampNeg), (sI 0 0 p20.2)) else none) else (if x3 = 1 then (if inb ((40 * x1) + x2) 800 = true then some (((p20.2.2.1 7) ((40 * x1) + x2).toNatClampNeg), (sI 0 0 p20.2)) else none) else (if x3 = 2 then (if inb ((40 * x1) + x2) 800 = true then some (((p20.2.2.1 8) ((40 * x1) + x2).toNatClampNeg), (sI 0 0 p20.2)) else none) else (if inb ((40 * x1) + x2) 800 = true then some (((p20.2.2.1 9) ((40 * x1) + x2).toNatClampNeg), (sI 0 0 p20.2)) else none))))))) else none) else (if inb x1 20 = true then (if ((p20.2.2.1 10) x1.toNatClampNeg) ≤ x2 then some (0, (sI 0 1 p20.2)) else (m_in x3 0 3).bind (fun p38 => (if p38 = 0 then some (0, (sI 0 1 p20.2)) else (if x3 = 0 then (if inb ((40 * x1) + x2) 800 = true then some (((p20.2.2.1 6) ((40 * x1) + x2).toNatClampNeg), (sI 0 0 p20.2)) else none) else (if x3 = 1 then (if inb ((40 * x1) + x2) 800 = true then some (((p20.2.2.1 7) ((40 * x1) + x2).toNatClampNeg), (sI 0 0 p20.2)) else none) else (if x3 = 2 then (if inb ((40 * x1) + x2) 800 = true then some (((p20.2.2.1 8) ((40 * x1) + x2).toNatClampNeg), (sI 0 0 p20.2)) else none) else (if inb ((40 * x1) + x2) 800 = true then some (((p20.2.2.1 9) ((40 * x1) + x2).toNatClampNeg), (sI 0 0 p20.2)) else none))))))) else none))))))
set_option maxHeartbeats 4000000 in
set_option maxRecDepth 100000 in
theorem c_Mod_node2 {A : Nat → Nat} {f0 : Nat → va_E} {μ : MS} {x1 x2 x3 : Int32} {res : (Int32 × MS)} (hM : zMf ck b0 N A f0 f μ) (h : m_node2 x1 x2 x3 μ = some res) : zK l D ck ad b0 y_Mod_node2 prog_10_method_47_code 5 ((some FieldType.int)) 1 0 0 [.ref (A 38), .int x1, .int x2, .int x3] N f (fun r N' f' => r = some (.int res.1) ∧ N = N' ∧ zMf ck b0 N A f0 f' res.2) := by
  refine zM.of zG_w (by decide) (Nat.le_of_ble_eq_true rfl) ?_
  intro zp ze zst zm zar zbe zme zc X hnm hb0
  rw [m_node2] at h
  refine z_aload_n X d_Mod_node2_0 rfl ?_
  refine z_aload_n X d_Mod_node2_1 rfl ?_
  refine z_iload_n X d_Mod_node2_2 rfl ?_
  obtain ⟨p3, q3, h⟩ := bd h
  refine z_callV X zG_ok (c_Mod_isRule hM q3) d_Mod_node2_3 ⟨(z_cb (n := 1) X.2.2.2.2.1 ml_Mod_197 mc_Mod_isRule ini_Mod (by decide +kernel) rfl rfl ⟨Nat.le_of_ble_eq_true rfl, Nat.le_of_ble_eq_true rfl⟩), X.2.2.2.2.1 _ im_Mod_isRule, X.2.2.2.2.1 _ sel_Mod_isRule⟩ (hM.lo 38 (by decide)) hM.ob cl_Mod rfl rfl (Nat.le_of_ble_eq_true rfl) ⟨Nat.le_of_ble_eq_true rfl, Nat.le_of_ble_eq_true rfl⟩ (fun r N1 f1 hp hN1 => ?_)
  obtain ⟨rfl, rfl, hM⟩ := hp
  refine z_if_eq X 48 d_Mod_node2_6 (by decide) (fun h6 => ?_) (fun h6 => ?_)
  · skip
    have h := (if_pos h6).symm.trans h
    refine z_iconst X d_Mod_node2_48 (v := 1) (by decide) ?_
    refine z_putM X t_Mod ty_Mod n_Mod d_Mod_node2_49 hM cl_Mod in_Mod 0 (by decide) fl_Mod_93 rfl rfl rfl (by decide) rfl (fun hM => ?_)
    refine z_aload_n X d_Mod_node2_52 rfl ?_
    refine z_get X (v := .int 1) d_Mod_node2_53 (hM.lo 38 (by decide)) hM.ob cl_Mod in_Mod 0 (by decide) fl_Mod_93 rfl rfl ?_
    refine z_if_le X 61 d_Mod_node2_56 (by decide) (fun h56 => ?_) (fun h56 => ?_)
    · skip
      exact absurd h56 (by decide)
    · skip
      refine z_iconst X d_Mod_node2_59 (v := 0) (by decide) ?_
      have e9 := Option.some.inj h
      subst e9
      exact z_iret X d_Mod_node2_60 ⟨rfl, rfl, hM⟩
  · skip
    have h := (if_neg h6).symm.trans h
    refine z_iload_n X d_Mod_node2_9 rfl ?_
    refine z_if_lt X 48 d_Mod_node2_10 (by decide) (fun h10 => ?_) (fun h10 => ?_)
    · skip
      have h := (if_pos h10).symm.trans h
      refine z_iconst X d_Mod_node2_48 (v := 1) (by decide) ?_
      refine z_putM X t_Mod ty_Mod n_Mod d_Mod_node2_49 hM cl_Mod in_Mod 0 (by decide) fl_Mod_93 rfl rfl rfl (by decide) rfl (fun hM => ?_)
      refine z_aload_n X d_Mod_node2_52 rfl ?_
      refine z_get X (v := .int 1) d_Mod_node2_53 (hM.lo 38 (by decide)) hM.ob cl_Mod in_Mod 0 (by decide) fl_Mod_93 rfl rfl ?_
      refine z_if_le X 61 d_Mod_node2_56 (by decide) (fun h56 => ?_) (fun h56 => ?_)
      · skip
        exact absurd h56 (by decide)
      · skip
        refine z_iconst X d_Mod_node2_59 (v := 0) (by decide) ?_
        have e9 := Option.some.inj h
        subst e9
        exact z_iret X d_Mod_node2_60 ⟨rfl, rfl, hM⟩
    · skip
      have h := (if_neg h10).symm.trans h
      refine z_iload_n X d_Mod_node2_13 rfl ?_
      refine z_aload_n X d_Mod_node2_14 rfl ?_
      refine z_get X (v := .ref (A 10)) d_Mod_node2_15 (hM.lo 38 (by decide)) hM.ob cl_Mod in_Mod 10 (by decide) fl_Mod_25 rfl rfl ?_
      refine z_aload_n X d_Mod_node2_18 rfl ?_
      refine z_iload_n X d_Mod_node2_19 rfl ?_
      obtain ⟨p20, q20, h⟩ := bd h
      refine z_callV X zG_ok (c_Mod_isRule hM q20) d_Mod_node2_20 ⟨(z_cb (n := 1) X.2.2.2.2.1 ml_Mod_197 mc_Mod_isRule ini_Mod (by decide +kernel) rfl rfl ⟨Nat.le_of_ble_eq_true rfl, Nat.le_of_ble_eq_true rfl⟩), X.2.2.2.2.1 _ im_Mod_isRule, X.2.2.2.2.1 _ sel_Mod_isRule⟩ (hM.lo 38 (by decide)) hM.ob cl_Mod rfl rfl (Nat.le_of_ble_eq_true rfl) ⟨Nat.le_of_ble_eq_true rfl, Nat.le_of_ble_eq_true rfl⟩ (fun r N1 f1 hp hN1 => ?_)
      obtain ⟨rfl, rfl, hM⟩ := hp
      refine z_if_eq X 30 d_Mod_node2_23 (by decide) (fun h23 => ?_) (fun h23 => ?_)
      · skip
        have h := (if_pos h23).symm.trans h
        refine z_iconst X d_Mod_node2_30 (v := 0) (by decide) ?_
        obtain ⟨b31, h⟩ := gd h
        refine z_iald X (g := (p20.2.2.1 10)) d_Mod_node2_31 (hM.lo 10 (by decide)) (hM.iA 10 20 rfl) (t0 := 0) rfl (vp_of b31) ?_
        refine z_icmp_ge X 48 d_Mod_node2_32 (by decide) (fun h32 => ?_) (fun h32 => ?_)
        · skip
          have h := (if_pos h32).symm.trans h
          refine z_iconst X d_Mod_node2_48 (v := 1) (by decide) ?_
          refine z_putM X t_Mod ty_Mod n_Mod d_Mod_node2_49 hM cl_Mod in_Mod 0 (by decide) fl_Mod_93 rfl rfl rfl (by decide) rfl (fun hM => ?_)
          refine z_aload_n X d_Mod_node2_52 rfl ?_
          refine z_get X (v := .int 1) d_Mod_node2_53 (hM.lo 38 (by decide)) hM.ob cl_Mod in_Mod 0 (by decide) fl_Mod_93 rfl rfl ?_
          refine z_if_le X 61 d_Mod_node2_56 (by decide) (fun h56 => ?_) (fun h56 => ?_)
          · skip
            exact absurd h56 (by decide)
          · skip
            refine z_iconst X d_Mod_node2_59 (v := 0) (by decide) ?_
            have e9 := Option.some.inj h
            subst e9
            exact z_iret X d_Mod_node2_60 ⟨rfl, rfl, hM⟩
        · skip
          have h := (if_neg h32).symm.trans h
          refine z_iload_n X d_Mod_node2_35 rfl ?_
          refine z_iconst X d_Mod_node2_36 (v := 0) (by decide) ?_
          refine z_iconst X d_Mod_node2_37 (v := 3) (by decide) ?_
          obtain ⟨p38, q38, h⟩ := bd h
          refine z_callS X zG_ok (c_Mod_in q38) d_Mod_node2_38 ⟨(z_cb (n := 3) X.2.2.2.2.1 ml_Mod_100 mc_Mod_in ini_Mod (by decide +kernel) rfl rfl ⟨Nat.le_of_ble_eq_true rfl, Nat.le_of_ble_eq_true rfl⟩), X.2.2.2.2.1 _ st_Mod_in⟩ rfl rfl (Nat.le_of_ble_eq_true rfl) ⟨Nat.le_of_ble_eq_true rfl, Nat.le_of_ble_eq_true rfl⟩ (fun r N1 f1 hp hN1 => ?_)
          obtain ⟨rfl, rfl, rfl⟩ := hp
          refine z_if_eq X 48 d_Mod_node2_41 (by decide) (fun h41 => ?_) (fun h41 => ?_)
          · skip
            have h := (if_pos h41).symm.trans h
            refine z_iconst X d_Mod_node2_48 (v := 1) (by decide) ?_
            refine z_putM X t_Mod ty_Mod n_Mod d_Mod_node2_49 hM cl_Mod in_Mod 0 (by decide) fl_Mod_93 rfl rfl rfl (by decide) rfl (fun hM => ?_)
            refine z_aload_n X d_Mod_node2_52 rfl ?_
            refine z_get X (v := .int 1) d_Mod_node2_53 (hM.lo 38 (by decide)) hM.ob cl_Mod in_Mod 0 (by decide) fl_Mod_93 rfl rfl ?_
            refine z_if_le X 61 d_Mod_node2_56 (by decide) (fun h56 => ?_) (fun h56 => ?_)
            · skip
              exact absurd h56 (by decide)
            · skip
              refine z_iconst X d_Mod_node2_59 (v := 0) (by decide) ?_
              have e9 := Option.some.inj h
              subst e9
              exact z_iret X d_Mod_node2_60 ⟨rfl, rfl, hM⟩
          · skip
            have h := (if_neg h41).symm.trans h
            refine z_iconst X d_Mod_node2_44 (v := 0) (by decide) ?_
            refine z_goto X 49 d_Mod_node2_45 (by decide) ?_
            refine z_putM X t_Mod ty_Mod n_Mod d_Mod_node2_49 hM cl_Mod in_Mod 0 (by decide) fl_Mod_93 rfl rfl rfl (by decide) rfl (fun hM => ?_)
            refine z_aload_n X d_Mod_node2_52 rfl ?_
            refine z_get X (v := .int 0) d_Mod_node2_53 (hM.lo 38 (by decide)) hM.ob cl_Mod in_Mod 0 (by decide) fl_Mod_93 rfl rfl ?_
            refine z_if_le X 61 d_Mod_node2_56 (by decide) (fun h56 => ?_) (fun h56 => ?_)
            · skip
              refine z_bipush X d_Mod_node2_61 (v := 40) (by decide) ?_
              refine z_iload_n X d_Mod_node2_63 rfl ?_
              refine z_imul X d_Mod_node2_64 ?_
              refine z_iload_n X d_Mod_node2_65 rfl ?_
              refine z_iadd X d_Mod_node2_66 ?_
              refine z_istore X d_Mod_node2_67 (by decide) rfl ?_
              refine z_iload_n X d_Mod_node2_69 rfl ?_
              refine z_if_ne X 83 d_Mod_node2_70 (by decide) (fun h70 => ?_) (fun h70 => ?_)
              · skip
                have h := (if_neg h70).symm.trans h
                refine z_iload_n X d_Mod_node2_83 rfl ?_
                refine z_iconst X d_Mod_node2_84 (v := 1) (by decide) ?_
                refine z_icmp_ne X 98 d_Mod_node2_85 (by decide) (fun h85 => ?_) (fun h85 => ?_)
                · skip
                  have h := (if_neg h85).symm.trans h
                  refine z_iload_n X d_Mod_node2_98 rfl ?_
                  refine z_iconst X d_Mod_node2_99 (v := 2) (by decide) ?_
                  refine z_icmp_ne X 113 d_Mod_node2_100 (by decide) (fun h100 => ?_) (fun h100 => ?_)
                  · skip
                    have h := (if_neg h100).symm.trans h
                    refine z_aload_n X d_Mod_node2_113 rfl ?_
                    refine z_get X (v := .ref (A 9)) d_Mod_node2_114 (hM.lo 38 (by decide)) hM.ob cl_Mod in_Mod 9 (by decide) fl_Mod_22 rfl rfl ?_
                    refine z_iload X d_Mod_node2_117 rfl ?_
                    obtain ⟨b119, h⟩ := gd h
                    refine z_iald X (g := (p20.2.2.1 9)) d_Mod_node2_119 (hM.lo 9 (by decide)) (hM.iA 9 800 rfl) (t0 := 0) rfl (vp_of b119) ?_
                    have e9 := Option.some.inj h
                    subst e9
                    exact z_iret X d_Mod_node2_120 ⟨rfl, rfl, hM⟩
                  · skip
                    have h := (if_pos h100).symm.trans h
                    refine z_aload_n X d_Mod_node2_103 rfl ?_
                    refine z_get X (v := .ref (A 8)) d_Mod_node2_104 (hM.lo 38 (by decide)) hM.ob cl_Mod in_Mod 8 (by decide) fl_Mod_19 rfl rfl ?_
                    refine z_iload X d_Mod_node2_107 rfl ?_
                    obtain ⟨b109, h⟩ := gd h
                    refine z_iald X (g := (p20.2.2.1 8)) d_Mod_node2_109 (hM.lo 8 (by decide)) (hM.iA 8 800 rfl) (t0 := 0) rfl (vp_of b109) ?_
                    refine z_goto X 120 d_Mod_node2_110 (by decide) ?_
                    have e9 := Option.some.inj h
                    subst e9
                    exact z_iret X d_Mod_node2_120 ⟨rfl, rfl, hM⟩
                · skip
                  have h := (if_pos h85).symm.trans h
                  refine z_aload_n X d_Mod_node2_88 rfl ?_
                  refine z_get X (v := .ref (A 7)) d_Mod_node2_89 (hM.lo 38 (by decide)) hM.ob cl_Mod in_Mod 7 (by decide) fl_Mod_16 rfl rfl ?_
                  refine z_iload X d_Mod_node2_92 rfl ?_
                  obtain ⟨b94, h⟩ := gd h
                  refine z_iald X (g := (p20.2.2.1 7)) d_Mod_node2_94 (hM.lo 7 (by decide)) (hM.iA 7 800 rfl) (t0 := 0) rfl (vp_of b94) ?_
                  refine z_goto X 120 d_Mod_node2_95 (by decide) ?_
                  have e9 := Option.some.inj h
                  subst e9
                  exact z_iret X d_Mod_node2_120 ⟨rfl, rfl, hM⟩
              · skip
                have h := (if_pos h70).symm.trans h
                refine z_aload_n X d_Mod_node2_73 rfl ?_
                refine z_get X (v := .ref (A 6)) d_Mod_node2_74 (hM.lo 38 (by decide)) hM.ob cl_Mod in_Mod 6 (by decide) fl_Mod_13 rfl rfl ?_
                refine z_iload X d_Mod_node2_77 rfl ?_
                obtain ⟨b79, h⟩ := gd h
                refine z_iald X (g := (p20.2.2.1 6)) d_Mod_node2_79 (hM.lo 6 (by decide)) (hM.iA 6 800 rfl) (t0 := 0) rfl (vp_of b79) ?_
                refine z_goto X 120 d_Mod_node2_80 (by decide) ?_
                have e9 := Option.some.inj h
                subst e9
                exact z_iret X d_Mod_node2_120 ⟨rfl, rfl, hM⟩
            · skip
              exact absurd h56 (by decide)
      · skip
        have h := (if_neg h23).symm.trans h
        refine z_iload_n X d_Mod_node2_26 rfl ?_
        refine z_goto X 31 d_Mod_node2_27 (by decide) ?_
        obtain ⟨b31, h⟩ := gd h
        refine z_iald X (g := (p20.2.2.1 10)) d_Mod_node2_31 (hM.lo 10 (by decide)) (hM.iA 10 20 rfl) (t0 := 0) rfl (vp_of b31) ?_
        refine z_icmp_ge X 48 d_Mod_node2_32 (by decide) (fun h32 => ?_) (fun h32 => ?_)
        · skip
          have h := (if_pos h32).symm.trans h
          refine z_iconst X d_Mod_node2_48 (v := 1) (by decide) ?_
          refine z_putM X t_Mod ty_Mod n_Mod d_Mod_node2_49 hM cl_Mod in_Mod 0 (by decide) fl_Mod_93 rfl rfl rfl (by decide) rfl (fun hM => ?_)
          refine z_aload_n X d_Mod_node2_52 rfl ?_
          refine z_get X (v := .int 1) d_Mod_node2_53 (hM.lo 38 (by decide)) hM.ob cl_Mod in_Mod 0 (by decide) fl_Mod_93 rfl rfl ?_
          refine z_if_le X 61 d_Mod_node2_56 (by decide) (fun h56 => ?_) (fun h56 => ?_)
          · skip
            exact absurd h56 (by decide)
          · skip
            refine z_iconst X d_Mod_node2_59 (v := 0) (by decide) ?_
            have e9 := Option.some.inj h
            subst e9
            exact z_iret X d_Mod_node2_60 ⟨rfl, rfl, hM⟩
        · skip
          have h := (if_neg h32).symm.trans h
          refine z_iload_n X d_Mod_node2_35 rfl ?_
          refine z_iconst X d_Mod_node2_36 (v := 0) (by decide) ?_
          refine z_iconst X d_Mod_node2_37 (v := 3) (by decide) ?_
          obtain ⟨p38, q38, h⟩ := bd h
          refine z_callS X zG_ok (c_Mod_in q38) d_Mod_node2_38 ⟨(z_cb (n := 3) X.2.2.2.2.1 ml_Mod_100 mc_Mod_in ini_Mod (by decide +kernel) rfl rfl ⟨Nat.le_of_ble_eq_true rfl, Nat.le_of_ble_eq_true rfl⟩), X.2.2.2.2.1 _ st_Mod_in⟩ rfl rfl (Nat.le_of_ble_eq_true rfl) ⟨Nat.le_of_ble_eq_true rfl, Nat.le_of_ble_eq_true rfl⟩ (fun r N1 f1 hp hN1 => ?_)
          obtain ⟨rfl, rfl, rfl⟩ := hp
          refine z_if_eq X 48 d_Mod_node2_41 (by decide) (fun h41 => ?_) (fun h41 => ?_)
          · skip
            have h := (if_pos h41).symm.trans h
            refine z_iconst X d_Mod_node2_48 (v := 1) (by decide) ?_
            refine z_putM X t_Mod ty_Mod n_Mod d_Mod_node2_49 hM cl_Mod in_Mod 0 (by decide) fl_Mod_93 rfl rfl rfl (by decide) rfl (fun hM => ?_)
            refine z_aload_n X d_Mod_node2_52 rfl ?_
            refine z_get X (v := .int 1) d_Mod_node2_53 (hM.lo 38 (by decide)) hM.ob cl_Mod in_Mod 0 (by decide) fl_Mod_93 rfl rfl ?_
            refine z_if_le X 61 d_Mod_node2_56 (by decide) (fun h56 => ?_) (fun h56 => ?_)
            · skip
              exact absurd h56 (by decide)
            · skip
              refine z_iconst X d_Mod_node2_59 (v := 0) (by decide) ?_
              have e9 := Option.some.inj h
              subst e9
              exact z_iret X d_Mod_node2_60 ⟨rfl, rfl, hM⟩
          · skip
            have h := (if_neg h41).symm.trans h
            refine z_iconst X d_Mod_node2_44 (v := 0) (by decide) ?_
            refine z_goto X 49 d_Mod_node2_45 (by decide) ?_
            refine z_putM X t_Mod ty_Mod n_Mod d_Mod_node2_49 hM cl_Mod in_Mod 0 (by decide) fl_Mod_93 rfl rfl rfl (by decide) rfl (fun hM => ?_)
            refine z_aload_n X d_Mod_node2_52 rfl ?_
            refine z_get X (v := .int 0) d_Mod_node2_53 (hM.lo 38 (by decide)) hM.ob cl_Mod in_Mod 0 (by decide) fl_Mod_93 rfl rfl ?_
            refine z_if_le X 61 d_Mod_node2_56 (by decide) (fun h56 => ?_) (fun h56 => ?_)
            · skip
              refine z_bipush X d_Mod_node2_61 (v := 40) (by decide) ?_
              refine z_iload_n X d_Mod_node2_63 rfl ?_
              refine z_imul X d_Mod_node2_64 ?_
              refine z_iload_n X d_Mod_node2_65 rfl ?_
              refine z_iadd X d_Mod_node2_66 ?_
              refine z_istore X d_Mod_node2_67 (by decide) rfl ?_
              refine z_iload_n X d_Mod_node2_69 rfl ?_
              refine z_if_ne X 83 d_Mod_node2_70 (by decide) (fun h70 => ?_) (fun h70 => ?_)
              · skip
                have h := (if_neg h70).symm.trans h
                refine z_iload_n X d_Mod_node2_83 rfl ?_
                refine z_iconst X d_Mod_node2_84 (v := 1) (by decide) ?_
                refine z_icmp_ne X 98 d_Mod_node2_85 (by decide) (fun h85 => ?_) (fun h85 => ?_)
                · skip
                  have h := (if_neg h85).symm.trans h
                  refine z_iload_n X d_Mod_node2_98 rfl ?_
                  refine z_iconst X d_Mod_node2_99 (v := 2) (by decide) ?_
                  refine z_icmp_ne X 113 d_Mod_node2_100 (by decide) (fun h100 => ?_) (fun h100 => ?_)
                  · skip
                    have h := (if_neg h100).symm.trans h
                    refine z_aload_n X d_Mod_node2_113 rfl ?_
                    refine z_get X (v := .ref (A 9)) d_Mod_node2_114 (hM.lo 38 (by decide)) hM.ob cl_Mod in_Mod 9 (by decide) fl_Mod_22 rfl rfl ?_
                    refine z_iload X d_Mod_node2_117 rfl ?_
                    obtain ⟨b119, h⟩ := gd h
                    refine z_iald X (g := (p20.2.2.1 9)) d_Mod_node2_119 (hM.lo 9 (by decide)) (hM.iA 9 800 rfl) (t0 := 0) rfl (vp_of b119) ?_
                    have e9 := Option.some.inj h
                    subst e9
                    exact z_iret X d_Mod_node2_120 ⟨rfl, rfl, hM⟩
                  · skip
                    have h := (if_pos h100).symm.trans h
                    refine z_aload_n X d_Mod_node2_103 rfl ?_
                    refine z_get X (v := .ref (A 8)) d_Mod_node2_104 (hM.lo 38 (by decide)) hM.ob cl_Mod in_Mod 8 (by decide) fl_Mod_19 rfl rfl ?_
                    refine z_iload X d_Mod_node2_107 rfl ?_
                    obtain ⟨b109, h⟩ := gd h
                    refine z_iald X (g := (p20.2.2.1 8)) d_Mod_node2_109 (hM.lo 8 (by decide)) (hM.iA 8 800 rfl) (t0 := 0) rfl (vp_of b109) ?_
                    refine z_goto X 120 d_Mod_node2_110 (by decide) ?_
                    have e9 := Option.some.inj h
                    subst e9
                    exact z_iret X d_Mod_node2_120 ⟨rfl, rfl, hM⟩
                · skip
                  have h := (if_pos h85).symm.trans h
                  refine z_aload_n X d_Mod_node2_88 rfl ?_
                  refine z_get X (v := .ref (A 7)) d_Mod_node2_89 (hM.lo 38 (by decide)) hM.ob cl_Mod in_Mod 7 (by decide) fl_Mod_16 rfl rfl ?_
                  refine z_iload X d_Mod_node2_92 rfl ?_
                  obtain ⟨b94, h⟩ := gd h
                  refine z_iald X (g := (p20.2.2.1 7)) d_Mod_node2_94 (hM.lo 7 (by decide)) (hM.iA 7 800 rfl) (t0 := 0) rfl (vp_of b94) ?_
                  refine z_goto X 120 d_Mod_node2_95 (by decide) ?_
                  have e9 := Option.some.inj h
                  subst e9
                  exact z_iret X d_Mod_node2_120 ⟨rfl, rfl, hM⟩
              · skip
                have h := (if_pos h70).symm.trans h
                refine z_aload_n X d_Mod_node2_73 rfl ?_
                refine z_get X (v := .ref (A 6)) d_Mod_node2_74 (hM.lo 38 (by decide)) hM.ob cl_Mod in_Mod 6 (by decide) fl_Mod_13 rfl rfl ?_
                refine z_iload X d_Mod_node2_77 rfl ?_
                obtain ⟨b79, h⟩ := gd h
                refine z_iald X (g := (p20.2.2.1 6)) d_Mod_node2_79 (hM.lo 6 (by decide)) (hM.iA 6 800 rfl) (t0 := 0) rfl (vp_of b79) ?_
                refine z_goto X 120 d_Mod_node2_80 (by decide) ?_
                have e9 := Option.some.inj h
                subst e9
                exact z_iret X d_Mod_node2_120 ⟨rfl, rfl, hM⟩
            · skip
              exact absurd h56 (by decide)
theorem d_Mod_put_0 : decode prog_10_method_48_code 0 = .ok (.aload_n 0, 1) := by decide +kernel
theorem d_Mod_put_1 : decode prog_10_method_48_code 1 = .ok (.getfield 87, 3) := by decide +kernel
theorem d_Mod_put_4 : decode prog_10_method_48_code 4 = .ok (.aload_n 0, 1) := by decide +kernel
theorem d_Mod_put_5 : decode prog_10_method_48_code 5 = .ok (.getfield 241, 3) := by decide +kernel
theorem d_Mod_put_8 : decode prog_10_method_48_code 8 = .ok (.iload_n 1, 1) := by decide +kernel
theorem d_Mod_put_9 : decode prog_10_method_48_code 9 = .ok (.iastore, 1) := by decide +kernel
theorem d_Mod_put_10 : decode prog_10_method_48_code 10 = .ok (.aload_n 0, 1) := by decide +kernel
theorem d_Mod_put_11 : decode prog_10_method_48_code 11 = .ok (.dup, 1) := by decide +kernel
theorem d_Mod_put_12 : decode prog_10_method_48_code 12 = .ok (.getfield 241, 3) := by decide +kernel
theorem d_Mod_put_15 : decode prog_10_method_48_code 15 = .ok (.iconst 1, 1) := by decide +kernel
theorem d_Mod_put_16 : decode prog_10_method_48_code 16 = .ok (.iadd, 1) := by decide +kernel
theorem d_Mod_put_17 : decode prog_10_method_48_code 17 = .ok (.putfield 241, 3) := by decide +kernel
theorem d_Mod_put_20 : decode prog_10_method_48_code 20 = .ok (.return_, 1) := by decide +kernel
def m_put (x1 : Int32) (μ : MS) : Option MS := (if inb (μ.1 36) 2000 = true then some (sI 36 ((μ.1 36) + 1) (sA 35 ((μ.1 36).toNatClampNeg) x1 μ)) else none)
set_option maxHeartbeats 4000000 in
set_option maxRecDepth 100000 in
theorem c_Mod_put {A : Nat → Nat} {f0 : Nat → va_E} {μ : MS} {x1 : Int32} {res : MS} (hM : zMf ck b0 N A f0 f μ) (h : m_put x1 μ = some res) : zK l D ck ad b0 y_Mod_put prog_10_method_48_code 2 (none) 0 0 0 [.ref (A 38), .int x1] N f (fun r N' f' => r = none ∧ N = N' ∧ zMf ck b0 N A f0 f' res) := by
  refine zM.of zG_w (by decide) (Nat.le_of_ble_eq_true rfl) ?_
  intro zp ze zst zm zar zbe zme zc X hnm hb0
  rw [m_put] at h
  refine z_aload_n X d_Mod_put_0 rfl ?_
  refine z_get X (v := .ref (A 35)) d_Mod_put_1 (hM.lo 38 (by decide)) hM.ob cl_Mod in_Mod 35 (by decide) fl_Mod_87 rfl rfl ?_
  refine z_aload_n X d_Mod_put_4 rfl ?_
  refine z_get X (v := .int (μ.1 36)) d_Mod_put_5 (hM.lo 38 (by decide)) hM.ob cl_Mod in_Mod 36 (by decide) fl_Mod_241 rfl rfl ?_
  refine z_iload_n X d_Mod_put_8 rfl ?_
  obtain ⟨b9, h⟩ := gd h
  refine z_iastM X d_Mod_put_9 hM 35 2000 rfl rfl (vp_of b9) (fun hM => ?_)
  refine z_aload_n X d_Mod_put_10 rfl ?_
  refine z_dup X d_Mod_put_11 rfl ?_
  refine z_get X (v := .int (μ.1 36)) d_Mod_put_12 (hM.lo 38 (by decide)) hM.ob cl_Mod in_Mod 36 (by decide) fl_Mod_241 rfl rfl ?_
  refine z_iconst X d_Mod_put_15 (v := 1) (by decide) ?_
  refine z_iadd X d_Mod_put_16 ?_
  refine z_putM X t_Mod ty_Mod n_Mod d_Mod_put_17 hM cl_Mod in_Mod 36 (by decide) fl_Mod_241 rfl rfl rfl (by decide) rfl (fun hM => ?_)
  have e9 := Option.some.inj h
  subst e9
  exact z_vret X d_Mod_put_20 ⟨rfl, rfl, hM⟩
theorem d_Mod_putNumber_0 : decode prog_10_method_49_code 0 = .ok (.iconst 1, 1) := by decide +kernel
theorem d_Mod_putNumber_1 : decode prog_10_method_49_code 1 = .ok (.istore_n 2, 1) := by decide +kernel
theorem d_Mod_putNumber_2 : decode prog_10_method_49_code 2 = .ok (.iload_n 1, 1) := by decide +kernel
theorem d_Mod_putNumber_3 : decode prog_10_method_49_code 3 = .ok (.iload_n 2, 1) := by decide +kernel
theorem d_Mod_putNumber_4 : decode prog_10_method_49_code 4 = .ok (.idiv, 1) := by decide +kernel
theorem d_Mod_putNumber_5 : decode prog_10_method_49_code 5 = .ok (.bipush 9, 2) := by decide +kernel
theorem d_Mod_putNumber_7 : decode prog_10_method_49_code 7 = .ok (.if_icmp .le 11, 3) := by decide +kernel
theorem d_Mod_putNumber_10 : decode prog_10_method_49_code 10 = .ok (.iload_n 2, 1) := by decide +kernel
theorem d_Mod_putNumber_11 : decode prog_10_method_49_code 11 = .ok (.bipush 10, 2) := by decide +kernel
theorem d_Mod_putNumber_13 : decode prog_10_method_49_code 13 = .ok (.imul, 1) := by decide +kernel
theorem d_Mod_putNumber_14 : decode prog_10_method_49_code 14 = .ok (.istore_n 2, 1) := by decide +kernel
theorem d_Mod_putNumber_15 : decode prog_10_method_49_code 15 = .ok (.goto (-13), 3) := by decide +kernel
theorem d_Mod_putNumber_18 : decode prog_10_method_49_code 18 = .ok (.iload_n 2, 1) := by decide +kernel
theorem d_Mod_putNumber_19 : decode prog_10_method_49_code 19 = .ok (.istore_n 3, 1) := by decide +kernel
theorem d_Mod_putNumber_20 : decode prog_10_method_49_code 20 = .ok (.iload_n 3, 1) := by decide +kernel
theorem d_Mod_putNumber_21 : decode prog_10_method_49_code 21 = .ok (.ifCond .le 24, 3) := by decide +kernel
theorem d_Mod_putNumber_24 : decode prog_10_method_49_code 24 = .ok (.aload_n 0, 1) := by decide +kernel
theorem d_Mod_putNumber_25 : decode prog_10_method_49_code 25 = .ok (.bipush 48, 2) := by decide +kernel
theorem d_Mod_putNumber_27 : decode prog_10_method_49_code 27 = .ok (.iload_n 1, 1) := by decide +kernel
theorem d_Mod_putNumber_28 : decode prog_10_method_49_code 28 = .ok (.iload_n 3, 1) := by decide +kernel
theorem d_Mod_putNumber_29 : decode prog_10_method_49_code 29 = .ok (.idiv, 1) := by decide +kernel
theorem d_Mod_putNumber_30 : decode prog_10_method_49_code 30 = .ok (.bipush 10, 2) := by decide +kernel
theorem d_Mod_putNumber_32 : decode prog_10_method_49_code 32 = .ok (.irem, 1) := by decide +kernel
theorem d_Mod_putNumber_33 : decode prog_10_method_49_code 33 = .ok (.iadd, 1) := by decide +kernel
theorem d_Mod_putNumber_34 : decode prog_10_method_49_code 34 = .ok (.invokevirtual 244, 3) := by decide +kernel
theorem d_Mod_putNumber_37 : decode prog_10_method_49_code 37 = .ok (.iload_n 3, 1) := by decide +kernel
theorem d_Mod_putNumber_38 : decode prog_10_method_49_code 38 = .ok (.bipush 10, 2) := by decide +kernel
theorem d_Mod_putNumber_40 : decode prog_10_method_49_code 40 = .ok (.idiv, 1) := by decide +kernel
theorem d_Mod_putNumber_41 : decode prog_10_method_49_code 41 = .ok (.istore_n 3, 1) := by decide +kernel
theorem d_Mod_putNumber_42 : decode prog_10_method_49_code 42 = .ok (.goto (-22), 3) := by decide +kernel
theorem d_Mod_putNumber_45 : decode prog_10_method_49_code 45 = .ok (.return_, 1) := by decide +kernel
def m_putNumber_B : Nat → Nat → Int32 → Int32 → Int32 → MS → Option MS
  | 0, _, _, _, _, _ => none
  | n + 1, b, x1, x2, x3, μ => if b = 0 then (if x2 = 0 then none else (if (x1 / x2) ≤ 9 then m_putNumber_B n 1 x1 0 x2 μ else m_putNumber_B n 0 x1 (x2 * 10) 0 μ))
    else (if x3 ≤ 0 then some μ else (if x3 = 0 then none else (m_put (48 + ((x1 / x3) - (x1 / x3) / 10 * 10)) μ).bind (fun p34 => m_putNumber_B n 1 x1 0 (x3 / 10) p34)))
theorem m_putNumber_b0 (n : Nat) (x1 : Int32) (x2 : Int32) (x3 : Int32) (μ : MS) : m_putNumber_B (n + 1) 0 x1 x2 x3 μ = (if x2 = 0 then none else (if (x1 / x2) ≤ 9 then m_putNumber_B n 1 x1 0 x2 μ else m_putNumber_B n 0 x1 (x2 * 10) 0 μ)) := by
  rw [m_putNumber_B, if_pos rfl]
theorem m_putNumber_b1 (n : Nat) (x1 : Int32) (x2 : Int32) (x3 : Int32) (μ : MS) : m_putNumber_B (n + 1) 1 x1 x2 x3 μ = (if x3 ≤ 0 then some μ else (if x3 = 0 then none else (m_put (48 + ((x1 / x3) - (x1 / x3) / 10 * 10)) μ).bind (fun p34 => m_putNumber_B n 1 x1 0 (x3 / 10) p34))) := by
  rw [m_putNumber_B, if_neg (by decide)]
def m_putNumber (x1 : Int32) (μ : MS) : Option MS := m_putNumber_B 4096 0 x1 1 0 μ
set_option maxHeartbeats 4000000 in
set_option maxRecDepth 100000 in
theorem c_Mod_putNumber {A : Nat → Nat} {f0 : Nat → va_E} {μ : MS} {x1 : Int32} {res : MS} (hM : zMf ck b0 N A f0 f μ) (h : m_putNumber x1 μ = some res) : zK l D ck ad b0 y_Mod_putNumber prog_10_method_49_code 4 (none) 1 0 0 [.ref (A 38), .int x1] N f (fun r N' f' => r = none ∧ N = N' ∧ zMf ck b0 N A f0 f' res) := by
  refine zM.of zG_w (by decide) (Nat.le_of_ble_eq_true rfl) ?_
  intro zp ze zst zm zar zbe zme zc X hnm hb0
  have L : ∀ n : Nat, (∀ (x1 : Int32) (x2 : Int32) (x3 : Int32) (f1 : Nat → va_E) (μ : MS), zMf ck b0 N A f0 f1 μ → m_putNumber_B n 0 x1 x2 x3 μ = some res → zW zp l ze (zR 1 0 0) zst zm zar zbe zme zc D zcl b0 4 0 0 (MQ zbe (zQ D zcl b0 (fun r N' f' => r = none ∧ N = N' ∧ zMf ck b0 N A f0 f' res)) zar zst 0 0 (zA b0)) N f1 2 [(0, .ref (A 38)), (1, .int x1), (2, .int x2)] []) ∧ (∀ (x1 : Int32) (x2 : Int32) (x3 : Int32) (f1 : Nat → va_E) (μ : MS), zMf ck b0 N A f0 f1 μ → m_putNumber_B n 1 x1 x2 x3 μ = some res → zW zp l ze (zR 1 0 0) zst zm zar zbe zme zc D zcl b0 4 0 0 (MQ zbe (zQ D zcl b0 (fun r N' f' => r = none ∧ N = N' ∧ zMf ck b0 N A f0 f' res)) zar zst 0 0 (zA b0)) N f1 20 [(0, .ref (A 38)), (1, .int x1), (3, .int x3)] []) := by
    intro n
    induction n with
    | zero =>
      exact ⟨fun _ _ _ _ _ _ h => (by rw [m_putNumber_B] at h; cases h), fun _ _ _ _ _ _ h => (by rw [m_putNumber_B] at h; cases h)⟩
    | succ n ih =>
      refine ⟨?_, ?_⟩
      · intro x1 x2 x3 f1 μ hM h
        rw [m_putNumber_b0] at h
        refine z_iload_n X d_Mod_putNumber_2 rfl ?_
        refine z_iload_n X d_Mod_putNumber_3 rfl ?_
        obtain ⟨e4, h⟩ := gn h
        refine z_idiv X d_Mod_putNumber_4 e4 ?_
        refine z_bipush X d_Mod_putNumber_5 (v := 9) (by decide) ?_
        refine z_icmp_le X 18 d_Mod_putNumber_7 (by decide) (fun h7 => ?_) (fun h7 => ?_)
        · skip
          have h := (if_pos h7).symm.trans h
          refine z_iload_n X d_Mod_putNumber_18 rfl ?_
          refine z_istore_n X d_Mod_putNumber_19 (by decide) rfl ?_
          refine zW.pick [0, 1, 3] (lv' := [(0, .ref (A 38)), (1, .int x1), (3, .int x2)]) rfl ?_
          exact (ih).2 x1 0 x2 _ _ hM h
        · skip
          have h := (if_neg h7).symm.trans h
          refine z_iload_n X d_Mod_putNumber_10 rfl ?_
          refine z_bipush X d_Mod_putNumber_11 (v := 10) (by decide) ?_
          refine z_imul X d_Mod_putNumber_13 ?_
          refine z_istore_n X d_Mod_putNumber_14 (by decide) rfl ?_
          refine z_goto X 2 d_Mod_putNumber_15 (by decide) ?_
          refine zW.pick [0, 1, 2] (lv' := [(0, .ref (A 38)), (1, .int x1), (2, .int (x2 * 10))]) rfl ?_
          exact (ih).1 x1 (x2 * 10) 0 _ _ hM h
      · intro x1 x2 x3 f1 μ hM h
        rw [m_putNumber_b1] at h
        refine z_iload_n X d_Mod_putNumber_20 rfl ?_
        refine z_if_le X 45 d_Mod_putNumber_21 (by decide) (fun h21 => ?_) (fun h21 => ?_)
        · skip
          have h := (if_pos h21).symm.trans h
          have e9 := Option.some.inj h
          subst e9
          exact z_vret X d_Mod_putNumber_45 ⟨rfl, rfl, hM⟩
        · skip
          have h := (if_neg h21).symm.trans h
          refine z_aload_n X d_Mod_putNumber_24 rfl ?_
          refine z_bipush X d_Mod_putNumber_25 (v := 48) (by decide) ?_
          refine z_iload_n X d_Mod_putNumber_27 rfl ?_
          refine z_iload_n X d_Mod_putNumber_28 rfl ?_
          obtain ⟨e29, h⟩ := gn h
          refine z_idiv X d_Mod_putNumber_29 e29 ?_
          refine z_bipush X d_Mod_putNumber_30 (v := 10) (by decide) ?_
          refine z_irem X d_Mod_putNumber_32 (by decide) ?_
          refine z_iadd X d_Mod_putNumber_33 ?_
          obtain ⟨p34, q34, h⟩ := bd h
          refine z_callV X zG_ok (c_Mod_put hM q34) d_Mod_putNumber_34 ⟨(z_cb (n := 1) X.2.2.2.2.1 ml_Mod_244 mc_Mod_put ini_Mod (by decide +kernel) rfl rfl ⟨Nat.le_of_ble_eq_true rfl, Nat.le_of_ble_eq_true rfl⟩), X.2.2.2.2.1 _ im_Mod_put, X.2.2.2.2.1 _ sel_Mod_put⟩ (hM.lo 38 (by decide)) hM.ob cl_Mod rfl rfl (Nat.le_of_ble_eq_true rfl) ⟨Nat.le_of_ble_eq_true rfl, Nat.le_of_ble_eq_true rfl⟩ (fun r N1 f1 hp hN1 => ?_)
          obtain ⟨rfl, rfl, hM⟩ := hp
          refine z_iload_n X d_Mod_putNumber_37 rfl ?_
          refine z_bipush X d_Mod_putNumber_38 (v := 10) (by decide) ?_
          refine z_idiv X d_Mod_putNumber_40 (by decide) ?_
          refine z_istore_n X d_Mod_putNumber_41 (by decide) rfl ?_
          refine z_goto X 20 d_Mod_putNumber_42 (by decide) ?_
          refine zW.pick [0, 1, 2] (lv' := [(0, .ref (A 38)), (1, .int x1), (3, .int (x3 / 10))]) rfl ?_
          exact (ih).2 x1 0 (x3 / 10) _ _ hM h
  rw [m_putNumber] at h
  refine z_iconst X d_Mod_putNumber_0 (v := 1) (by decide) ?_
  refine z_istore_n X d_Mod_putNumber_1 (by decide) rfl ?_
  refine zW.pick [0, 1, 2] (lv' := [(0, .ref (A 38)), (1, .int x1), (2, .int 1)]) rfl ?_
  exact (L 4096).1 x1 1 0 _ _ hM h
theorem d_Mod_putTerm_0 : decode prog_10_method_50_code 0 = .ok (.aload_n 0, 1) := by decide +kernel
theorem d_Mod_putTerm_1 : decode prog_10_method_50_code 1 = .ok (.getfield 13, 3) := by decide +kernel
theorem d_Mod_putTerm_4 : decode prog_10_method_50_code 4 = .ok (.iload_n 1, 1) := by decide +kernel
theorem d_Mod_putTerm_5 : decode prog_10_method_50_code 5 = .ok (.iaload, 1) := by decide +kernel
theorem d_Mod_putTerm_6 : decode prog_10_method_50_code 6 = .ok (.bipush 13, 2) := by decide +kernel
theorem d_Mod_putTerm_8 : decode prog_10_method_50_code 8 = .ok (.if_icmp .ne 27, 3) := by decide +kernel
theorem d_Mod_putTerm_11 : decode prog_10_method_50_code 11 = .ok (.aload_n 0, 1) := by decide +kernel
theorem d_Mod_putTerm_12 : decode prog_10_method_50_code 12 = .ok (.bipush 115, 2) := by decide +kernel
theorem d_Mod_putTerm_14 : decode prog_10_method_50_code 14 = .ok (.invokevirtual 244, 3) := by decide +kernel
theorem d_Mod_putTerm_17 : decode prog_10_method_50_code 17 = .ok (.aload_n 0, 1) := by decide +kernel
theorem d_Mod_putTerm_18 : decode prog_10_method_50_code 18 = .ok (.bipush 117, 2) := by decide +kernel
theorem d_Mod_putTerm_20 : decode prog_10_method_50_code 20 = .ok (.invokevirtual 244, 3) := by decide +kernel
theorem d_Mod_putTerm_23 : decode prog_10_method_50_code 23 = .ok (.aload_n 0, 1) := by decide +kernel
theorem d_Mod_putTerm_24 : decode prog_10_method_50_code 24 = .ok (.bipush 109, 2) := by decide +kernel
theorem d_Mod_putTerm_26 : decode prog_10_method_50_code 26 = .ok (.invokevirtual 244, 3) := by decide +kernel
theorem d_Mod_putTerm_29 : decode prog_10_method_50_code 29 = .ok (.aload_n 0, 1) := by decide +kernel
theorem d_Mod_putTerm_30 : decode prog_10_method_50_code 30 = .ok (.bipush 32, 2) := by decide +kernel
theorem d_Mod_putTerm_32 : decode prog_10_method_50_code 32 = .ok (.invokevirtual 244, 3) := by decide +kernel
theorem d_Mod_putTerm_35 : decode prog_10_method_50_code 35 = .ok (.aload_n 0, 1) := by decide +kernel
theorem d_Mod_putTerm_36 : decode prog_10_method_50_code 36 = .ok (.getfield 13, 3) := by decide +kernel
theorem d_Mod_putTerm_39 : decode prog_10_method_50_code 39 = .ok (.iload_n 1, 1) := by decide +kernel
theorem d_Mod_putTerm_40 : decode prog_10_method_50_code 40 = .ok (.iaload, 1) := by decide +kernel
theorem d_Mod_putTerm_41 : decode prog_10_method_50_code 41 = .ok (.bipush 14, 2) := by decide +kernel
theorem d_Mod_putTerm_43 : decode prog_10_method_50_code 43 = .ok (.if_icmp .ne 39, 3) := by decide +kernel
theorem d_Mod_putTerm_46 : decode prog_10_method_50_code 46 = .ok (.aload_n 0, 1) := by decide +kernel
theorem d_Mod_putTerm_47 : decode prog_10_method_50_code 47 = .ok (.bipush 99, 2) := by decide +kernel
theorem d_Mod_putTerm_49 : decode prog_10_method_50_code 49 = .ok (.invokevirtual 244, 3) := by decide +kernel
theorem d_Mod_putTerm_52 : decode prog_10_method_50_code 52 = .ok (.aload_n 0, 1) := by decide +kernel
theorem d_Mod_putTerm_53 : decode prog_10_method_50_code 53 = .ok (.bipush 111, 2) := by decide +kernel
theorem d_Mod_putTerm_55 : decode prog_10_method_50_code 55 = .ok (.invokevirtual 244, 3) := by decide +kernel
theorem d_Mod_putTerm_58 : decode prog_10_method_50_code 58 = .ok (.aload_n 0, 1) := by decide +kernel
theorem d_Mod_putTerm_59 : decode prog_10_method_50_code 59 = .ok (.bipush 117, 2) := by decide +kernel
theorem d_Mod_putTerm_61 : decode prog_10_method_50_code 61 = .ok (.invokevirtual 244, 3) := by decide +kernel
theorem d_Mod_putTerm_64 : decode prog_10_method_50_code 64 = .ok (.aload_n 0, 1) := by decide +kernel
theorem d_Mod_putTerm_65 : decode prog_10_method_50_code 65 = .ok (.bipush 110, 2) := by decide +kernel
theorem d_Mod_putTerm_67 : decode prog_10_method_50_code 67 = .ok (.invokevirtual 244, 3) := by decide +kernel
theorem d_Mod_putTerm_70 : decode prog_10_method_50_code 70 = .ok (.aload_n 0, 1) := by decide +kernel
theorem d_Mod_putTerm_71 : decode prog_10_method_50_code 71 = .ok (.bipush 116, 2) := by decide +kernel
theorem d_Mod_putTerm_73 : decode prog_10_method_50_code 73 = .ok (.invokevirtual 244, 3) := by decide +kernel
theorem d_Mod_putTerm_76 : decode prog_10_method_50_code 76 = .ok (.aload_n 0, 1) := by decide +kernel
theorem d_Mod_putTerm_77 : decode prog_10_method_50_code 77 = .ok (.bipush 32, 2) := by decide +kernel
theorem d_Mod_putTerm_79 : decode prog_10_method_50_code 79 = .ok (.invokevirtual 244, 3) := by decide +kernel
theorem d_Mod_putTerm_82 : decode prog_10_method_50_code 82 = .ok (.aload_n 0, 1) := by decide +kernel
theorem d_Mod_putTerm_83 : decode prog_10_method_50_code 83 = .ok (.getfield 13, 3) := by decide +kernel
theorem d_Mod_putTerm_86 : decode prog_10_method_50_code 86 = .ok (.iload_n 1, 1) := by decide +kernel
theorem d_Mod_putTerm_87 : decode prog_10_method_50_code 87 = .ok (.iaload, 1) := by decide +kernel
theorem d_Mod_putTerm_88 : decode prog_10_method_50_code 88 = .ok (.bipush 11, 2) := by decide +kernel
theorem d_Mod_putTerm_90 : decode prog_10_method_50_code 90 = .ok (.if_icmp .le 9, 3) := by decide +kernel
theorem d_Mod_putTerm_93 : decode prog_10_method_50_code 93 = .ok (.aload_n 0, 1) := by decide +kernel
theorem d_Mod_putTerm_94 : decode prog_10_method_50_code 94 = .ok (.bipush 102, 2) := by decide +kernel
theorem d_Mod_putTerm_96 : decode prog_10_method_50_code 96 = .ok (.invokevirtual 244, 3) := by decide +kernel
theorem d_Mod_putTerm_99 : decode prog_10_method_50_code 99 = .ok (.aload_n 0, 1) := by decide +kernel
theorem d_Mod_putTerm_100 : decode prog_10_method_50_code 100 = .ok (.aload_n 0, 1) := by decide +kernel
theorem d_Mod_putTerm_101 : decode prog_10_method_50_code 101 = .ok (.getfield 16, 3) := by decide +kernel
theorem d_Mod_putTerm_104 : decode prog_10_method_50_code 104 = .ok (.iload_n 1, 1) := by decide +kernel
theorem d_Mod_putTerm_105 : decode prog_10_method_50_code 105 = .ok (.iaload, 1) := by decide +kernel
theorem d_Mod_putTerm_106 : decode prog_10_method_50_code 106 = .ok (.invokevirtual 247, 3) := by decide +kernel
theorem d_Mod_putTerm_109 : decode prog_10_method_50_code 109 = .ok (.return_, 1) := by decide +kernel
def m_putTerm_B : Nat → Nat → Int32 → MS → Option MS
  | 0, _, _, _ => none
  | n + 1, b, x1, μ => if b = 0 then (if inb x1 800 = true then (if ((μ.2.1 6) x1.toNatClampNeg) = 14 then (m_put 99 μ).bind (fun p49 => (m_put 111 p49).bind (fun p55 => (m_put 117 p55).bind (fun p61 => (m_put 110 p61).bind (fun p67 => (m_put 116 p67).bind (fun p73 => (m_put 32 p73).bind (fun p79 => m_putTerm_B n 1 x1 p79)))))) else m_putTerm_B n 1 x1 μ) else none)
    else if b = 1 then (if inb x1 800 = true then (if ((μ.2.1 6) x1.toNatClampNeg) ≤ 11 then m_putTerm_B n 2 x1 μ else (m_put 102 μ).bind (fun p96 => m_putTerm_B n 2 x1 p96)) else none)
    else (if inb x1 800 = true then (m_putNumber ((μ.2.1 7) x1.toNatClampNeg) μ).bind (fun p106 => some p106) else none)
theorem m_putTerm_b0 (n : Nat) (x1 : Int32) (μ : MS) : m_putTerm_B (n + 1) 0 x1 μ = (if inb x1 800 = true then (if ((μ.2.1 6) x1.toNatClampNeg) = 14 then (m_put 99 μ).bind (fun p49 => (m_put 111 p49).bind (fun p55 => (m_put 117 p55).bind (fun p61 => (m_put 110 p61).bind (fun p67 => (m_put 116 p67).bind (fun p73 => (m_put 32 p73).bind (fun p79 => m_putTerm_B n 1 x1 p79)))))) else m_putTerm_B n 1 x1 μ) else none) := by
  rw [m_putTerm_B, if_pos rfl]
theorem m_putTerm_b1 (n : Nat) (x1 : Int32) (μ : MS) : m_putTerm_B (n + 1) 1 x1 μ = (if inb x1 800 = true then (if ((μ.2.1 6) x1.toNatClampNeg) ≤ 11 then m_putTerm_B n 2 x1 μ else (m_put 102 μ).bind (fun p96 => m_putTerm_B n 2 x1 p96)) else none) := by
  rw [m_putTerm_B, if_neg (by decide), if_pos rfl]
theorem m_putTerm_b2 (n : Nat) (x1 : Int32) (μ : MS) : m_putTerm_B (n + 1) 2 x1 μ = (if inb x1 800 = true then (m_putNumber ((μ.2.1 7) x1.toNatClampNeg) μ).bind (fun p106 => some p106) else none) := by
  rw [m_putTerm_B, if_neg (by decide), if_neg (by decide)]
def m_putTerm (x1 : Int32) (μ : MS) : Option MS := (if inb x1 800 = true then (if ((μ.2.1 6) x1.toNatClampNeg) = 13 then (m_put 115 μ).bind (fun p14 => (m_put 117 p14).bind (fun p20 => (m_put 109 p20).bind (fun p26 => (m_put 32 p26).bind (fun p32 => m_putTerm_B 4096 0 x1 p32)))) else m_putTerm_B 4096 0 x1 μ) else none)
set_option maxHeartbeats 4000000 in
set_option maxRecDepth 100000 in
theorem c_Mod_putTerm {A : Nat → Nat} {f0 : Nat → va_E} {μ : MS} {x1 : Int32} {res : MS} (hM : zMf ck b0 N A f0 f μ) (h : m_putTerm x1 μ = some res) : zK l D ck ad b0 y_Mod_putTerm prog_10_method_50_code 2 (none) 2 0 0 [.ref (A 38), .int x1] N f (fun r N' f' => r = none ∧ N = N' ∧ zMf ck b0 N A f0 f' res) := by
  refine zM.of zG_w (by decide) (Nat.le_of_ble_eq_true rfl) ?_
  intro zp ze zst zm zar zbe zme zc X hnm hb0
  have L : ∀ n : Nat, (∀ (x1 : Int32) (f1 : Nat → va_E) (μ : MS), zMf ck b0 N A f0 f1 μ → m_putTerm_B n 0 x1 μ = some res → zW zp l ze (zR 2 0 0) zst zm zar zbe zme zc D zcl b0 2 0 0 (MQ zbe (zQ D zcl b0 (fun r N' f' => r = none ∧ N = N' ∧ zMf ck b0 N A f0 f' res)) zar zst 0 0 (zA b0)) N f1 35 [(0, .ref (A 38)), (1, .int x1)] []) ∧ (∀ (x1 : Int32) (f1 : Nat → va_E) (μ : MS), zMf ck b0 N A f0 f1 μ → m_putTerm_B n 1 x1 μ = some res → zW zp l ze (zR 2 0 0) zst zm zar zbe zme zc D zcl b0 2 0 0 (MQ zbe (zQ D zcl b0 (fun r N' f' => r = none ∧ N = N' ∧ zMf ck b0 N A f0 f' res)) zar zst 0 0 (zA b0)) N f1 82 [(0, .ref (A 38)), (1, .int x1)] []) ∧ (∀ (x1 : Int32) (f1 : Nat → va_E) (μ : MS), zMf ck b0 N A f0 f1 μ → m_putTerm_B n 2 x1 μ = some res → zW zp l ze (zR 2 0 0) zst zm zar zbe zme zc D zcl b0 2 0 0 (MQ zbe (zQ D zcl b0 (fun r N' f' => r = none ∧ N = N' ∧ zMf ck b0 N A f0 f' res)) zar zst 0 0 (zA b0)) N f1 99 [(0, .ref (A 38)), (1, .int x1)] []) := by
    intro n
    induction n with
    | zero =>
      exact ⟨fun _ _ _ _ h => (by rw [m_putTerm_B] at h; cases h), fun _ _ _ _ h => (by rw [m_putTerm_B] at h; cases h), fun _ _ _ _ h => (by rw [m_putTerm_B] at h; cases h)⟩
    | succ n ih =>
      refine ⟨?_, ?_, ?_⟩
      · intro x1 f1 μ hM h
        rw [m_putTerm_b0] at h
        refine z_aload_n X d_Mod_putTerm_35 rfl ?_
        refine z_get X (v := .ref (A 6)) d_Mod_putTerm_36 (hM.lo 38 (by decide)) hM.ob cl_Mod in_Mod 6 (by decide) fl_Mod_13 rfl rfl ?_
        refine z_iload_n X d_Mod_putTerm_39 rfl ?_
        obtain ⟨b40, h⟩ := gd h
        refine z_iald X (g := (μ.2.1 6)) d_Mod_putTerm_40 (hM.lo 6 (by decide)) (hM.iA 6 800 rfl) (t0 := 0) rfl (vp_of b40) ?_
        refine z_bipush X d_Mod_putTerm_41 (v := 14) (by decide) ?_
        refine z_icmp_ne X 82 d_Mod_putTerm_43 (by decide) (fun h43 => ?_) (fun h43 => ?_)
        · skip
          have h := (if_neg h43).symm.trans h
          refine zW.pick [0, 1] (lv' := [(0, .ref (A 38)), (1, .int x1)]) rfl ?_
          exact (ih).2.1 x1 _ _ hM h
        · skip
          have h := (if_pos h43).symm.trans h
          refine z_aload_n X d_Mod_putTerm_46 rfl ?_
          refine z_bipush X d_Mod_putTerm_47 (v := 99) (by decide) ?_
          obtain ⟨p49, q49, h⟩ := bd h
          refine z_callV X zG_ok (c_Mod_put hM q49) d_Mod_putTerm_49 ⟨(z_cb (n := 1) X.2.2.2.2.1 ml_Mod_244 mc_Mod_put ini_Mod (by decide +kernel) rfl rfl ⟨Nat.le_of_ble_eq_true rfl, Nat.le_of_ble_eq_true rfl⟩), X.2.2.2.2.1 _ im_Mod_put, X.2.2.2.2.1 _ sel_Mod_put⟩ (hM.lo 38 (by decide)) hM.ob cl_Mod rfl rfl (Nat.le_of_ble_eq_true rfl) ⟨Nat.le_of_ble_eq_true rfl, Nat.le_of_ble_eq_true rfl⟩ (fun r N1 f1 hp hN1 => ?_)
          obtain ⟨rfl, rfl, hM⟩ := hp
          refine z_aload_n X d_Mod_putTerm_52 rfl ?_
          refine z_bipush X d_Mod_putTerm_53 (v := 111) (by decide) ?_
          obtain ⟨p55, q55, h⟩ := bd h
          refine z_callV X zG_ok (c_Mod_put hM q55) d_Mod_putTerm_55 ⟨(z_cb (n := 1) X.2.2.2.2.1 ml_Mod_244 mc_Mod_put ini_Mod (by decide +kernel) rfl rfl ⟨Nat.le_of_ble_eq_true rfl, Nat.le_of_ble_eq_true rfl⟩), X.2.2.2.2.1 _ im_Mod_put, X.2.2.2.2.1 _ sel_Mod_put⟩ (hM.lo 38 (by decide)) hM.ob cl_Mod rfl rfl (Nat.le_of_ble_eq_true rfl) ⟨Nat.le_of_ble_eq_true rfl, Nat.le_of_ble_eq_true rfl⟩ (fun r N1 f1 hp hN1 => ?_)
          obtain ⟨rfl, rfl, hM⟩ := hp
          refine z_aload_n X d_Mod_putTerm_58 rfl ?_
          refine z_bipush X d_Mod_putTerm_59 (v := 117) (by decide) ?_
          obtain ⟨p61, q61, h⟩ := bd h
          refine z_callV X zG_ok (c_Mod_put hM q61) d_Mod_putTerm_61 ⟨(z_cb (n := 1) X.2.2.2.2.1 ml_Mod_244 mc_Mod_put ini_Mod (by decide +kernel) rfl rfl ⟨Nat.le_of_ble_eq_true rfl, Nat.le_of_ble_eq_true rfl⟩), X.2.2.2.2.1 _ im_Mod_put, X.2.2.2.2.1 _ sel_Mod_put⟩ (hM.lo 38 (by decide)) hM.ob cl_Mod rfl rfl (Nat.le_of_ble_eq_true rfl) ⟨Nat.le_of_ble_eq_true rfl, Nat.le_of_ble_eq_true rfl⟩ (fun r N1 f1 hp hN1 => ?_)
          obtain ⟨rfl, rfl, hM⟩ := hp
          refine z_aload_n X d_Mod_putTerm_64 rfl ?_
          refine z_bipush X d_Mod_putTerm_65 (v := 110) (by decide) ?_
          obtain ⟨p67, q67, h⟩ := bd h
          refine z_callV X zG_ok (c_Mod_put hM q67) d_Mod_putTerm_67 ⟨(z_cb (n := 1) X.2.2.2.2.1 ml_Mod_244 mc_Mod_put ini_Mod (by decide +kernel) rfl rfl ⟨Nat.le_of_ble_eq_true rfl, Nat.le_of_ble_eq_true rfl⟩), X.2.2.2.2.1 _ im_Mod_put, X.2.2.2.2.1 _ sel_Mod_put⟩ (hM.lo 38 (by decide)) hM.ob cl_Mod rfl rfl (Nat.le_of_ble_eq_true rfl) ⟨Nat.le_of_ble_eq_true rfl, Nat.le_of_ble_eq_true rfl⟩ (fun r N1 f1 hp hN1 => ?_)
          obtain ⟨rfl, rfl, hM⟩ := hp
          refine z_aload_n X d_Mod_putTerm_70 rfl ?_
          refine z_bipush X d_Mod_putTerm_71 (v := 116) (by decide) ?_
          obtain ⟨p73, q73, h⟩ := bd h
          refine z_callV X zG_ok (c_Mod_put hM q73) d_Mod_putTerm_73 ⟨(z_cb (n := 1) X.2.2.2.2.1 ml_Mod_244 mc_Mod_put ini_Mod (by decide +kernel) rfl rfl ⟨Nat.le_of_ble_eq_true rfl, Nat.le_of_ble_eq_true rfl⟩), X.2.2.2.2.1 _ im_Mod_put, X.2.2.2.2.1 _ sel_Mod_put⟩ (hM.lo 38 (by decide)) hM.ob cl_Mod rfl rfl (Nat.le_of_ble_eq_true rfl) ⟨Nat.le_of_ble_eq_true rfl, Nat.le_of_ble_eq_true rfl⟩ (fun r N1 f1 hp hN1 => ?_)
          obtain ⟨rfl, rfl, hM⟩ := hp
          refine z_aload_n X d_Mod_putTerm_76 rfl ?_
          refine z_bipush X d_Mod_putTerm_77 (v := 32) (by decide) ?_
          obtain ⟨p79, q79, h⟩ := bd h
          refine z_callV X zG_ok (c_Mod_put hM q79) d_Mod_putTerm_79 ⟨(z_cb (n := 1) X.2.2.2.2.1 ml_Mod_244 mc_Mod_put ini_Mod (by decide +kernel) rfl rfl ⟨Nat.le_of_ble_eq_true rfl, Nat.le_of_ble_eq_true rfl⟩), X.2.2.2.2.1 _ im_Mod_put, X.2.2.2.2.1 _ sel_Mod_put⟩ (hM.lo 38 (by decide)) hM.ob cl_Mod rfl rfl (Nat.le_of_ble_eq_true rfl) ⟨Nat.le_of_ble_eq_true rfl, Nat.le_of_ble_eq_true rfl⟩ (fun r N1 f1 hp hN1 => ?_)
          obtain ⟨rfl, rfl, hM⟩ := hp
          refine zW.pick [0, 1] (lv' := [(0, .ref (A 38)), (1, .int x1)]) rfl ?_
          exact (ih).2.1 x1 _ _ hM h
      · intro x1 f1 μ hM h
        rw [m_putTerm_b1] at h
        refine z_aload_n X d_Mod_putTerm_82 rfl ?_
        refine z_get X (v := .ref (A 6)) d_Mod_putTerm_83 (hM.lo 38 (by decide)) hM.ob cl_Mod in_Mod 6 (by decide) fl_Mod_13 rfl rfl ?_
        refine z_iload_n X d_Mod_putTerm_86 rfl ?_
        obtain ⟨b87, h⟩ := gd h
        refine z_iald X (g := (μ.2.1 6)) d_Mod_putTerm_87 (hM.lo 6 (by decide)) (hM.iA 6 800 rfl) (t0 := 0) rfl (vp_of b87) ?_
        refine z_bipush X d_Mod_putTerm_88 (v := 11) (by decide) ?_
        refine z_icmp_le X 99 d_Mod_putTerm_90 (by decide) (fun h90 => ?_) (fun h90 => ?_)
        · skip
          have h := (if_pos h90).symm.trans h
          refine zW.pick [0, 1] (lv' := [(0, .ref (A 38)), (1, .int x1)]) rfl ?_
          exact (ih).2.2 x1 _ _ hM h
        · skip
          have h := (if_neg h90).symm.trans h
          refine z_aload_n X d_Mod_putTerm_93 rfl ?_
          refine z_bipush X d_Mod_putTerm_94 (v := 102) (by decide) ?_
          obtain ⟨p96, q96, h⟩ := bd h
          refine z_callV X zG_ok (c_Mod_put hM q96) d_Mod_putTerm_96 ⟨(z_cb (n := 1) X.2.2.2.2.1 ml_Mod_244 mc_Mod_put ini_Mod (by decide +kernel) rfl rfl ⟨Nat.le_of_ble_eq_true rfl, Nat.le_of_ble_eq_true rfl⟩), X.2.2.2.2.1 _ im_Mod_put, X.2.2.2.2.1 _ sel_Mod_put⟩ (hM.lo 38 (by decide)) hM.ob cl_Mod rfl rfl (Nat.le_of_ble_eq_true rfl) ⟨Nat.le_of_ble_eq_true rfl, Nat.le_of_ble_eq_true rfl⟩ (fun r N1 f1 hp hN1 => ?_)
          obtain ⟨rfl, rfl, hM⟩ := hp
          refine zW.pick [0, 1] (lv' := [(0, .ref (A 38)), (1, .int x1)]) rfl ?_
          exact (ih).2.2 x1 _ _ hM h
      · intro x1 f1 μ hM h
        rw [m_putTerm_b2] at h
        refine z_aload_n X d_Mod_putTerm_99 rfl ?_
        refine z_aload_n X d_Mod_putTerm_100 rfl ?_
        refine z_get X (v := .ref (A 7)) d_Mod_putTerm_101 (hM.lo 38 (by decide)) hM.ob cl_Mod in_Mod 7 (by decide) fl_Mod_16 rfl rfl ?_
        refine z_iload_n X d_Mod_putTerm_104 rfl ?_
        obtain ⟨b105, h⟩ := gd h
        refine z_iald X (g := (μ.2.1 7)) d_Mod_putTerm_105 (hM.lo 7 (by decide)) (hM.iA 7 800 rfl) (t0 := 0) rfl (vp_of b105) ?_
        obtain ⟨p106, q106, h⟩ := bd h
        refine z_callV X zG_ok (c_Mod_putNumber hM q106) d_Mod_putTerm_106 ⟨(z_cb (n := 1) X.2.2.2.2.1 ml_Mod_247 mc_Mod_putNumber ini_Mod (by decide +kernel) rfl rfl ⟨Nat.le_of_ble_eq_true rfl, Nat.le_of_ble_eq_true rfl⟩), X.2.2.2.2.1 _ im_Mod_putNumber, X.2.2.2.2.1 _ sel_Mod_putNumber⟩ (hM.lo 38 (by decide)) hM.ob cl_Mod rfl rfl (Nat.le_of_ble_eq_true rfl) ⟨Nat.le_of_ble_eq_true rfl, Nat.le_of_ble_eq_true rfl⟩ (fun r N1 f1 hp hN1 => ?_)
        obtain ⟨rfl, rfl, hM⟩ := hp
        have e9 := Option.some.inj h
        subst e9
        exact z_vret X d_Mod_putTerm_109 ⟨rfl, rfl, hM⟩
  rw [m_putTerm] at h
  refine z_aload_n X d_Mod_putTerm_0 rfl ?_
  refine z_get X (v := .ref (A 6)) d_Mod_putTerm_1 (hM.lo 38 (by decide)) hM.ob cl_Mod in_Mod 6 (by decide) fl_Mod_13 rfl rfl ?_
  refine z_iload_n X d_Mod_putTerm_4 rfl ?_
  obtain ⟨b5, h⟩ := gd h
  refine z_iald X (g := (μ.2.1 6)) d_Mod_putTerm_5 (hM.lo 6 (by decide)) (hM.iA 6 800 rfl) (t0 := 0) rfl (vp_of b5) ?_
  refine z_bipush X d_Mod_putTerm_6 (v := 13) (by decide) ?_
  refine z_icmp_ne X 35 d_Mod_putTerm_8 (by decide) (fun h8 => ?_) (fun h8 => ?_)
  · skip
    have h := (if_neg h8).symm.trans h
    refine zW.pick [0, 1] (lv' := [(0, .ref (A 38)), (1, .int x1)]) rfl ?_
    exact (L 4096).1 x1 _ _ hM h
  · skip
    have h := (if_pos h8).symm.trans h
    refine z_aload_n X d_Mod_putTerm_11 rfl ?_
    refine z_bipush X d_Mod_putTerm_12 (v := 115) (by decide) ?_
    obtain ⟨p14, q14, h⟩ := bd h
    refine z_callV X zG_ok (c_Mod_put hM q14) d_Mod_putTerm_14 ⟨(z_cb (n := 1) X.2.2.2.2.1 ml_Mod_244 mc_Mod_put ini_Mod (by decide +kernel) rfl rfl ⟨Nat.le_of_ble_eq_true rfl, Nat.le_of_ble_eq_true rfl⟩), X.2.2.2.2.1 _ im_Mod_put, X.2.2.2.2.1 _ sel_Mod_put⟩ (hM.lo 38 (by decide)) hM.ob cl_Mod rfl rfl (Nat.le_of_ble_eq_true rfl) ⟨Nat.le_of_ble_eq_true rfl, Nat.le_of_ble_eq_true rfl⟩ (fun r N1 f1 hp hN1 => ?_)
    obtain ⟨rfl, rfl, hM⟩ := hp
    refine z_aload_n X d_Mod_putTerm_17 rfl ?_
    refine z_bipush X d_Mod_putTerm_18 (v := 117) (by decide) ?_
    obtain ⟨p20, q20, h⟩ := bd h
    refine z_callV X zG_ok (c_Mod_put hM q20) d_Mod_putTerm_20 ⟨(z_cb (n := 1) X.2.2.2.2.1 ml_Mod_244 mc_Mod_put ini_Mod (by decide +kernel) rfl rfl ⟨Nat.le_of_ble_eq_true rfl, Nat.le_of_ble_eq_true rfl⟩), X.2.2.2.2.1 _ im_Mod_put, X.2.2.2.2.1 _ sel_Mod_put⟩ (hM.lo 38 (by decide)) hM.ob cl_Mod rfl rfl (Nat.le_of_ble_eq_true rfl) ⟨Nat.le_of_ble_eq_true rfl, Nat.le_of_ble_eq_true rfl⟩ (fun r N1 f1 hp hN1 => ?_)
    obtain ⟨rfl, rfl, hM⟩ := hp
    refine z_aload_n X d_Mod_putTerm_23 rfl ?_
    refine z_bipush X d_Mod_putTerm_24 (v := 109) (by decide) ?_
    obtain ⟨p26, q26, h⟩ := bd h
    refine z_callV X zG_ok (c_Mod_put hM q26) d_Mod_putTerm_26 ⟨(z_cb (n := 1) X.2.2.2.2.1 ml_Mod_244 mc_Mod_put ini_Mod (by decide +kernel) rfl rfl ⟨Nat.le_of_ble_eq_true rfl, Nat.le_of_ble_eq_true rfl⟩), X.2.2.2.2.1 _ im_Mod_put, X.2.2.2.2.1 _ sel_Mod_put⟩ (hM.lo 38 (by decide)) hM.ob cl_Mod rfl rfl (Nat.le_of_ble_eq_true rfl) ⟨Nat.le_of_ble_eq_true rfl, Nat.le_of_ble_eq_true rfl⟩ (fun r N1 f1 hp hN1 => ?_)
    obtain ⟨rfl, rfl, hM⟩ := hp
    refine z_aload_n X d_Mod_putTerm_29 rfl ?_
    refine z_bipush X d_Mod_putTerm_30 (v := 32) (by decide) ?_
    obtain ⟨p32, q32, h⟩ := bd h
    refine z_callV X zG_ok (c_Mod_put hM q32) d_Mod_putTerm_32 ⟨(z_cb (n := 1) X.2.2.2.2.1 ml_Mod_244 mc_Mod_put ini_Mod (by decide +kernel) rfl rfl ⟨Nat.le_of_ble_eq_true rfl, Nat.le_of_ble_eq_true rfl⟩), X.2.2.2.2.1 _ im_Mod_put, X.2.2.2.2.1 _ sel_Mod_put⟩ (hM.lo 38 (by decide)) hM.ob cl_Mod rfl rfl (Nat.le_of_ble_eq_true rfl) ⟨Nat.le_of_ble_eq_true rfl, Nat.le_of_ble_eq_true rfl⟩ (fun r N1 f1 hp hN1 => ?_)
    obtain ⟨rfl, rfl, hM⟩ := hp
    refine zW.pick [0, 1] (lv' := [(0, .ref (A 38)), (1, .int x1)]) rfl ?_
    exact (L 4096).1 x1 _ _ hM h
theorem d_Mod_unfold_0 : decode prog_10_method_51_code 0 = .ok (.aload_n 0, 1) := by decide +kernel
theorem d_Mod_unfold_1 : decode prog_10_method_51_code 1 = .ok (.getfield 13, 3) := by decide +kernel
theorem d_Mod_unfold_4 : decode prog_10_method_51_code 4 = .ok (.iload_n 1, 1) := by decide +kernel
theorem d_Mod_unfold_5 : decode prog_10_method_51_code 5 = .ok (.iaload, 1) := by decide +kernel
theorem d_Mod_unfold_6 : decode prog_10_method_51_code 6 = .ok (.istore 4, 2) := by decide +kernel
theorem d_Mod_unfold_8 : decode prog_10_method_51_code 8 = .ok (.aload_n 0, 1) := by decide +kernel
theorem d_Mod_unfold_9 : decode prog_10_method_51_code 9 = .ok (.getfield 19, 3) := by decide +kernel
theorem d_Mod_unfold_12 : decode prog_10_method_51_code 12 = .ok (.iload_n 1, 1) := by decide +kernel
theorem d_Mod_unfold_13 : decode prog_10_method_51_code 13 = .ok (.iaload, 1) := by decide +kernel
theorem d_Mod_unfold_14 : decode prog_10_method_51_code 14 = .ok (.istore 5, 2) := by decide +kernel
theorem d_Mod_unfold_16 : decode prog_10_method_51_code 16 = .ok (.aload_n 0, 1) := by decide +kernel
theorem d_Mod_unfold_17 : decode prog_10_method_51_code 17 = .ok (.getfield 22, 3) := by decide +kernel
theorem d_Mod_unfold_20 : decode prog_10_method_51_code 20 = .ok (.iload_n 1, 1) := by decide +kernel
theorem d_Mod_unfold_21 : decode prog_10_method_51_code 21 = .ok (.iaload, 1) := by decide +kernel
theorem d_Mod_unfold_22 : decode prog_10_method_51_code 22 = .ok (.istore 6, 2) := by decide +kernel
theorem d_Mod_unfold_24 : decode prog_10_method_51_code 24 = .ok (.iload_n 3, 1) := by decide +kernel
theorem d_Mod_unfold_25 : decode prog_10_method_51_code 25 = .ok (.istore 7, 2) := by decide +kernel
theorem d_Mod_unfold_27 : decode prog_10_method_51_code 27 = .ok (.iload 6, 2) := by decide +kernel
theorem d_Mod_unfold_29 : decode prog_10_method_51_code 29 = .ok (.ifCond .lt 190, 3) := by decide +kernel
theorem d_Mod_unfold_32 : decode prog_10_method_51_code 32 = .ok (.aload_n 0, 1) := by decide +kernel
theorem d_Mod_unfold_33 : decode prog_10_method_51_code 33 = .ok (.getfield 13, 3) := by decide +kernel
theorem d_Mod_unfold_36 : decode prog_10_method_51_code 36 = .ok (.bipush 40, 2) := by decide +kernel
theorem d_Mod_unfold_38 : decode prog_10_method_51_code 38 = .ok (.iload_n 2, 1) := by decide +kernel
theorem d_Mod_unfold_39 : decode prog_10_method_51_code 39 = .ok (.imul, 1) := by decide +kernel
theorem d_Mod_unfold_40 : decode prog_10_method_51_code 40 = .ok (.iload 6, 2) := by decide +kernel
theorem d_Mod_unfold_42 : decode prog_10_method_51_code 42 = .ok (.iadd, 1) := by decide +kernel
theorem d_Mod_unfold_43 : decode prog_10_method_51_code 43 = .ok (.iaload, 1) := by decide +kernel
theorem d_Mod_unfold_44 : decode prog_10_method_51_code 44 = .ok (.istore 8, 2) := by decide +kernel
theorem d_Mod_unfold_46 : decode prog_10_method_51_code 46 = .ok (.iload 4, 2) := by decide +kernel
theorem d_Mod_unfold_48 : decode prog_10_method_51_code 48 = .ok (.iconst 2, 1) := by decide +kernel
theorem d_Mod_unfold_49 : decode prog_10_method_51_code 49 = .ok (.if_icmp .ge 25, 3) := by decide +kernel
theorem d_Mod_unfold_52 : decode prog_10_method_51_code 52 = .ok (.iload 8, 2) := by decide +kernel
theorem d_Mod_unfold_54 : decode prog_10_method_51_code 54 = .ok (.iload 4, 2) := by decide +kernel
theorem d_Mod_unfold_56 : decode prog_10_method_51_code 56 = .ok (.if_icmp .eq 14, 3) := by decide +kernel
theorem d_Mod_unfold_59 : decode prog_10_method_51_code 59 = .ok (.iload 4, 2) := by decide +kernel
theorem d_Mod_unfold_61 : decode prog_10_method_51_code 61 = .ok (.iconst 1, 1) := by decide +kernel
theorem d_Mod_unfold_62 : decode prog_10_method_51_code 62 = .ok (.if_icmp .ne 12, 3) := by decide +kernel
theorem d_Mod_unfold_65 : decode prog_10_method_51_code 65 = .ok (.iload 8, 2) := by decide +kernel
theorem d_Mod_unfold_67 : decode prog_10_method_51_code 67 = .ok (.ifCond .ne 7, 3) := by decide +kernel
theorem d_Mod_unfold_70 : decode prog_10_method_51_code 70 = .ok (.iconst 1, 1) := by decide +kernel
theorem d_Mod_unfold_71 : decode prog_10_method_51_code 71 = .ok (.goto 4, 3) := by decide +kernel
theorem d_Mod_unfold_74 : decode prog_10_method_51_code 74 = .ok (.iconst 0, 1) := by decide +kernel
theorem d_Mod_unfold_75 : decode prog_10_method_51_code 75 = .ok (.istore 9, 2) := by decide +kernel
theorem d_Mod_unfold_77 : decode prog_10_method_51_code 77 = .ok (.iload 9, 2) := by decide +kernel
theorem d_Mod_unfold_79 : decode prog_10_method_51_code 79 = .ok (.ifCond .eq 15, 3) := by decide +kernel
theorem d_Mod_unfold_82 : decode prog_10_method_51_code 82 = .ok (.aload_n 0, 1) := by decide +kernel
theorem d_Mod_unfold_83 : decode prog_10_method_51_code 83 = .ok (.getfield 90, 3) := by decide +kernel
theorem d_Mod_unfold_86 : decode prog_10_method_51_code 86 = .ok (.iload 7, 2) := by decide +kernel
theorem d_Mod_unfold_88 : decode prog_10_method_51_code 88 = .ok (.iinc 7 1, 3) := by decide +kernel
theorem d_Mod_unfold_91 : decode prog_10_method_51_code 91 = .ok (.bipush 41, 2) := by decide +kernel
theorem d_Mod_unfold_93 : decode prog_10_method_51_code 93 = .ok (.iastore, 1) := by decide +kernel
theorem d_Mod_unfold_94 : decode prog_10_method_51_code 94 = .ok (.aload_n 0, 1) := by decide +kernel
theorem d_Mod_unfold_95 : decode prog_10_method_51_code 95 = .ok (.getfield 90, 3) := by decide +kernel
theorem d_Mod_unfold_98 : decode prog_10_method_51_code 98 = .ok (.iload 7, 2) := by decide +kernel
theorem d_Mod_unfold_100 : decode prog_10_method_51_code 100 = .ok (.iinc 7 1, 3) := by decide +kernel
theorem d_Mod_unfold_103 : decode prog_10_method_51_code 103 = .ok (.sipush 1000, 3) := by decide +kernel
theorem d_Mod_unfold_106 : decode prog_10_method_51_code 106 = .ok (.iload 6, 2) := by decide +kernel
theorem d_Mod_unfold_108 : decode prog_10_method_51_code 108 = .ok (.iadd, 1) := by decide +kernel
theorem d_Mod_unfold_109 : decode prog_10_method_51_code 109 = .ok (.iastore, 1) := by decide +kernel
theorem d_Mod_unfold_110 : decode prog_10_method_51_code 110 = .ok (.iload 9, 2) := by decide +kernel
theorem d_Mod_unfold_112 : decode prog_10_method_51_code 112 = .ok (.ifCond .eq 15, 3) := by decide +kernel
theorem d_Mod_unfold_115 : decode prog_10_method_51_code 115 = .ok (.aload_n 0, 1) := by decide +kernel
theorem d_Mod_unfold_116 : decode prog_10_method_51_code 116 = .ok (.getfield 90, 3) := by decide +kernel
theorem d_Mod_unfold_119 : decode prog_10_method_51_code 119 = .ok (.iload 7, 2) := by decide +kernel
theorem d_Mod_unfold_121 : decode prog_10_method_51_code 121 = .ok (.iinc 7 1, 3) := by decide +kernel
theorem d_Mod_unfold_124 : decode prog_10_method_51_code 124 = .ok (.bipush 40, 2) := by decide +kernel
theorem d_Mod_unfold_126 : decode prog_10_method_51_code 126 = .ok (.iastore, 1) := by decide +kernel
theorem d_Mod_unfold_127 : decode prog_10_method_51_code 127 = .ok (.aload_n 0, 1) := by decide +kernel
theorem d_Mod_unfold_128 : decode prog_10_method_51_code 128 = .ok (.getfield 90, 3) := by decide +kernel
theorem d_Mod_unfold_131 : decode prog_10_method_51_code 131 = .ok (.iload 7, 2) := by decide +kernel
theorem d_Mod_unfold_133 : decode prog_10_method_51_code 133 = .ok (.iinc 7 1, 3) := by decide +kernel
theorem d_Mod_unfold_136 : decode prog_10_method_51_code 136 = .ok (.iload 4, 2) := by decide +kernel
theorem d_Mod_unfold_138 : decode prog_10_method_51_code 138 = .ok (.ifCond .ne 8, 3) := by decide +kernel
theorem d_Mod_unfold_141 : decode prog_10_method_51_code 141 = .ok (.bipush 124, 2) := by decide +kernel
theorem d_Mod_unfold_143 : decode prog_10_method_51_code 143 = .ok (.goto 75, 3) := by decide +kernel
theorem d_Mod_unfold_146 : decode prog_10_method_51_code 146 = .ok (.iload 4, 2) := by decide +kernel
theorem d_Mod_unfold_148 : decode prog_10_method_51_code 148 = .ok (.iconst 1, 1) := by decide +kernel
theorem d_Mod_unfold_149 : decode prog_10_method_51_code 149 = .ok (.if_icmp .ne 8, 3) := by decide +kernel
theorem d_Mod_unfold_152 : decode prog_10_method_51_code 152 = .ok (.bipush 38, 2) := by decide +kernel
theorem d_Mod_unfold_154 : decode prog_10_method_51_code 154 = .ok (.goto 64, 3) := by decide +kernel
theorem d_Mod_unfold_157 : decode prog_10_method_51_code 157 = .ok (.iload 4, 2) := by decide +kernel
theorem d_Mod_unfold_159 : decode prog_10_method_51_code 159 = .ok (.iconst 5, 1) := by decide +kernel
theorem d_Mod_unfold_160 : decode prog_10_method_51_code 160 = .ok (.if_icmp .ne 8, 3) := by decide +kernel
theorem d_Mod_unfold_163 : decode prog_10_method_51_code 163 = .ok (.bipush 60, 2) := by decide +kernel
theorem d_Mod_unfold_165 : decode prog_10_method_51_code 165 = .ok (.goto 53, 3) := by decide +kernel
theorem d_Mod_unfold_168 : decode prog_10_method_51_code 168 = .ok (.iload 4, 2) := by decide +kernel
theorem d_Mod_unfold_170 : decode prog_10_method_51_code 170 = .ok (.bipush 6, 2) := by decide +kernel
theorem d_Mod_unfold_172 : decode prog_10_method_51_code 172 = .ok (.if_icmp .ne 8, 3) := by decide +kernel
theorem d_Mod_unfold_175 : decode prog_10_method_51_code 175 = .ok (.bipush 62, 2) := by decide +kernel
theorem d_Mod_unfold_177 : decode prog_10_method_51_code 177 = .ok (.goto 41, 3) := by decide +kernel
theorem d_Mod_unfold_180 : decode prog_10_method_51_code 180 = .ok (.iload 4, 2) := by decide +kernel
theorem d_Mod_unfold_182 : decode prog_10_method_51_code 182 = .ok (.bipush 7, 2) := by decide +kernel
theorem d_Mod_unfold_184 : decode prog_10_method_51_code 184 = .ok (.if_icmp .ne 8, 3) := by decide +kernel
theorem d_Mod_unfold_187 : decode prog_10_method_51_code 187 = .ok (.bipush 61, 2) := by decide +kernel
theorem d_Mod_unfold_189 : decode prog_10_method_51_code 189 = .ok (.goto 29, 3) := by decide +kernel
theorem d_Mod_unfold_192 : decode prog_10_method_51_code 192 = .ok (.iload 4, 2) := by decide +kernel
theorem d_Mod_unfold_194 : decode prog_10_method_51_code 194 = .ok (.bipush 8, 2) := by decide +kernel
theorem d_Mod_unfold_196 : decode prog_10_method_51_code 196 = .ok (.if_icmp .ne 8, 3) := by decide +kernel
theorem d_Mod_unfold_199 : decode prog_10_method_51_code 199 = .ok (.bipush 35, 2) := by decide +kernel
theorem d_Mod_unfold_201 : decode prog_10_method_51_code 201 = .ok (.goto 17, 3) := by decide +kernel
theorem d_Mod_unfold_204 : decode prog_10_method_51_code 204 = .ok (.iload 4, 2) := by decide +kernel
theorem d_Mod_unfold_206 : decode prog_10_method_51_code 206 = .ok (.bipush 9, 2) := by decide +kernel
theorem d_Mod_unfold_208 : decode prog_10_method_51_code 208 = .ok (.if_icmp .ne 8, 3) := by decide +kernel
theorem d_Mod_unfold_211 : decode prog_10_method_51_code 211 = .ok (.bipush 43, 2) := by decide +kernel
theorem d_Mod_unfold_213 : decode prog_10_method_51_code 213 = .ok (.goto 5, 3) := by decide +kernel
theorem d_Mod_unfold_216 : decode prog_10_method_51_code 216 = .ok (.bipush 45, 2) := by decide +kernel
theorem d_Mod_unfold_218 : decode prog_10_method_51_code 218 = .ok (.iastore, 1) := by decide +kernel
theorem d_Mod_unfold_219 : decode prog_10_method_51_code 219 = .ok (.aload_n 0, 1) := by decide +kernel
theorem d_Mod_unfold_220 : decode prog_10_method_51_code 220 = .ok (.getfield 13, 3) := by decide +kernel
theorem d_Mod_unfold_223 : decode prog_10_method_51_code 223 = .ok (.bipush 40, 2) := by decide +kernel
theorem d_Mod_unfold_225 : decode prog_10_method_51_code 225 = .ok (.iload_n 2, 1) := by decide +kernel
theorem d_Mod_unfold_226 : decode prog_10_method_51_code 226 = .ok (.imul, 1) := by decide +kernel
theorem d_Mod_unfold_227 : decode prog_10_method_51_code 227 = .ok (.iload 5, 2) := by decide +kernel
theorem d_Mod_unfold_229 : decode prog_10_method_51_code 229 = .ok (.iadd, 1) := by decide +kernel
theorem d_Mod_unfold_230 : decode prog_10_method_51_code 230 = .ok (.iaload, 1) := by decide +kernel
theorem d_Mod_unfold_231 : decode prog_10_method_51_code 231 = .ok (.istore 8, 2) := by decide +kernel
theorem d_Mod_unfold_233 : decode prog_10_method_51_code 233 = .ok (.iload 4, 2) := by decide +kernel
theorem d_Mod_unfold_235 : decode prog_10_method_51_code 235 = .ok (.iconst 1, 1) := by decide +kernel
theorem d_Mod_unfold_236 : decode prog_10_method_51_code 236 = .ok (.if_icmp .ne 8, 3) := by decide +kernel
theorem d_Mod_unfold_239 : decode prog_10_method_51_code 239 = .ok (.iload 8, 2) := by decide +kernel
theorem d_Mod_unfold_241 : decode prog_10_method_51_code 241 = .ok (.ifCond .eq 27, 3) := by decide +kernel
theorem d_Mod_unfold_244 : decode prog_10_method_51_code 244 = .ok (.iload 4, 2) := by decide +kernel
theorem d_Mod_unfold_246 : decode prog_10_method_51_code 246 = .ok (.iconst 2, 1) := by decide +kernel
theorem d_Mod_unfold_247 : decode prog_10_method_51_code 247 = .ok (.if_icmp .ne 9, 3) := by decide +kernel
theorem d_Mod_unfold_250 : decode prog_10_method_51_code 250 = .ok (.iload 8, 2) := by decide +kernel
theorem d_Mod_unfold_252 : decode prog_10_method_51_code 252 = .ok (.iconst 2, 1) := by decide +kernel
theorem d_Mod_unfold_253 : decode prog_10_method_51_code 253 = .ok (.if_icmp .lt 15, 3) := by decide +kernel
theorem d_Mod_unfold_256 : decode prog_10_method_51_code 256 = .ok (.iload 4, 2) := by decide +kernel
theorem d_Mod_unfold_258 : decode prog_10_method_51_code 258 = .ok (.iconst 3, 1) := by decide +kernel
theorem d_Mod_unfold_259 : decode prog_10_method_51_code 259 = .ok (.if_icmp .eq 9, 3) := by decide +kernel
theorem d_Mod_unfold_262 : decode prog_10_method_51_code 262 = .ok (.iload 4, 2) := by decide +kernel
theorem d_Mod_unfold_264 : decode prog_10_method_51_code 264 = .ok (.iconst 4, 1) := by decide +kernel
theorem d_Mod_unfold_265 : decode prog_10_method_51_code 265 = .ok (.if_icmp .ne 7, 3) := by decide +kernel
theorem d_Mod_unfold_268 : decode prog_10_method_51_code 268 = .ok (.iconst 1, 1) := by decide +kernel
theorem d_Mod_unfold_269 : decode prog_10_method_51_code 269 = .ok (.goto 4, 3) := by decide +kernel
theorem d_Mod_unfold_272 : decode prog_10_method_51_code 272 = .ok (.iconst 0, 1) := by decide +kernel
theorem d_Mod_unfold_273 : decode prog_10_method_51_code 273 = .ok (.istore 9, 2) := by decide +kernel
theorem d_Mod_unfold_275 : decode prog_10_method_51_code 275 = .ok (.iload 9, 2) := by decide +kernel
theorem d_Mod_unfold_277 : decode prog_10_method_51_code 277 = .ok (.ifCond .eq 15, 3) := by decide +kernel
theorem d_Mod_unfold_280 : decode prog_10_method_51_code 280 = .ok (.aload_n 0, 1) := by decide +kernel
theorem d_Mod_unfold_281 : decode prog_10_method_51_code 281 = .ok (.getfield 90, 3) := by decide +kernel
theorem d_Mod_unfold_284 : decode prog_10_method_51_code 284 = .ok (.iload 7, 2) := by decide +kernel
theorem d_Mod_unfold_286 : decode prog_10_method_51_code 286 = .ok (.iinc 7 1, 3) := by decide +kernel
theorem d_Mod_unfold_289 : decode prog_10_method_51_code 289 = .ok (.bipush 41, 2) := by decide +kernel
theorem d_Mod_unfold_291 : decode prog_10_method_51_code 291 = .ok (.iastore, 1) := by decide +kernel
theorem d_Mod_unfold_292 : decode prog_10_method_51_code 292 = .ok (.aload_n 0, 1) := by decide +kernel
theorem d_Mod_unfold_293 : decode prog_10_method_51_code 293 = .ok (.getfield 90, 3) := by decide +kernel
theorem d_Mod_unfold_296 : decode prog_10_method_51_code 296 = .ok (.iload 7, 2) := by decide +kernel
theorem d_Mod_unfold_298 : decode prog_10_method_51_code 298 = .ok (.iinc 7 1, 3) := by decide +kernel
theorem d_Mod_unfold_301 : decode prog_10_method_51_code 301 = .ok (.sipush 1000, 3) := by decide +kernel
theorem d_Mod_unfold_304 : decode prog_10_method_51_code 304 = .ok (.iload 5, 2) := by decide +kernel
theorem d_Mod_unfold_306 : decode prog_10_method_51_code 306 = .ok (.iadd, 1) := by decide +kernel
theorem d_Mod_unfold_307 : decode prog_10_method_51_code 307 = .ok (.iastore, 1) := by decide +kernel
theorem d_Mod_unfold_308 : decode prog_10_method_51_code 308 = .ok (.iload 9, 2) := by decide +kernel
theorem d_Mod_unfold_310 : decode prog_10_method_51_code 310 = .ok (.ifCond .eq 15, 3) := by decide +kernel
theorem d_Mod_unfold_313 : decode prog_10_method_51_code 313 = .ok (.aload_n 0, 1) := by decide +kernel
theorem d_Mod_unfold_314 : decode prog_10_method_51_code 314 = .ok (.getfield 90, 3) := by decide +kernel
theorem d_Mod_unfold_317 : decode prog_10_method_51_code 317 = .ok (.iload 7, 2) := by decide +kernel
theorem d_Mod_unfold_319 : decode prog_10_method_51_code 319 = .ok (.iinc 7 1, 3) := by decide +kernel
theorem d_Mod_unfold_322 : decode prog_10_method_51_code 322 = .ok (.bipush 40, 2) := by decide +kernel
theorem d_Mod_unfold_324 : decode prog_10_method_51_code 324 = .ok (.iastore, 1) := by decide +kernel
theorem d_Mod_unfold_325 : decode prog_10_method_51_code 325 = .ok (.iload 7, 2) := by decide +kernel
theorem d_Mod_unfold_327 : decode prog_10_method_51_code 327 = .ok (.ireturn, 1) := by decide +kernel
def m_unfold_B : Nat → Nat → Int32 → Int32 → Int32 → Int32 → Int32 → Int32 → Int32 → Int32 → Int32 → MS → Option (Int32 × MS)
  | 0, _, _, _, _, _, _, _, _, _, _, _ => none
  | n + 1, b, x2, x4, x5, x6, x7, x8, x9, y0, y1, μ => if b = 0 then m_unfold_B n 2 x2 x4 x5 x6 x7 0 0 1 0 μ
    else if b = 1 then m_unfold_B n 2 x2 x4 x5 x6 x7 0 0 0 0 μ
    else if b = 2 then (if y0 = 0 then m_unfold_B n 3 x2 x4 x5 x6 x7 0 y0 0 0 μ else (if inb x7 400 = true then m_unfold_B n 3 x2 x4 x5 x6 (x7 + 1) 0 y0 0 0 (sA 37 (x7.toNatClampNeg) 41 μ) else none))
    else if b = 3 then (if inb x7 400 = true then (if x9 = 0 then m_unfold_B n 4 x2 x4 x5 0 (x7 + 1) 0 0 0 0 (sA 37 (x7.toNatClampNeg) (1000 + x6) μ) else (if inb (x7 + 1) 400 = true then m_unfold_B n 4 x2 x4 x5 0 ((x7 + 1) + 1) 0 0 0 0 (sA 37 ((x7 + 1).toNatClampNeg) 40 (sA 37 (x7.toNatClampNeg) (1000 + x6) μ)) else none)) else none)
    else if b = 4 then (if x4 = 0 then m_unfold_B n 5 x2 x4 x5 0 (x7 + 1) 0 0 x7 124 μ else (if x4 = 1 then m_unfold_B n 5 x2 x4 x5 0 (x7 + 1) 0 0 x7 38 μ else (if x4 = 5 then m_unfold_B n 5 x2 x4 x5 0 (x7 + 1) 0 0 x7 60 μ else (if x4 = 6 then m_unfold_B n 5 x2 x4 x5 0 (x7 + 1) 0 0 x7 62 μ else (if x4 = 7 then m_unfold_B n 5 x2 x4 x5 0 (x7 + 1) 0 0 x7 61 μ else (if x4 = 8 then m_unfold_B n 5 x2 x4 x5 0 (x7 + 1) 0 0 x7 35 μ else (if x4 = 9 then m_unfold_B n 5 x2 x4 x5 0 (x7 + 1) 0 0 x7 43 μ else m_unfold_B n 5 x2 x4 x5 0 (x7 + 1) 0 0 x7 45 μ)))))))
    else if b = 5 then (if inb y0 400 = true then m_unfold_B n 6 x2 x4 x5 0 x7 0 0 0 0 (sA 37 (y0.toNatClampNeg) y1 μ) else none)
    else if b = 6 then (if inb ((40 * x2) + x5) 800 = true then (if x4 = 1 then (if ((μ.2.1 6) ((40 * x2) + x5).toNatClampNeg) = 0 then m_unfold_B n 9 0 0 x5 0 x7 0 0 0 0 μ else m_unfold_B n 7 0 x4 x5 0 x7 ((μ.2.1 6) ((40 * x2) + x5).toNatClampNeg) 0 0 0 μ) else m_unfold_B n 7 0 x4 x5 0 x7 ((μ.2.1 6) ((40 * x2) + x5).toNatClampNeg) 0 0 0 μ) else none)
    else if b = 7 then (if x4 = 2 then (if x8 < 2 then m_unfold_B n 9 0 0 x5 0 x7 0 0 0 0 μ else m_unfold_B n 8 0 x4 x5 0 x7 0 0 0 0 μ) else m_unfold_B n 8 0 x4 x5 0 x7 0 0 0 0 μ)
    else if b = 8 then (if x4 = 3 then m_unfold_B n 9 0 0 x5 0 x7 0 0 0 0 μ else (if x4 = 4 then m_unfold_B n 9 0 0 x5 0 x7 0 0 0 0 μ else m_unfold_B n 10 0 0 x5 0 x7 0 0 0 0 μ))
    else if b = 9 then m_unfold_B n 10 0 0 x5 0 x7 0 0 1 0 μ
    else if b = 10 then (if y0 = 0 then m_unfold_B n 11 0 0 x5 0 x7 0 y0 0 0 μ else (if inb x7 400 = true then m_unfold_B n 11 0 0 x5 0 (x7 + 1) 0 y0 0 0 (sA 37 (x7.toNatClampNeg) 41 μ) else none))
    else if b = 11 then (if inb x7 400 = true then (if x9 = 0 then m_unfold_B n 12 0 0 0 0 (x7 + 1) 0 0 0 0 (sA 37 (x7.toNatClampNeg) (1000 + x5) μ) else (if inb (x7 + 1) 400 = true then m_unfold_B n 12 0 0 0 0 ((x7 + 1) + 1) 0 0 0 0 (sA 37 ((x7 + 1).toNatClampNeg) 40 (sA 37 (x7.toNatClampNeg) (1000 + x5) μ)) else none)) else none)
    else some (x7, μ)
theorem m_unfold_b0 (n : Nat) (x2 : Int32) (x4 : Int32) (x5 : Int32) (x6 : Int32) (x7 : Int32) (x8 : Int32) (x9 : Int32) (y0 : Int32) (y1 : Int32) (μ : MS) : m_unfold_B (n + 1) 0 x2 x4 x5 x6 x7 x8 x9 y0 y1 μ = m_unfold_B n 2 x2 x4 x5 x6 x7 0 0 1 0 μ := by
  rw [m_unfold_B, if_pos rfl]
theorem m_unfold_b1 (n : Nat) (x2 : Int32) (x4 : Int32) (x5 : Int32) (x6 : Int32) (x7 : Int32) (x8 : Int32) (x9 : Int32) (y0 : Int32) (y1 : Int32) (μ : MS) : m_unfold_B (n + 1) 1 x2 x4 x5 x6 x7 x8 x9 y0 y1 μ = m_unfold_B n 2 x2 x4 x5 x6 x7 0 0 0 0 μ := by
  rw [m_unfold_B, if_neg (by decide), if_pos rfl]
theorem m_unfold_b2 (n : Nat) (x2 : Int32) (x4 : Int32) (x5 : Int32) (x6 : Int32) (x7 : Int32) (x8 : Int32) (x9 : Int32) (y0 : Int32) (y1 : Int32) (μ : MS) : m_unfold_B (n + 1) 2 x2 x4 x5 x6 x7 x8 x9 y0 y1 μ = (if y0 = 0 then m_unfold_B n 3 x2 x4 x5 x6 x7 0 y0 0 0 μ else (if inb x7 400 = true then m_unfold_B n 3 x2 x4 x5 x6 (x7 + 1) 0 y0 0 0 (sA 37 (x7.toNatClampNeg) 41 μ) else none)) := by
  rw [m_unfold_B, if_neg (by decide), if_neg (by decide), if_pos rfl]
theorem m_unfold_b3 (n : Nat) (x2 : Int32) (x4 : Int32) (x5 : Int32) (x6 : Int32) (x7 : Int32) (x8 : Int32) (x9 : Int32) (y0 : Int32) (y1 : Int32) (μ : MS) : m_unfold_B (n + 1) 3 x2 x4 x5 x6 x7 x8 x9 y0 y1 μ = (if inb x7 400 = true then (if x9 = 0 then m_unfold_B n 4 x2 x4 x5 0 (x7 + 1) 0 0 0 0 (sA 37 (x7.toNatClampNeg) (1000 + x6) μ) else (if inb (x7 + 1) 400 = true then m_unfold_B n 4 x2 x4 x5 0 ((x7 + 1) + 1) 0 0 0 0 (sA 37 ((x7 + 1).toNatClampNeg) 40 (sA 37 (x7.toNatClampNeg) (1000 + x6) μ)) else none)) else none) := by
  rw [m_unfold_B, if_neg (by decide), if_neg (by decide), if_neg (by decide), if_pos rfl]
theorem m_unfold_b4 (n : Nat) (x2 : Int32) (x4 : Int32) (x5 : Int32) (x6 : Int32) (x7 : Int32) (x8 : Int32) (x9 : Int32) (y0 : Int32) (y1 : Int32) (μ : MS) : m_unfold_B (n + 1) 4 x2 x4 x5 x6 x7 x8 x9 y0 y1 μ = (if x4 = 0 then m_unfold_B n 5 x2 x4 x5 0 (x7 + 1) 0 0 x7 124 μ else (if x4 = 1 then m_unfold_B n 5 x2 x4 x5 0 (x7 + 1) 0 0 x7 38 μ else (if x4 = 5 then m_unfold_B n 5 x2 x4 x5 0 (x7 + 1) 0 0 x7 60 μ else (if x4 = 6 then m_unfold_B n 5 x2 x4 x5 0 (x7 + 1) 0 0 x7 62 μ else (if x4 = 7 then m_unfold_B n 5 x2 x4 x5 0 (x7 + 1) 0 0 x7 61 μ else (if x4 = 8 then m_unfold_B n 5 x2 x4 x5 0 (x7 + 1) 0 0 x7 35 μ else (if x4 = 9 then m_unfold_B n 5 x2 x4 x5 0 (x7 + 1) 0 0 x7 43 μ else m_unfold_B n 5 x2 x4 x5 0 (x7 + 1) 0 0 x7 45 μ))))))) := by
  rw [m_unfold_B, if_neg (by decide), if_neg (by decide), if_neg (by decide), if_neg (by decide), if_pos rfl]
theorem m_unfold_b5 (n : Nat) (x2 : Int32) (x4 : Int32) (x5 : Int32) (x6 : Int32) (x7 : Int32) (x8 : Int32) (x9 : Int32) (y0 : Int32) (y1 : Int32) (μ : MS) : m_unfold_B (n + 1) 5 x2 x4 x5 x6 x7 x8 x9 y0 y1 μ = (if inb y0 400 = true then m_unfold_B n 6 x2 x4 x5 0 x7 0 0 0 0 (sA 37 (y0.toNatClampNeg) y1 μ) else none) := by
  rw [m_unfold_B, if_neg (by decide), if_neg (by decide), if_neg (by decide), if_neg (by decide), if_neg (by decide), if_pos rfl]
theorem m_unfold_b6 (n : Nat) (x2 : Int32) (x4 : Int32) (x5 : Int32) (x6 : Int32) (x7 : Int32) (x8 : Int32) (x9 : Int32) (y0 : Int32) (y1 : Int32) (μ : MS) : m_unfold_B (n + 1) 6 x2 x4 x5 x6 x7 x8 x9 y0 y1 μ = (if inb ((40 * x2) + x5) 800 = true then (if x4 = 1 then (if ((μ.2.1 6) ((40 * x2) + x5).toNatClampNeg) = 0 then m_unfold_B n 9 0 0 x5 0 x7 0 0 0 0 μ else m_unfold_B n 7 0 x4 x5 0 x7 ((μ.2.1 6) ((40 * x2) + x5).toNatClampNeg) 0 0 0 μ) else m_unfold_B n 7 0 x4 x5 0 x7 ((μ.2.1 6) ((40 * x2) + x5).toNatClampNeg) 0 0 0 μ) else none) := by
  rw [m_unfold_B, if_neg (by decide), if_neg (by decide), if_neg (by decide), if_neg (by decide), if_neg (by decide), if_neg (by decide), if_pos rfl]
theorem m_unfold_b7 (n : Nat) (x2 : Int32) (x4 : Int32) (x5 : Int32) (x6 : Int32) (x7 : Int32) (x8 : Int32) (x9 : Int32) (y0 : Int32) (y1 : Int32) (μ : MS) : m_unfold_B (n + 1) 7 x2 x4 x5 x6 x7 x8 x9 y0 y1 μ = (if x4 = 2 then (if x8 < 2 then m_unfold_B n 9 0 0 x5 0 x7 0 0 0 0 μ else m_unfold_B n 8 0 x4 x5 0 x7 0 0 0 0 μ) else m_unfold_B n 8 0 x4 x5 0 x7 0 0 0 0 μ) := by
  rw [m_unfold_B, if_neg (by decide), if_neg (by decide), if_neg (by decide), if_neg (by decide), if_neg (by decide), if_neg (by decide), if_neg (by decide), if_pos rfl]
theorem m_unfold_b8 (n : Nat) (x2 : Int32) (x4 : Int32) (x5 : Int32) (x6 : Int32) (x7 : Int32) (x8 : Int32) (x9 : Int32) (y0 : Int32) (y1 : Int32) (μ : MS) : m_unfold_B (n + 1) 8 x2 x4 x5 x6 x7 x8 x9 y0 y1 μ = (if x4 = 3 then m_unfold_B n 9 0 0 x5 0 x7 0 0 0 0 μ else (if x4 = 4 then m_unfold_B n 9 0 0 x5 0 x7 0 0 0 0 μ else m_unfold_B n 10 0 0 x5 0 x7 0 0 0 0 μ)) := by
  rw [m_unfold_B, if_neg (by decide), if_neg (by decide), if_neg (by decide), if_neg (by decide), if_neg (by decide), if_neg (by decide), if_neg (by decide), if_neg (by decide), if_pos rfl]
theorem m_unfold_b9 (n : Nat) (x2 : Int32) (x4 : Int32) (x5 : Int32) (x6 : Int32) (x7 : Int32) (x8 : Int32) (x9 : Int32) (y0 : Int32) (y1 : Int32) (μ : MS) : m_unfold_B (n + 1) 9 x2 x4 x5 x6 x7 x8 x9 y0 y1 μ = m_unfold_B n 10 0 0 x5 0 x7 0 0 1 0 μ := by
  rw [m_unfold_B, if_neg (by decide), if_neg (by decide), if_neg (by decide), if_neg (by decide), if_neg (by decide), if_neg (by decide), if_neg (by decide), if_neg (by decide), if_neg (by decide), if_pos rfl]
theorem m_unfold_b10 (n : Nat) (x2 : Int32) (x4 : Int32) (x5 : Int32) (x6 : Int32) (x7 : Int32) (x8 : Int32) (x9 : Int32) (y0 : Int32) (y1 : Int32) (μ : MS) : m_unfold_B (n + 1) 10 x2 x4 x5 x6 x7 x8 x9 y0 y1 μ = (if y0 = 0 then m_unfold_B n 11 0 0 x5 0 x7 0 y0 0 0 μ else (if inb x7 400 = true then m_unfold_B n 11 0 0 x5 0 (x7 + 1) 0 y0 0 0 (sA 37 (x7.toNatClampNeg) 41 μ) else none)) := by
  rw [m_unfold_B, if_neg (by decide), if_neg (by decide), if_neg (by decide), if_neg (by decide), if_neg (by decide), if_neg (by decide), if_neg (by decide), if_neg (by decide), if_neg (by decide), if_neg (by decide), if_pos rfl]
theorem m_unfold_b11 (n : Nat) (x2 : Int32) (x4 : Int32) (x5 : Int32) (x6 : Int32) (x7 : Int32) (x8 : Int32) (x9 : Int32) (y0 : Int32) (y1 : Int32) (μ : MS) : m_unfold_B (n + 1) 11 x2 x4 x5 x6 x7 x8 x9 y0 y1 μ = (if inb x7 400 = true then (if x9 = 0 then m_unfold_B n 12 0 0 0 0 (x7 + 1) 0 0 0 0 (sA 37 (x7.toNatClampNeg) (1000 + x5) μ) else (if inb (x7 + 1) 400 = true then m_unfold_B n 12 0 0 0 0 ((x7 + 1) + 1) 0 0 0 0 (sA 37 ((x7 + 1).toNatClampNeg) 40 (sA 37 (x7.toNatClampNeg) (1000 + x5) μ)) else none)) else none) := by
  rw [m_unfold_B, if_neg (by decide), if_neg (by decide), if_neg (by decide), if_neg (by decide), if_neg (by decide), if_neg (by decide), if_neg (by decide), if_neg (by decide), if_neg (by decide), if_neg (by decide), if_neg (by decide), if_pos rfl]
theorem m_unfold_b12 (n : Nat) (x2 : Int32) (x4 : Int32) (x5 : Int32) (x6 : Int32) (x7 : Int32) (x8 : Int32) (x9 : Int32) (y0 : Int32) (y1 : Int32) (μ : MS) : m_unfold_B (n + 1) 12 x2 x4 x5 x6 x7 x8 x9 y0 y1 μ = some (x7, μ) := by
  rw [m_unfold_B, if_neg (by decide), if_neg (by decide), if_neg (by decide), if_neg (by decide), if_neg (by decide), if_neg (by decide), if_neg (by decide), if_neg (by decide), if_neg (by decide), if_neg (by decide), if_neg (by decide), if_neg (by decide)]
def m_unfold (x1 x2 x3 : Int32) (μ : MS) : Option (Int32 × MS) := (if inb x1 800 = true then (if ((μ.2.1 9) x1.toNatClampNeg) < 0 then m_unfold_B 4096 6 x2 ((μ.2.1 6) x1.toNatClampNeg) ((μ.2.1 8) x1.toNatClampNeg) 0 x3 0 0 0 0 μ else (if inb ((40 * x2) + ((μ.2.1 9) x1.toNatClampNeg)) 800 = true then (if 2 ≤ ((μ.2.1 6) x1.toNatClampNeg) then m_unfold_B 4096 1 x2 ((μ.2.1 6) x1.toNatClampNeg) ((μ.2.1 8) x1.toNatClampNeg) ((μ.2.1 9) x1.toNatClampNeg) x3 0 0 0 0 μ else (if ((μ.2.1 6) ((40 * x2) + ((μ.2.1 9) x1.toNatClampNeg)).toNatClampNeg) = ((μ.2.1 6) x1.toNatClampNeg) then m_unfold_B 4096 0 x2 ((μ.2.1 6) x1.toNatClampNeg) ((μ.2.1 8) x1.toNatClampNeg) ((μ.2.1 9) x1.toNatClampNeg) x3 0 0 0 0 μ else (if ((μ.2.1 6) x1.toNatClampNeg) = 1 then (if ((μ.2.1 6) ((40 * x2) + ((μ.2.1 9) x1.toNatClampNeg)).toNatClampNeg) = 0 then m_unfold_B 4096 0 x2 ((μ.2.1 6) x1.toNatClampNeg) ((μ.2.1 8) x1.toNatClampNeg) ((μ.2.1 9) x1.toNatClampNeg) x3 0 0 0 0 μ else m_unfold_B 4096 1 x2 ((μ.2.1 6) x1.toNatClampNeg) ((μ.2.1 8) x1.toNatClampNeg) ((μ.2.1 9) x1.toNatClampNeg) x3 0 0 0 0 μ) else m_unfold_B 4096 1 x2 ((μ.2.1 6) x1.toNatClampNeg) ((μ.2.1 8) x1.toNatClampNeg) ((μ.2.1 9) x1.toNatClampNeg) x3 0 0 0 0 μ))) else none)) else none)
set_option maxHeartbeats 4000000 in
set_option maxRecDepth 100000 in
theorem c_Mod_unfold {A : Nat → Nat} {f0 : Nat → va_E} {μ : MS} {x1 x2 x3 : Int32} {res : (Int32 × MS)} (hM : zMf ck b0 N A f0 f μ) (h : m_unfold x1 x2 x3 μ = some res) : zK l D ck ad b0 y_Mod_unfold prog_10_method_51_code 10 ((some FieldType.int)) 0 0 0 [.ref (A 38), .int x1, .int x2, .int x3] N f (fun r N' f' => r = some (.int res.1) ∧ N = N' ∧ zMf ck b0 N A f0 f' res.2) := by
  refine zM.of zG_w (by decide) (Nat.le_of_ble_eq_true rfl) ?_
  intro zp ze zst zm zar zbe zme zc X hnm hb0
  have L : ∀ n : Nat, (∀ (x2 : Int32) (x4 : Int32) (x5 : Int32) (x6 : Int32) (x7 : Int32) (x8 : Int32) (x9 : Int32) (y0 : Int32) (y1 : Int32) (f1 : Nat → va_E) (μ : MS), zMf ck b0 N A f0 f1 μ → m_unfold_B n 0 x2 x4 x5 x6 x7 x8 x9 y0 y1 μ = some res → zW zp l ze (zR 0 0 0) zst zm zar zbe zme zc D zcl b0 10 0 0 (MQ zbe (zQ D zcl b0 (fun r N' f' => r = some (.int res.1) ∧ N = N' ∧ zMf ck b0 N A f0 f' res.2)) zar zst 0 0 (zA b0)) N f1 70 [(0, .ref (A 38)), (2, .int x2), (4, .int x4), (5, .int x5), (6, .int x6), (7, .int x7)] []) ∧ (∀ (x2 : Int32) (x4 : Int32) (x5 : Int32) (x6 : Int32) (x7 : Int32) (x8 : Int32) (x9 : Int32) (y0 : Int32) (y1 : Int32) (f1 : Nat → va_E) (μ : MS), zMf ck b0 N A f0 f1 μ → m_unfold_B n 1 x2 x4 x5 x6 x7 x8 x9 y0 y1 μ = some res → zW zp l ze (zR 0 0 0) zst zm zar zbe zme zc D zcl b0 10 0 0 (MQ zbe (zQ D zcl b0 (fun r N' f' => r = some (.int res.1) ∧ N = N' ∧ zMf ck b0 N A f0 f' res.2)) zar zst 0 0 (zA b0)) N f1 74 [(0, .ref (A 38)), (2, .int x2), (4, .int x4), (5, .int x5), (6, .int x6), (7, .int x7)] []) ∧ (∀ (x2 : Int32) (x4 : Int32) (x5 : Int32) (x6 : Int32) (x7 : Int32) (x8 : Int32) (x9 : Int32) (y0 : Int32) (y1 : Int32) (f1 : Nat → va_E) (μ : MS), zMf ck b0 N A f0 f1 μ → m_unfold_B n 2 x2 x4 x5 x6 x7 x8 x9 y0 y1 μ = some res → zW zp l ze (zR 0 0 0) zst zm zar zbe zme zc D zcl b0 10 0 0 (MQ zbe (zQ D zcl b0 (fun r N' f' => r = some (.int res.1) ∧ N = N' ∧ zMf ck b0 N A f0 f' res.2)) zar zst 0 0 (zA b0)) N f1 75 [(0, .ref (A 38)), (2, .int x2), (4, .int x4), (5, .int x5), (6, .int x6), (7, .int x7)] [.int y0]) ∧ (∀ (x2 : Int32) (x4 : Int32) (x5 : Int32) (x6 : Int32) (x7 : Int32) (x8 : Int32) (x9 : Int32) (y0 : Int32) (y1 : Int32) (f1 : Nat → va_E) (μ : MS), zMf ck b0 N A f0 f1 μ → m_unfold_B n 3 x2 x4 x5 x6 x7 x8 x9 y0 y1 μ = some res → zW zp l ze (zR 0 0 0) zst zm zar zbe zme zc D zcl b0 10 0 0 (MQ zbe (zQ D zcl b0 (fun r N' f' => r = some (.int res.1) ∧ N = N' ∧ zMf ck b0 N A f0 f' res.2)) zar zst 0 0 (zA b0)) N f1 94 [(0, .ref (A 38)), (2, .int x2), (4, .int x4), (5, .int x5), (6, .int x6), (7, .int x7), (9, .int x9)] []) ∧ (∀ (x2 : Int32) (x4 : Int32) (x5 : Int32) (x6 : Int32) (x7 : Int32) (x8 : Int32) (x9 : Int32) (y0 : Int32) (y1 : Int32) (f1 : Nat → va_E) (μ : MS), zMf ck b0 N A f0 f1 μ → m_unfold_B n 4 x2 x4 x5 x6 x7 x8 x9 y0 y1 μ = some res → zW zp l ze (zR 0 0 0) zst zm zar zbe zme zc D zcl b0 10 0 0 (MQ zbe (zQ D zcl b0 (fun r N' f' => r = some (.int res.1) ∧ N = N' ∧ zMf ck b0 N A f0 f' res.2)) zar zst 0 0 (zA b0)) N f1 127 [(0, .ref (A 38)), (2, .int x2), (4, .int x4), (5, .int x5), (7, .int x7)] []) ∧ (∀ (x2 : Int32) (x4 : Int32) (x5 : Int32) (x6 : Int32) (x7 : Int32) (x8 : Int32) (x9 : Int32) (y0 : Int32) (y1 : Int32) (f1 : Nat → va_E) (μ : MS), zMf ck b0 N A f0 f1 μ → m_unfold_B n 5 x2 x4 x5 x6 x7 x8 x9 y0 y1 μ = some res → zW zp l ze (zR 0 0 0) zst zm zar zbe zme zc D zcl b0 10 0 0 (MQ zbe (zQ D zcl b0 (fun r N' f' => r = some (.int res.1) ∧ N = N' ∧ zMf ck b0 N A f0 f' res.2)) zar zst 0 0 (zA b0)) N f1 218 [(0, .ref (A 38)), (2, .int x2), (4, .int x4), (5, .int x5), (7, .int x7)] [.int y1, .int y0, .ref (A 37)]) ∧ (∀ (x2 : Int32) (x4 : Int32) (x5 : Int32) (x6 : Int32) (x7 : Int32) (x8 : Int32) (x9 : Int32) (y0 : Int32) (y1 : Int32) (f1 : Nat → va_E) (μ : MS), zMf ck b0 N A f0 f1 μ → m_unfold_B n 6 x2 x4 x5 x6 x7 x8 x9 y0 y1 μ = some res → zW zp l ze (zR 0 0 0) zst zm zar zbe zme zc D zcl b0 10 0 0 (MQ zbe (zQ D zcl b0 (fun r N' f' => r = some (.int res.1) ∧ N = N' ∧ zMf ck b0 N A f0 f' res.2)) zar zst 0 0 (zA b0)) N f1 219 [(0, .ref (A 38)), (2, .int x2), (4, .int x4), (5, .int x5), (7, .int x7)] []) ∧ (∀ (x2 : Int32) (x4 : Int32) (x5 : Int32) (x6 : Int32) (x7 : Int32) (x8 : Int32) (x9 : Int32) (y0 : Int32) (y1 : Int32) (f1 : Nat → va_E) (μ : MS), zMf ck b0 N A f0 f1 μ → m_unfold_B n 7 x2 x4 x5 x6 x7 x8 x9 y0 y1 μ = some res → zW zp l ze (zR 0 0 0) zst zm zar zbe zme zc D zcl b0 10 0 0 (MQ zbe (zQ D zcl b0 (fun r N' f' => r = some (.int res.1) ∧ N = N' ∧ zMf ck b0 N A f0 f' res.2)) zar zst 0 0 (zA b0)) N f1 244 [(0, .ref (A 38)), (4, .int x4), (5, .int x5), (7, .int x7), (8, .int x8)] []) ∧ (∀ (x2 : Int32) (x4 : Int32) (x5 : Int32) (x6 : Int32) (x7 : Int32) (x8 : Int32) (x9 : Int32) (y0 : Int32) (y1 : Int32) (f1 : Nat → va_E) (μ : MS), zMf ck b0 N A f0 f1 μ → m_unfold_B n 8 x2 x4 x5 x6 x7 x8 x9 y0 y1 μ = some res → zW zp l ze (zR 0 0 0) zst zm zar zbe zme zc D zcl b0 10 0 0 (MQ zbe (zQ D zcl b0 (fun r N' f' => r = some (.int res.1) ∧ N = N' ∧ zMf ck b0 N A f0 f' res.2)) zar zst 0 0 (zA b0)) N f1 256 [(0, .ref (A 38)), (4, .int x4), (5, .int x5), (7, .int x7)] []) ∧ (∀ (x2 : Int32) (x4 : Int32) (x5 : Int32) (x6 : Int32) (x7 : Int32) (x8 : Int32) (x9 : Int32) (y0 : Int32) (y1 : Int32) (f1 : Nat → va_E) (μ : MS), zMf ck b0 N A f0 f1 μ → m_unfold_B n 9 x2 x4 x5 x6 x7 x8 x9 y0 y1 μ = some res → zW zp l ze (zR 0 0 0) zst zm zar zbe zme zc D zcl b0 10 0 0 (MQ zbe (zQ D zcl b0 (fun r N' f' => r = some (.int res.1) ∧ N = N' ∧ zMf ck b0 N A f0 f' res.2)) zar zst 0 0 (zA b0)) N f1 268 [(0, .ref (A 38)), (5, .int x5), (7, .int x7)] []) ∧ (∀ (x2 : Int32) (x4 : Int32) (x5 : Int32) (x6 : Int32) (x7 : Int32) (x8 : Int32) (x9 : Int32) (y0 : Int32) (y1 : Int32) (f1 : Nat → va_E) (μ : MS), zMf ck b0 N A f0 f1 μ → m_unfold_B n 10 x2 x4 x5 x6 x7 x8 x9 y0 y1 μ = some res → zW zp l ze (zR 0 0 0) zst zm zar zbe zme zc D zcl b0 10 0 0 (MQ zbe (zQ D zcl b0 (fun r N' f' => r = some (.int res.1) ∧ N = N' ∧ zMf ck b0 N A f0 f' res.2)) zar zst 0 0 (zA b0)) N f1 273 [(0, .ref (A 38)), (5, .int x5), (7, .int x7)] [.int y0]) ∧ (∀ (x2 : Int32) (x4 : Int32) (x5 : Int32) (x6 : Int32) (x7 : Int32) (x8 : Int32) (x9 : Int32) (y0 : Int32) (y1 : Int32) (f1 : Nat → va_E) (μ : MS), zMf ck b0 N A f0 f1 μ → m_unfold_B n 11 x2 x4 x5 x6 x7 x8 x9 y0 y1 μ = some res → zW zp l ze (zR 0 0 0) zst zm zar zbe zme zc D zcl b0 10 0 0 (MQ zbe (zQ D zcl b0 (fun r N' f' => r = some (.int res.1) ∧ N = N' ∧ zMf ck b0 N A f0 f' res.2)) zar zst 0 0 (zA b0)) N f1 292 [(0, .ref (A 38)), (5, .int x5), (7, .int x7), (9, .int x9)] []) ∧ (∀ (x2 : Int32) (x4 : Int32) (x5 : Int32) (x6 : Int32) (x7 : Int32) (x8 : Int32) (x9 : Int32) (y0 : Int32) (y1 : Int32) (f1 : Nat → va_E) (μ : MS), zMf ck b0 N A f0 f1 μ → m_unfold_B n 12 x2 x4 x5 x6 x7 x8 x9 y0 y1 μ = some res → zW zp l ze (zR 0 0 0) zst zm zar zbe zme zc D zcl b0 10 0 0 (MQ zbe (zQ D zcl b0 (fun r N' f' => r = some (.int res.1) ∧ N = N' ∧ zMf ck b0 N A f0 f' res.2)) zar zst 0 0 (zA b0)) N f1 325 [(0, .ref (A 38)), (7, .int x7)] []) := by
    intro n
    induction n with
    | zero =>
      exact ⟨fun _ _ _ _ _ _ _ _ _ _ _ _ h => (by rw [m_unfold_B] at h; cases h), fun _ _ _ _ _ _ _ _ _ _ _ _ h => (by rw [m_unfold_B] at h; cases h), fun _ _ _ _ _ _ _ _ _ _ _ _ h => (by rw [m_unfold_B] at h; cases h), fun _ _ _ _ _ _ _ _ _ _ _ _ h => (by rw [m_unfold_B] at h; cases h), fun _ _ _ _ _ _ _ _ _ _ _ _ h => (by rw [m_unfold_B] at h; cases h), fun _ _ _ _ _ _ _ _ _ _ _ _ h => (by rw [m_unfold_B] at h; cases h), fun _ _ _ _ _ _ _ _ _ _ _ _ h => (by rw [m_unfold_B] at h; cases h), fun _ _ _ _ _ _ _ _ _ _ _ _ h => (by rw [m_unfold_B] at h; cases h), fun _ _ _ _ _ _ _ _ _ _ _ _ h => (by rw [m_unfold_B] at h; cases h), fun _ _ _ _ _ _ _ _ _ _ _ _ h => (by rw [m_unfold_B] at h; cases h), fun _ _ _ _ _ _ _ _ _ _ _ _ h => (by rw [m_unfold_B] at h; cases h), fun _ _ _ _ _ _ _ _ _ _ _ _ h => (by rw [m_unfold_B] at h; cases h), fun _ _ _ _ _ _ _ _ _ _ _ _ h => (by rw [m_unfold_B] at h; cases h)⟩
    | succ n ih =>
      refine ⟨?_, ?_, ?_, ?_, ?_, ?_, ?_, ?_, ?_, ?_, ?_, ?_, ?_⟩
      · intro x2 x4 x5 x6 x7 x8 x9 y0 y1 f1 μ hM h
        rw [m_unfold_b0] at h
        refine z_iconst X d_Mod_unfold_70 (v := 1) (by decide) ?_
        refine z_goto X 75 d_Mod_unfold_71 (by decide) ?_
        refine zW.pick [0, 1, 2, 3, 4, 5] (lv' := [(0, .ref (A 38)), (2, .int x2), (4, .int x4), (5, .int x5), (6, .int x6), (7, .int x7)]) rfl ?_
        exact (ih).2.2.1 x2 x4 x5 x6 x7 0 0 1 0 _ _ hM h
      · intro x2 x4 x5 x6 x7 x8 x9 y0 y1 f1 μ hM h
        rw [m_unfold_b1] at h
        refine z_iconst X d_Mod_unfold_74 (v := 0) (by decide) ?_
        refine zW.pick [0, 1, 2, 3, 4, 5] (lv' := [(0, .ref (A 38)), (2, .int x2), (4, .int x4), (5, .int x5), (6, .int x6), (7, .int x7)]) rfl ?_
        exact (ih).2.2.1 x2 x4 x5 x6 x7 0 0 0 0 _ _ hM h
      · intro x2 x4 x5 x6 x7 x8 x9 y0 y1 f1 μ hM h
        rw [m_unfold_b2] at h
        refine z_istore X d_Mod_unfold_75 (by decide) rfl ?_
        refine z_iload X d_Mod_unfold_77 rfl ?_
        refine z_if_eq X 94 d_Mod_unfold_79 (by decide) (fun h79 => ?_) (fun h79 => ?_)
        · skip
          have h := (if_pos h79).symm.trans h
          refine zW.pick [0, 1, 2, 3, 4, 5, 6] (lv' := [(0, .ref (A 38)), (2, .int x2), (4, .int x4), (5, .int x5), (6, .int x6), (7, .int x7), (9, .int y0)]) rfl ?_
          exact (ih).2.2.2.1 x2 x4 x5 x6 x7 0 y0 0 0 _ _ hM h
        · skip
          have h := (if_neg h79).symm.trans h
          refine z_aload_n X d_Mod_unfold_82 rfl ?_
          refine z_get X (v := .ref (A 37)) d_Mod_unfold_83 (hM.lo 38 (by decide)) hM.ob cl_Mod in_Mod 37 (by decide) fl_Mod_90 rfl rfl ?_
          refine z_iload X d_Mod_unfold_86 rfl ?_
          refine z_iinc X d_Mod_unfold_88 rfl (iic 1 1 (by decide) _) (by decide) rfl ?_
          refine z_bipush X d_Mod_unfold_91 (v := 41) (by decide) ?_
          obtain ⟨b93, h⟩ := gd h
          refine z_iastM X d_Mod_unfold_93 hM 37 400 rfl rfl (vp_of b93) (fun hM => ?_)
          refine zW.pick [0, 1, 2, 3, 4, 5, 6] (lv' := [(0, .ref (A 38)), (2, .int x2), (4, .int x4), (5, .int x5), (6, .int x6), (7, .int (x7 + 1)), (9, .int y0)]) rfl ?_
          exact (ih).2.2.2.1 x2 x4 x5 x6 (x7 + 1) 0 y0 0 0 _ _ hM h
      · intro x2 x4 x5 x6 x7 x8 x9 y0 y1 f1 μ hM h
        rw [m_unfold_b3] at h
        refine z_aload_n X d_Mod_unfold_94 rfl ?_
        refine z_get X (v := .ref (A 37)) d_Mod_unfold_95 (hM.lo 38 (by decide)) hM.ob cl_Mod in_Mod 37 (by decide) fl_Mod_90 rfl rfl ?_
        refine z_iload X d_Mod_unfold_98 rfl ?_
        refine z_iinc X d_Mod_unfold_100 rfl (iic 1 1 (by decide) _) (by decide) rfl ?_
        refine z_sipush X d_Mod_unfold_103 (v := 1000) (by decide) ?_
        refine z_iload X d_Mod_unfold_106 rfl ?_
        refine z_iadd X d_Mod_unfold_108 ?_
        obtain ⟨b109, h⟩ := gd h
        refine z_iastM X d_Mod_unfold_109 hM 37 400 rfl rfl (vp_of b109) (fun hM => ?_)
        refine z_iload X d_Mod_unfold_110 rfl ?_
        refine z_if_eq X 127 d_Mod_unfold_112 (by decide) (fun h112 => ?_) (fun h112 => ?_)
        · skip
          have h := (if_pos h112).symm.trans h
          refine zW.pick [0, 1, 2, 3, 5] (lv' := [(0, .ref (A 38)), (2, .int x2), (4, .int x4), (5, .int x5), (7, .int (x7 + 1))]) rfl ?_
          exact (ih).2.2.2.2.1 x2 x4 x5 0 (x7 + 1) 0 0 0 0 _ _ hM h
        · skip
          have h := (if_neg h112).symm.trans h
          refine z_aload_n X d_Mod_unfold_115 rfl ?_
          refine z_get X (v := .ref (A 37)) d_Mod_unfold_116 (hM.lo 38 (by decide)) hM.ob cl_Mod in_Mod 37 (by decide) fl_Mod_90 rfl rfl ?_
          refine z_iload X d_Mod_unfold_119 rfl ?_
          refine z_iinc X d_Mod_unfold_121 rfl (iic 1 1 (by decide) _) (by decide) rfl ?_
          refine z_bipush X d_Mod_unfold_124 (v := 40) (by decide) ?_
          obtain ⟨b126, h⟩ := gd h
          refine z_iastM X d_Mod_unfold_126 hM 37 400 rfl rfl (vp_of b126) (fun hM => ?_)
          refine zW.pick [0, 1, 2, 3, 5] (lv' := [(0, .ref (A 38)), (2, .int x2), (4, .int x4), (5, .int x5), (7, .int ((x7 + 1) + 1))]) rfl ?_
          exact (ih).2.2.2.2.1 x2 x4 x5 0 ((x7 + 1) + 1) 0 0 0 0 _ _ hM h
      · intro x2 x4 x5 x6 x7 x8 x9 y0 y1 f1 μ hM h
        rw [m_unfold_b4] at h
        refine z_aload_n X d_Mod_unfold_127 rfl ?_
        refine z_get X (v := .ref (A 37)) d_Mod_unfold_128 (hM.lo 38 (by decide)) hM.ob cl_Mod in_Mod 37 (by decide) fl_Mod_90 rfl rfl ?_
        refine z_iload X d_Mod_unfold_131 rfl ?_
        refine z_iinc X d_Mod_unfold_133 rfl (iic 1 1 (by decide) _) (by decide) rfl ?_
        refine z_iload X d_Mod_unfold_136 rfl ?_
        refine z_if_ne X 146 d_Mod_unfold_138 (by decide) (fun h138 => ?_) (fun h138 => ?_)
        · skip
          have h := (if_neg h138).symm.trans h
          refine z_iload X d_Mod_unfold_146 rfl ?_
          refine z_iconst X d_Mod_unfold_148 (v := 1) (by decide) ?_
          refine z_icmp_ne X 157 d_Mod_unfold_149 (by decide) (fun h149 => ?_) (fun h149 => ?_)
          · skip
            have h := (if_neg h149).symm.trans h
            refine z_iload X d_Mod_unfold_157 rfl ?_
            refine z_iconst X d_Mod_unfold_159 (v := 5) (by decide) ?_
            refine z_icmp_ne X 168 d_Mod_unfold_160 (by decide) (fun h160 => ?_) (fun h160 => ?_)
            · skip
              have h := (if_neg h160).symm.trans h
              refine z_iload X d_Mod_unfold_168 rfl ?_
              refine z_bipush X d_Mod_unfold_170 (v := 6) (by decide) ?_
              refine z_icmp_ne X 180 d_Mod_unfold_172 (by decide) (fun h172 => ?_) (fun h172 => ?_)
              · skip
                have h := (if_neg h172).symm.trans h
                refine z_iload X d_Mod_unfold_180 rfl ?_
                refine z_bipush X d_Mod_unfold_182 (v := 7) (by decide) ?_
                refine z_icmp_ne X 192 d_Mod_unfold_184 (by decide) (fun h184 => ?_) (fun h184 => ?_)
                · skip
                  have h := (if_neg h184).symm.trans h
                  refine z_iload X d_Mod_unfold_192 rfl ?_
                  refine z_bipush X d_Mod_unfold_194 (v := 8) (by decide) ?_
                  refine z_icmp_ne X 204 d_Mod_unfold_196 (by decide) (fun h196 => ?_) (fun h196 => ?_)
                  · skip
                    have h := (if_neg h196).symm.trans h
                    refine z_iload X d_Mod_unfold_204 rfl ?_
                    refine z_bipush X d_Mod_unfold_206 (v := 9) (by decide) ?_
                    refine z_icmp_ne X 216 d_Mod_unfold_208 (by decide) (fun h208 => ?_) (fun h208 => ?_)
                    · skip
                      have h := (if_neg h208).symm.trans h
                      refine z_bipush X d_Mod_unfold_216 (v := 45) (by decide) ?_
                      refine zW.pick [0, 1, 2, 3, 4] (lv' := [(0, .ref (A 38)), (2, .int x2), (4, .int x4), (5, .int x5), (7, .int (x7 + 1))]) rfl ?_
                      exact (ih).2.2.2.2.2.1 x2 x4 x5 0 (x7 + 1) 0 0 x7 45 _ _ hM h
                    · skip
                      have h := (if_pos h208).symm.trans h
                      refine z_bipush X d_Mod_unfold_211 (v := 43) (by decide) ?_
                      refine z_goto X 218 d_Mod_unfold_213 (by decide) ?_
                      refine zW.pick [0, 1, 2, 3, 4] (lv' := [(0, .ref (A 38)), (2, .int x2), (4, .int x4), (5, .int x5), (7, .int (x7 + 1))]) rfl ?_
                      exact (ih).2.2.2.2.2.1 x2 x4 x5 0 (x7 + 1) 0 0 x7 43 _ _ hM h
                  · skip
                    have h := (if_pos h196).symm.trans h
                    refine z_bipush X d_Mod_unfold_199 (v := 35) (by decide) ?_
                    refine z_goto X 218 d_Mod_unfold_201 (by decide) ?_
                    refine zW.pick [0, 1, 2, 3, 4] (lv' := [(0, .ref (A 38)), (2, .int x2), (4, .int x4), (5, .int x5), (7, .int (x7 + 1))]) rfl ?_
                    exact (ih).2.2.2.2.2.1 x2 x4 x5 0 (x7 + 1) 0 0 x7 35 _ _ hM h
                · skip
                  have h := (if_pos h184).symm.trans h
                  refine z_bipush X d_Mod_unfold_187 (v := 61) (by decide) ?_
                  refine z_goto X 218 d_Mod_unfold_189 (by decide) ?_
                  refine zW.pick [0, 1, 2, 3, 4] (lv' := [(0, .ref (A 38)), (2, .int x2), (4, .int x4), (5, .int x5), (7, .int (x7 + 1))]) rfl ?_
                  exact (ih).2.2.2.2.2.1 x2 x4 x5 0 (x7 + 1) 0 0 x7 61 _ _ hM h
              · skip
                have h := (if_pos h172).symm.trans h
                refine z_bipush X d_Mod_unfold_175 (v := 62) (by decide) ?_
                refine z_goto X 218 d_Mod_unfold_177 (by decide) ?_
                refine zW.pick [0, 1, 2, 3, 4] (lv' := [(0, .ref (A 38)), (2, .int x2), (4, .int x4), (5, .int x5), (7, .int (x7 + 1))]) rfl ?_
                exact (ih).2.2.2.2.2.1 x2 x4 x5 0 (x7 + 1) 0 0 x7 62 _ _ hM h
            · skip
              have h := (if_pos h160).symm.trans h
              refine z_bipush X d_Mod_unfold_163 (v := 60) (by decide) ?_
              refine z_goto X 218 d_Mod_unfold_165 (by decide) ?_
              refine zW.pick [0, 1, 2, 3, 4] (lv' := [(0, .ref (A 38)), (2, .int x2), (4, .int x4), (5, .int x5), (7, .int (x7 + 1))]) rfl ?_
              exact (ih).2.2.2.2.2.1 x2 x4 x5 0 (x7 + 1) 0 0 x7 60 _ _ hM h
          · skip
            have h := (if_pos h149).symm.trans h
            refine z_bipush X d_Mod_unfold_152 (v := 38) (by decide) ?_
            refine z_goto X 218 d_Mod_unfold_154 (by decide) ?_
            refine zW.pick [0, 1, 2, 3, 4] (lv' := [(0, .ref (A 38)), (2, .int x2), (4, .int x4), (5, .int x5), (7, .int (x7 + 1))]) rfl ?_
            exact (ih).2.2.2.2.2.1 x2 x4 x5 0 (x7 + 1) 0 0 x7 38 _ _ hM h
        · skip
          have h := (if_pos h138).symm.trans h
          refine z_bipush X d_Mod_unfold_141 (v := 124) (by decide) ?_
          refine z_goto X 218 d_Mod_unfold_143 (by decide) ?_
          refine zW.pick [0, 1, 2, 3, 4] (lv' := [(0, .ref (A 38)), (2, .int x2), (4, .int x4), (5, .int x5), (7, .int (x7 + 1))]) rfl ?_
          exact (ih).2.2.2.2.2.1 x2 x4 x5 0 (x7 + 1) 0 0 x7 124 _ _ hM h
      · intro x2 x4 x5 x6 x7 x8 x9 y0 y1 f1 μ hM h
        rw [m_unfold_b5] at h
        obtain ⟨b218, h⟩ := gd h
        refine z_iastM X d_Mod_unfold_218 hM 37 400 rfl rfl (vp_of b218) (fun hM => ?_)
        refine zW.pick [0, 1, 2, 3, 4] (lv' := [(0, .ref (A 38)), (2, .int x2), (4, .int x4), (5, .int x5), (7, .int x7)]) rfl ?_
        exact (ih).2.2.2.2.2.2.1 x2 x4 x5 0 x7 0 0 0 0 _ _ hM h
      · intro x2 x4 x5 x6 x7 x8 x9 y0 y1 f1 μ hM h
        rw [m_unfold_b6] at h
        refine z_aload_n X d_Mod_unfold_219 rfl ?_
        refine z_get X (v := .ref (A 6)) d_Mod_unfold_220 (hM.lo 38 (by decide)) hM.ob cl_Mod in_Mod 6 (by decide) fl_Mod_13 rfl rfl ?_
        refine z_bipush X d_Mod_unfold_223 (v := 40) (by decide) ?_
        refine z_iload_n X d_Mod_unfold_225 rfl ?_
        refine z_imul X d_Mod_unfold_226 ?_
        refine z_iload X d_Mod_unfold_227 rfl ?_
        refine z_iadd X d_Mod_unfold_229 ?_
        obtain ⟨b230, h⟩ := gd h
        refine z_iald X (g := (μ.2.1 6)) d_Mod_unfold_230 (hM.lo 6 (by decide)) (hM.iA 6 800 rfl) (t0 := 0) rfl (vp_of b230) ?_
        refine z_istore X d_Mod_unfold_231 (by decide) rfl ?_
        refine z_iload X d_Mod_unfold_233 rfl ?_
        refine z_iconst X d_Mod_unfold_235 (v := 1) (by decide) ?_
        refine z_icmp_ne X 244 d_Mod_unfold_236 (by decide) (fun h236 => ?_) (fun h236 => ?_)
        · skip
          have h := (if_neg h236).symm.trans h
          refine zW.pick [0, 2, 3, 4, 5] (lv' := [(0, .ref (A 38)), (4, .int x4), (5, .int x5), (7, .int x7), (8, .int ((μ.2.1 6) ((40 * x2) + x5).toNatClampNeg))]) rfl ?_
          exact (ih).2.2.2.2.2.2.2.1 0 x4 x5 0 x7 ((μ.2.1 6) ((40 * x2) + x5).toNatClampNeg) 0 0 0 _ _ hM h
        · skip
          have h := (if_pos h236).symm.trans h
          refine z_iload X d_Mod_unfold_239 rfl ?_
          refine z_if_eq X 268 d_Mod_unfold_241 (by decide) (fun h241 => ?_) (fun h241 => ?_)
          · skip
            have h := (if_pos h241).symm.trans h
            refine zW.pick [0, 3, 4] (lv' := [(0, .ref (A 38)), (5, .int x5), (7, .int x7)]) rfl ?_
            exact (ih).2.2.2.2.2.2.2.2.2.1 0 0 x5 0 x7 0 0 0 0 _ _ hM h
          · skip
            have h := (if_neg h241).symm.trans h
            refine zW.pick [0, 2, 3, 4, 5] (lv' := [(0, .ref (A 38)), (4, .int x4), (5, .int x5), (7, .int x7), (8, .int ((μ.2.1 6) ((40 * x2) + x5).toNatClampNeg))]) rfl ?_
            exact (ih).2.2.2.2.2.2.2.1 0 x4 x5 0 x7 ((μ.2.1 6) ((40 * x2) + x5).toNatClampNeg) 0 0 0 _ _ hM h
      · intro x2 x4 x5 x6 x7 x8 x9 y0 y1 f1 μ hM h
        rw [m_unfold_b7] at h
        refine z_iload X d_Mod_unfold_244 rfl ?_
        refine z_iconst X d_Mod_unfold_246 (v := 2) (by decide) ?_
        refine z_icmp_ne X 256 d_Mod_unfold_247 (by decide) (fun h247 => ?_) (fun h247 => ?_)
        · skip
          have h := (if_neg h247).symm.trans h
          refine zW.pick [0, 1, 2, 3] (lv' := [(0, .ref (A 38)), (4, .int x4), (5, .int x5), (7, .int x7)]) rfl ?_
          exact (ih).2.2.2.2.2.2.2.2.1 0 x4 x5 0 x7 0 0 0 0 _ _ hM h
        · skip
          have h := (if_pos h247).symm.trans h
          refine z_iload X d_Mod_unfold_250 rfl ?_
          refine z_iconst X d_Mod_unfold_252 (v := 2) (by decide) ?_
          refine z_icmp_lt X 268 d_Mod_unfold_253 (by decide) (fun h253 => ?_) (fun h253 => ?_)
          · skip
            have h := (if_pos h253).symm.trans h
            refine zW.pick [0, 2, 3] (lv' := [(0, .ref (A 38)), (5, .int x5), (7, .int x7)]) rfl ?_
            exact (ih).2.2.2.2.2.2.2.2.2.1 0 0 x5 0 x7 0 0 0 0 _ _ hM h
          · skip
            have h := (if_neg h253).symm.trans h
            refine zW.pick [0, 1, 2, 3] (lv' := [(0, .ref (A 38)), (4, .int x4), (5, .int x5), (7, .int x7)]) rfl ?_
            exact (ih).2.2.2.2.2.2.2.2.1 0 x4 x5 0 x7 0 0 0 0 _ _ hM h
      · intro x2 x4 x5 x6 x7 x8 x9 y0 y1 f1 μ hM h
        rw [m_unfold_b8] at h
        refine z_iload X d_Mod_unfold_256 rfl ?_
        refine z_iconst X d_Mod_unfold_258 (v := 3) (by decide) ?_
        refine z_icmp_eq X 268 d_Mod_unfold_259 (by decide) (fun h259 => ?_) (fun h259 => ?_)
        · skip
          have h := (if_pos h259).symm.trans h
          refine zW.pick [0, 2, 3] (lv' := [(0, .ref (A 38)), (5, .int x5), (7, .int x7)]) rfl ?_
          exact (ih).2.2.2.2.2.2.2.2.2.1 0 0 x5 0 x7 0 0 0 0 _ _ hM h
        · skip
          have h := (if_neg h259).symm.trans h
          refine z_iload X d_Mod_unfold_262 rfl ?_
          refine z_iconst X d_Mod_unfold_264 (v := 4) (by decide) ?_
          refine z_icmp_ne X 272 d_Mod_unfold_265 (by decide) (fun h265 => ?_) (fun h265 => ?_)
          · skip
            have h := (if_neg h265).symm.trans h
            refine z_iconst X d_Mod_unfold_272 (v := 0) (by decide) ?_
            refine zW.pick [0, 2, 3] (lv' := [(0, .ref (A 38)), (5, .int x5), (7, .int x7)]) rfl ?_
            exact (ih).2.2.2.2.2.2.2.2.2.2.1 0 0 x5 0 x7 0 0 0 0 _ _ hM h
          · skip
            have h := (if_pos h265).symm.trans h
            refine zW.pick [0, 2, 3] (lv' := [(0, .ref (A 38)), (5, .int x5), (7, .int x7)]) rfl ?_
            exact (ih).2.2.2.2.2.2.2.2.2.1 0 0 x5 0 x7 0 0 0 0 _ _ hM h
      · intro x2 x4 x5 x6 x7 x8 x9 y0 y1 f1 μ hM h
        rw [m_unfold_b9] at h
        refine z_iconst X d_Mod_unfold_268 (v := 1) (by decide) ?_
        refine z_goto X 273 d_Mod_unfold_269 (by decide) ?_
        refine zW.pick [0, 1, 2] (lv' := [(0, .ref (A 38)), (5, .int x5), (7, .int x7)]) rfl ?_
        exact (ih).2.2.2.2.2.2.2.2.2.2.1 0 0 x5 0 x7 0 0 1 0 _ _ hM h
      · intro x2 x4 x5 x6 x7 x8 x9 y0 y1 f1 μ hM h
        rw [m_unfold_b10] at h
        refine z_istore X d_Mod_unfold_273 (by decide) rfl ?_
        refine z_iload X d_Mod_unfold_275 rfl ?_
        refine z_if_eq X 292 d_Mod_unfold_277 (by decide) (fun h277 => ?_) (fun h277 => ?_)
        · skip
          have h := (if_pos h277).symm.trans h
          refine zW.pick [0, 1, 2, 3] (lv' := [(0, .ref (A 38)), (5, .int x5), (7, .int x7), (9, .int y0)]) rfl ?_
          exact (ih).2.2.2.2.2.2.2.2.2.2.2.1 0 0 x5 0 x7 0 y0 0 0 _ _ hM h
        · skip
          have h := (if_neg h277).symm.trans h
          refine z_aload_n X d_Mod_unfold_280 rfl ?_
          refine z_get X (v := .ref (A 37)) d_Mod_unfold_281 (hM.lo 38 (by decide)) hM.ob cl_Mod in_Mod 37 (by decide) fl_Mod_90 rfl rfl ?_
          refine z_iload X d_Mod_unfold_284 rfl ?_
          refine z_iinc X d_Mod_unfold_286 rfl (iic 1 1 (by decide) _) (by decide) rfl ?_
          refine z_bipush X d_Mod_unfold_289 (v := 41) (by decide) ?_
          obtain ⟨b291, h⟩ := gd h
          refine z_iastM X d_Mod_unfold_291 hM 37 400 rfl rfl (vp_of b291) (fun hM => ?_)
          refine zW.pick [0, 1, 2, 3] (lv' := [(0, .ref (A 38)), (5, .int x5), (7, .int (x7 + 1)), (9, .int y0)]) rfl ?_
          exact (ih).2.2.2.2.2.2.2.2.2.2.2.1 0 0 x5 0 (x7 + 1) 0 y0 0 0 _ _ hM h
      · intro x2 x4 x5 x6 x7 x8 x9 y0 y1 f1 μ hM h
        rw [m_unfold_b11] at h
        refine z_aload_n X d_Mod_unfold_292 rfl ?_
        refine z_get X (v := .ref (A 37)) d_Mod_unfold_293 (hM.lo 38 (by decide)) hM.ob cl_Mod in_Mod 37 (by decide) fl_Mod_90 rfl rfl ?_
        refine z_iload X d_Mod_unfold_296 rfl ?_
        refine z_iinc X d_Mod_unfold_298 rfl (iic 1 1 (by decide) _) (by decide) rfl ?_
        refine z_sipush X d_Mod_unfold_301 (v := 1000) (by decide) ?_
        refine z_iload X d_Mod_unfold_304 rfl ?_
        refine z_iadd X d_Mod_unfold_306 ?_
        obtain ⟨b307, h⟩ := gd h
        refine z_iastM X d_Mod_unfold_307 hM 37 400 rfl rfl (vp_of b307) (fun hM => ?_)
        refine z_iload X d_Mod_unfold_308 rfl ?_
        refine z_if_eq X 325 d_Mod_unfold_310 (by decide) (fun h310 => ?_) (fun h310 => ?_)
        · skip
          have h := (if_pos h310).symm.trans h
          refine zW.pick [0, 2] (lv' := [(0, .ref (A 38)), (7, .int (x7 + 1))]) rfl ?_
          exact (ih).2.2.2.2.2.2.2.2.2.2.2.2 0 0 0 0 (x7 + 1) 0 0 0 0 _ _ hM h
        · skip
          have h := (if_neg h310).symm.trans h
          refine z_aload_n X d_Mod_unfold_313 rfl ?_
          refine z_get X (v := .ref (A 37)) d_Mod_unfold_314 (hM.lo 38 (by decide)) hM.ob cl_Mod in_Mod 37 (by decide) fl_Mod_90 rfl rfl ?_
          refine z_iload X d_Mod_unfold_317 rfl ?_
          refine z_iinc X d_Mod_unfold_319 rfl (iic 1 1 (by decide) _) (by decide) rfl ?_
          refine z_bipush X d_Mod_unfold_322 (v := 40) (by decide) ?_
          obtain ⟨b324, h⟩ := gd h
          refine z_iastM X d_Mod_unfold_324 hM 37 400 rfl rfl (vp_of b324) (fun hM => ?_)
          refine zW.pick [0, 2] (lv' := [(0, .ref (A 38)), (7, .int ((x7 + 1) + 1))]) rfl ?_
          exact (ih).2.2.2.2.2.2.2.2.2.2.2.2 0 0 0 0 ((x7 + 1) + 1) 0 0 0 0 _ _ hM h
      · intro x2 x4 x5 x6 x7 x8 x9 y0 y1 f1 μ hM h
        rw [m_unfold_b12] at h
        refine z_iload X d_Mod_unfold_325 rfl ?_
        have e9 := Option.some.inj h
        subst e9
        exact z_iret X d_Mod_unfold_327 ⟨rfl, rfl, hM⟩
  rw [m_unfold] at h
  refine z_aload_n X d_Mod_unfold_0 rfl ?_
  refine z_get X (v := .ref (A 6)) d_Mod_unfold_1 (hM.lo 38 (by decide)) hM.ob cl_Mod in_Mod 6 (by decide) fl_Mod_13 rfl rfl ?_
  refine z_iload_n X d_Mod_unfold_4 rfl ?_
  obtain ⟨b5, h⟩ := gd h
  refine z_iald X (g := (μ.2.1 6)) d_Mod_unfold_5 (hM.lo 6 (by decide)) (hM.iA 6 800 rfl) (t0 := 0) rfl (vp_of b5) ?_
  refine z_istore X d_Mod_unfold_6 (by decide) rfl ?_
  refine z_aload_n X d_Mod_unfold_8 rfl ?_
  refine z_get X (v := .ref (A 8)) d_Mod_unfold_9 (hM.lo 38 (by decide)) hM.ob cl_Mod in_Mod 8 (by decide) fl_Mod_19 rfl rfl ?_
  refine z_iload_n X d_Mod_unfold_12 rfl ?_
  refine z_iald X (g := (μ.2.1 8)) d_Mod_unfold_13 (hM.lo 8 (by decide)) (hM.iA 8 800 rfl) (t0 := 0) rfl (vp_of b5) ?_
  refine z_istore X d_Mod_unfold_14 (by decide) rfl ?_
  refine z_aload_n X d_Mod_unfold_16 rfl ?_
  refine z_get X (v := .ref (A 9)) d_Mod_unfold_17 (hM.lo 38 (by decide)) hM.ob cl_Mod in_Mod 9 (by decide) fl_Mod_22 rfl rfl ?_
  refine z_iload_n X d_Mod_unfold_20 rfl ?_
  refine z_iald X (g := (μ.2.1 9)) d_Mod_unfold_21 (hM.lo 9 (by decide)) (hM.iA 9 800 rfl) (t0 := 0) rfl (vp_of b5) ?_
  refine z_istore X d_Mod_unfold_22 (by decide) rfl ?_
  refine z_iload_n X d_Mod_unfold_24 rfl ?_
  refine z_istore X d_Mod_unfold_25 (by decide) rfl ?_
  refine z_iload X d_Mod_unfold_27 rfl ?_
  refine z_if_lt X 219 d_Mod_unfold_29 (by decide) (fun h29 => ?_) (fun h29 => ?_)
  · skip
    have h := (if_pos h29).symm.trans h
    refine zW.pick [0, 2, 4, 5, 7] (lv' := [(0, .ref (A 38)), (2, .int x2), (4, .int ((μ.2.1 6) x1.toNatClampNeg)), (5, .int ((μ.2.1 8) x1.toNatClampNeg)), (7, .int x3)]) rfl ?_
    exact (L 4096).2.2.2.2.2.2.1 x2 ((μ.2.1 6) x1.toNatClampNeg) ((μ.2.1 8) x1.toNatClampNeg) 0 x3 0 0 0 0 _ _ hM h
  · skip
    have h := (if_neg h29).symm.trans h
    refine z_aload_n X d_Mod_unfold_32 rfl ?_
    refine z_get X (v := .ref (A 6)) d_Mod_unfold_33 (hM.lo 38 (by decide)) hM.ob cl_Mod in_Mod 6 (by decide) fl_Mod_13 rfl rfl ?_
    refine z_bipush X d_Mod_unfold_36 (v := 40) (by decide) ?_
    refine z_iload_n X d_Mod_unfold_38 rfl ?_
    refine z_imul X d_Mod_unfold_39 ?_
    refine z_iload X d_Mod_unfold_40 rfl ?_
    refine z_iadd X d_Mod_unfold_42 ?_
    obtain ⟨b43, h⟩ := gd h
    refine z_iald X (g := (μ.2.1 6)) d_Mod_unfold_43 (hM.lo 6 (by decide)) (hM.iA 6 800 rfl) (t0 := 0) rfl (vp_of b43) ?_
    refine z_istore X d_Mod_unfold_44 (by decide) rfl ?_
    refine z_iload X d_Mod_unfold_46 rfl ?_
    refine z_iconst X d_Mod_unfold_48 (v := 2) (by decide) ?_
    refine z_icmp_ge X 74 d_Mod_unfold_49 (by decide) (fun h49 => ?_) (fun h49 => ?_)
    · skip
      have h := (if_pos h49).symm.trans h
      refine zW.pick [0, 2, 4, 5, 6, 7] (lv' := [(0, .ref (A 38)), (2, .int x2), (4, .int ((μ.2.1 6) x1.toNatClampNeg)), (5, .int ((μ.2.1 8) x1.toNatClampNeg)), (6, .int ((μ.2.1 9) x1.toNatClampNeg)), (7, .int x3)]) rfl ?_
      exact (L 4096).2.1 x2 ((μ.2.1 6) x1.toNatClampNeg) ((μ.2.1 8) x1.toNatClampNeg) ((μ.2.1 9) x1.toNatClampNeg) x3 0 0 0 0 _ _ hM h
    · skip
      have h := (if_neg h49).symm.trans h
      refine z_iload X d_Mod_unfold_52 rfl ?_
      refine z_iload X d_Mod_unfold_54 rfl ?_
      refine z_icmp_eq X 70 d_Mod_unfold_56 (by decide) (fun h56 => ?_) (fun h56 => ?_)
      · skip
        have h := (if_pos h56).symm.trans h
        refine zW.pick [0, 2, 4, 5, 6, 7] (lv' := [(0, .ref (A 38)), (2, .int x2), (4, .int ((μ.2.1 6) x1.toNatClampNeg)), (5, .int ((μ.2.1 8) x1.toNatClampNeg)), (6, .int ((μ.2.1 9) x1.toNatClampNeg)), (7, .int x3)]) rfl ?_
        exact (L 4096).1 x2 ((μ.2.1 6) x1.toNatClampNeg) ((μ.2.1 8) x1.toNatClampNeg) ((μ.2.1 9) x1.toNatClampNeg) x3 0 0 0 0 _ _ hM h
      · skip
        have h := (if_neg h56).symm.trans h
        refine z_iload X d_Mod_unfold_59 rfl ?_
        refine z_iconst X d_Mod_unfold_61 (v := 1) (by decide) ?_
        refine z_icmp_ne X 74 d_Mod_unfold_62 (by decide) (fun h62 => ?_) (fun h62 => ?_)
        · skip
          have h := (if_neg h62).symm.trans h
          refine zW.pick [0, 2, 4, 5, 6, 7] (lv' := [(0, .ref (A 38)), (2, .int x2), (4, .int ((μ.2.1 6) x1.toNatClampNeg)), (5, .int ((μ.2.1 8) x1.toNatClampNeg)), (6, .int ((μ.2.1 9) x1.toNatClampNeg)), (7, .int x3)]) rfl ?_
          exact (L 4096).2.1 x2 ((μ.2.1 6) x1.toNatClampNeg) ((μ.2.1 8) x1.toNatClampNeg) ((μ.2.1 9) x1.toNatClampNeg) x3 0 0 0 0 _ _ hM h
        · skip
          have h := (if_pos h62).symm.trans h
          refine z_iload X d_Mod_unfold_65 rfl ?_
          refine z_if_ne X 74 d_Mod_unfold_67 (by decide) (fun h67 => ?_) (fun h67 => ?_)
          · skip
            have h := (if_neg h67).symm.trans h
            refine zW.pick [0, 2, 4, 5, 6, 7] (lv' := [(0, .ref (A 38)), (2, .int x2), (4, .int ((μ.2.1 6) x1.toNatClampNeg)), (5, .int ((μ.2.1 8) x1.toNatClampNeg)), (6, .int ((μ.2.1 9) x1.toNatClampNeg)), (7, .int x3)]) rfl ?_
            exact (L 4096).2.1 x2 ((μ.2.1 6) x1.toNatClampNeg) ((μ.2.1 8) x1.toNatClampNeg) ((μ.2.1 9) x1.toNatClampNeg) x3 0 0 0 0 _ _ hM h
          · skip
            have h := (if_pos h67).symm.trans h
            refine zW.pick [0, 2, 4, 5, 6, 7] (lv' := [(0, .ref (A 38)), (2, .int x2), (4, .int ((μ.2.1 6) x1.toNatClampNeg)), (5, .int ((μ.2.1 8) x1.toNatClampNeg)), (6, .int ((μ.2.1 9) x1.toNatClampNeg)), (7, .int x3)]) rfl ?_
            exact (L 4096).1 x2 ((μ.2.1 6) x1.toNatClampNeg) ((μ.2.1 8) x1.toNatClampNeg) ((μ.2.1 9) x1.toNatClampNeg) x3 0 0 0 0 _ _ hM h
theorem d_Mod_print_0 : decode prog_10_method_52_code 0 = .ok (.aload_n 0, 1) := by decide +kernel
theorem d_Mod_print_1 : decode prog_10_method_52_code 1 = .ok (.aload_n 0, 1) := by decide +kernel
theorem d_Mod_print_2 : decode prog_10_method_52_code 2 = .ok (.iload_n 1, 1) := by decide +kernel
theorem d_Mod_print_3 : decode prog_10_method_52_code 3 = .ok (.invokevirtual 197, 3) := by decide +kernel
theorem d_Mod_print_6 : decode prog_10_method_52_code 6 = .ok (.ifCond .eq 7, 3) := by decide +kernel
theorem d_Mod_print_9 : decode prog_10_method_52_code 9 = .ok (.iconst 0, 1) := by decide +kernel
theorem d_Mod_print_10 : decode prog_10_method_52_code 10 = .ok (.goto 4, 3) := by decide +kernel
theorem d_Mod_print_13 : decode prog_10_method_52_code 13 = .ok (.iconst 1, 1) := by decide +kernel
theorem d_Mod_print_14 : decode prog_10_method_52_code 14 = .ok (.putfield 93, 3) := by decide +kernel
theorem d_Mod_print_17 : decode prog_10_method_52_code 17 = .ok (.aload_n 0, 1) := by decide +kernel
theorem d_Mod_print_18 : decode prog_10_method_52_code 18 = .ok (.getfield 93, 3) := by decide +kernel
theorem d_Mod_print_21 : decode prog_10_method_52_code 21 = .ok (.ifCond .le 5, 3) := by decide +kernel
theorem d_Mod_print_24 : decode prog_10_method_52_code 24 = .ok (.iconst 0, 1) := by decide +kernel
theorem d_Mod_print_25 : decode prog_10_method_52_code 25 = .ok (.ireturn, 1) := by decide +kernel
theorem d_Mod_print_26 : decode prog_10_method_52_code 26 = .ok (.aload_n 0, 1) := by decide +kernel
theorem d_Mod_print_27 : decode prog_10_method_52_code 27 = .ok (.iconst 0, 1) := by decide +kernel
theorem d_Mod_print_28 : decode prog_10_method_52_code 28 = .ok (.putfield 241, 3) := by decide +kernel
theorem d_Mod_print_31 : decode prog_10_method_52_code 31 = .ok (.iconst 1, 1) := by decide +kernel
theorem d_Mod_print_32 : decode prog_10_method_52_code 32 = .ok (.istore_n 2, 1) := by decide +kernel
theorem d_Mod_print_33 : decode prog_10_method_52_code 33 = .ok (.aload_n 0, 1) := by decide +kernel
theorem d_Mod_print_34 : decode prog_10_method_52_code 34 = .ok (.getfield 90, 3) := by decide +kernel
theorem d_Mod_print_37 : decode prog_10_method_52_code 37 = .ok (.iconst 0, 1) := by decide +kernel
theorem d_Mod_print_38 : decode prog_10_method_52_code 38 = .ok (.sipush 1000, 3) := by decide +kernel
theorem d_Mod_print_41 : decode prog_10_method_52_code 41 = .ok (.iastore, 1) := by decide +kernel
theorem d_Mod_print_42 : decode prog_10_method_52_code 42 = .ok (.iload_n 2, 1) := by decide +kernel
theorem d_Mod_print_43 : decode prog_10_method_52_code 43 = .ok (.ifCond .le 186, 3) := by decide +kernel
theorem d_Mod_print_46 : decode prog_10_method_52_code 46 = .ok (.iinc 2 (-1), 3) := by decide +kernel
theorem d_Mod_print_49 : decode prog_10_method_52_code 49 = .ok (.aload_n 0, 1) := by decide +kernel
theorem d_Mod_print_50 : decode prog_10_method_52_code 50 = .ok (.getfield 90, 3) := by decide +kernel
theorem d_Mod_print_53 : decode prog_10_method_52_code 53 = .ok (.iload_n 2, 1) := by decide +kernel
theorem d_Mod_print_54 : decode prog_10_method_52_code 54 = .ok (.iaload, 1) := by decide +kernel
theorem d_Mod_print_55 : decode prog_10_method_52_code 55 = .ok (.istore_n 3, 1) := by decide +kernel
theorem d_Mod_print_56 : decode prog_10_method_52_code 56 = .ok (.bipush 40, 2) := by decide +kernel
theorem d_Mod_print_58 : decode prog_10_method_52_code 58 = .ok (.iload_n 1, 1) := by decide +kernel
theorem d_Mod_print_59 : decode prog_10_method_52_code 59 = .ok (.imul, 1) := by decide +kernel
theorem d_Mod_print_60 : decode prog_10_method_52_code 60 = .ok (.iload_n 3, 1) := by decide +kernel
theorem d_Mod_print_61 : decode prog_10_method_52_code 61 = .ok (.iadd, 1) := by decide +kernel
theorem d_Mod_print_62 : decode prog_10_method_52_code 62 = .ok (.sipush 1000, 3) := by decide +kernel
theorem d_Mod_print_65 : decode prog_10_method_52_code 65 = .ok (.isub, 1) := by decide +kernel
theorem d_Mod_print_66 : decode prog_10_method_52_code 66 = .ok (.istore 4, 2) := by decide +kernel
theorem d_Mod_print_68 : decode prog_10_method_52_code 68 = .ok (.iload_n 3, 1) := by decide +kernel
theorem d_Mod_print_69 : decode prog_10_method_52_code 69 = .ok (.sipush 1000, 3) := by decide +kernel
theorem d_Mod_print_72 : decode prog_10_method_52_code 72 = .ok (.if_icmp .ge 11, 3) := by decide +kernel
theorem d_Mod_print_75 : decode prog_10_method_52_code 75 = .ok (.aload_n 0, 1) := by decide +kernel
theorem d_Mod_print_76 : decode prog_10_method_52_code 76 = .ok (.iload_n 3, 1) := by decide +kernel
theorem d_Mod_print_77 : decode prog_10_method_52_code 77 = .ok (.invokevirtual 244, 3) := by decide +kernel
theorem d_Mod_print_80 : decode prog_10_method_52_code 80 = .ok (.goto 146, 3) := by decide +kernel
theorem d_Mod_print_83 : decode prog_10_method_52_code 83 = .ok (.aload_n 0, 1) := by decide +kernel
theorem d_Mod_print_84 : decode prog_10_method_52_code 84 = .ok (.getfield 13, 3) := by decide +kernel
theorem d_Mod_print_87 : decode prog_10_method_52_code 87 = .ok (.iload 4, 2) := by decide +kernel
theorem d_Mod_print_89 : decode prog_10_method_52_code 89 = .ok (.iaload, 1) := by decide +kernel
theorem d_Mod_print_90 : decode prog_10_method_52_code 90 = .ok (.bipush 10, 2) := by decide +kernel
theorem d_Mod_print_92 : decode prog_10_method_52_code 92 = .ok (.if_icmp .le 12, 3) := by decide +kernel
theorem d_Mod_print_95 : decode prog_10_method_52_code 95 = .ok (.aload_n 0, 1) := by decide +kernel
theorem d_Mod_print_96 : decode prog_10_method_52_code 96 = .ok (.iload 4, 2) := by decide +kernel
theorem d_Mod_print_98 : decode prog_10_method_52_code 98 = .ok (.invokevirtual 250, 3) := by decide +kernel
theorem d_Mod_print_101 : decode prog_10_method_52_code 101 = .ok (.goto 125, 3) := by decide +kernel
theorem d_Mod_print_104 : decode prog_10_method_52_code 104 = .ok (.aload_n 0, 1) := by decide +kernel
theorem d_Mod_print_105 : decode prog_10_method_52_code 105 = .ok (.getfield 13, 3) := by decide +kernel
theorem d_Mod_print_108 : decode prog_10_method_52_code 108 = .ok (.iload 4, 2) := by decide +kernel
theorem d_Mod_print_110 : decode prog_10_method_52_code 110 = .ok (.iaload, 1) := by decide +kernel
theorem d_Mod_print_111 : decode prog_10_method_52_code 111 = .ok (.iconst 2, 1) := by decide +kernel
theorem d_Mod_print_112 : decode prog_10_method_52_code 112 = .ok (.if_icmp .ne 9, 3) := by decide +kernel
theorem d_Mod_print_115 : decode prog_10_method_52_code 115 = .ok (.aload_n 0, 1) := by decide +kernel
theorem d_Mod_print_116 : decode prog_10_method_52_code 116 = .ok (.bipush 33, 2) := by decide +kernel
theorem d_Mod_print_118 : decode prog_10_method_52_code 118 = .ok (.invokevirtual 244, 3) := by decide +kernel
theorem d_Mod_print_121 : decode prog_10_method_52_code 121 = .ok (.aload_n 0, 1) := by decide +kernel
theorem d_Mod_print_122 : decode prog_10_method_52_code 122 = .ok (.getfield 13, 3) := by decide +kernel
theorem d_Mod_print_125 : decode prog_10_method_52_code 125 = .ok (.iload 4, 2) := by decide +kernel
theorem d_Mod_print_127 : decode prog_10_method_52_code 127 = .ok (.iaload, 1) := by decide +kernel
theorem d_Mod_print_128 : decode prog_10_method_52_code 128 = .ok (.iconst 3, 1) := by decide +kernel
theorem d_Mod_print_129 : decode prog_10_method_52_code 129 = .ok (.if_icmp .eq 14, 3) := by decide +kernel
theorem d_Mod_print_132 : decode prog_10_method_52_code 132 = .ok (.aload_n 0, 1) := by decide +kernel
theorem d_Mod_print_133 : decode prog_10_method_52_code 133 = .ok (.getfield 13, 3) := by decide +kernel
theorem d_Mod_print_136 : decode prog_10_method_52_code 136 = .ok (.iload 4, 2) := by decide +kernel
theorem d_Mod_print_138 : decode prog_10_method_52_code 138 = .ok (.iaload, 1) := by decide +kernel
theorem d_Mod_print_139 : decode prog_10_method_52_code 139 = .ok (.iconst 4, 1) := by decide +kernel
theorem d_Mod_print_140 : decode prog_10_method_52_code 140 = .ok (.if_icmp .ne 9, 3) := by decide +kernel
theorem d_Mod_print_143 : decode prog_10_method_52_code 143 = .ok (.aload_n 0, 1) := by decide +kernel
theorem d_Mod_print_144 : decode prog_10_method_52_code 144 = .ok (.bipush 97, 2) := by decide +kernel
theorem d_Mod_print_146 : decode prog_10_method_52_code 146 = .ok (.invokevirtual 244, 3) := by decide +kernel
theorem d_Mod_print_149 : decode prog_10_method_52_code 149 = .ok (.aload_n 0, 1) := by decide +kernel
theorem d_Mod_print_150 : decode prog_10_method_52_code 150 = .ok (.getfield 13, 3) := by decide +kernel
theorem d_Mod_print_153 : decode prog_10_method_52_code 153 = .ok (.iload 4, 2) := by decide +kernel
theorem d_Mod_print_155 : decode prog_10_method_52_code 155 = .ok (.iaload, 1) := by decide +kernel
theorem d_Mod_print_156 : decode prog_10_method_52_code 156 = .ok (.iconst 3, 1) := by decide +kernel
theorem d_Mod_print_157 : decode prog_10_method_52_code 157 = .ok (.if_icmp .ne 9, 3) := by decide +kernel
theorem d_Mod_print_160 : decode prog_10_method_52_code 160 = .ok (.aload_n 0, 1) := by decide +kernel
theorem d_Mod_print_161 : decode prog_10_method_52_code 161 = .ok (.bipush 108, 2) := by decide +kernel
theorem d_Mod_print_163 : decode prog_10_method_52_code 163 = .ok (.invokevirtual 244, 3) := by decide +kernel
theorem d_Mod_print_166 : decode prog_10_method_52_code 166 = .ok (.aload_n 0, 1) := by decide +kernel
theorem d_Mod_print_167 : decode prog_10_method_52_code 167 = .ok (.getfield 13, 3) := by decide +kernel
theorem d_Mod_print_170 : decode prog_10_method_52_code 170 = .ok (.iload 4, 2) := by decide +kernel
theorem d_Mod_print_172 : decode prog_10_method_52_code 172 = .ok (.iaload, 1) := by decide +kernel
theorem d_Mod_print_173 : decode prog_10_method_52_code 173 = .ok (.iconst 3, 1) := by decide +kernel
theorem d_Mod_print_174 : decode prog_10_method_52_code 174 = .ok (.if_icmp .ne 9, 3) := by decide +kernel
theorem d_Mod_print_177 : decode prog_10_method_52_code 177 = .ok (.aload_n 0, 1) := by decide +kernel
theorem d_Mod_print_178 : decode prog_10_method_52_code 178 = .ok (.bipush 108, 2) := by decide +kernel
theorem d_Mod_print_180 : decode prog_10_method_52_code 180 = .ok (.invokevirtual 244, 3) := by decide +kernel
theorem d_Mod_print_183 : decode prog_10_method_52_code 183 = .ok (.aload_n 0, 1) := by decide +kernel
theorem d_Mod_print_184 : decode prog_10_method_52_code 184 = .ok (.getfield 13, 3) := by decide +kernel
theorem d_Mod_print_187 : decode prog_10_method_52_code 187 = .ok (.iload 4, 2) := by decide +kernel
theorem d_Mod_print_189 : decode prog_10_method_52_code 189 = .ok (.iaload, 1) := by decide +kernel
theorem d_Mod_print_190 : decode prog_10_method_52_code 190 = .ok (.iconst 4, 1) := by decide +kernel
theorem d_Mod_print_191 : decode prog_10_method_52_code 191 = .ok (.if_icmp .ne 9, 3) := by decide +kernel
theorem d_Mod_print_194 : decode prog_10_method_52_code 194 = .ok (.aload_n 0, 1) := by decide +kernel
theorem d_Mod_print_195 : decode prog_10_method_52_code 195 = .ok (.bipush 110, 2) := by decide +kernel
theorem d_Mod_print_197 : decode prog_10_method_52_code 197 = .ok (.invokevirtual 244, 3) := by decide +kernel
theorem d_Mod_print_200 : decode prog_10_method_52_code 200 = .ok (.aload_n 0, 1) := by decide +kernel
theorem d_Mod_print_201 : decode prog_10_method_52_code 201 = .ok (.getfield 13, 3) := by decide +kernel
theorem d_Mod_print_204 : decode prog_10_method_52_code 204 = .ok (.iload 4, 2) := by decide +kernel
theorem d_Mod_print_206 : decode prog_10_method_52_code 206 = .ok (.iaload, 1) := by decide +kernel
theorem d_Mod_print_207 : decode prog_10_method_52_code 207 = .ok (.iconst 4, 1) := by decide +kernel
theorem d_Mod_print_208 : decode prog_10_method_52_code 208 = .ok (.if_icmp .ne 9, 3) := by decide +kernel
theorem d_Mod_print_211 : decode prog_10_method_52_code 211 = .ok (.aload_n 0, 1) := by decide +kernel
theorem d_Mod_print_212 : decode prog_10_method_52_code 212 = .ok (.bipush 121, 2) := by decide +kernel
theorem d_Mod_print_214 : decode prog_10_method_52_code 214 = .ok (.invokevirtual 244, 3) := by decide +kernel
theorem d_Mod_print_217 : decode prog_10_method_52_code 217 = .ok (.aload_n 0, 1) := by decide +kernel
theorem d_Mod_print_218 : decode prog_10_method_52_code 218 = .ok (.iload 4, 2) := by decide +kernel
theorem d_Mod_print_220 : decode prog_10_method_52_code 220 = .ok (.iload_n 1, 1) := by decide +kernel
theorem d_Mod_print_221 : decode prog_10_method_52_code 221 = .ok (.iload_n 2, 1) := by decide +kernel
theorem d_Mod_print_222 : decode prog_10_method_52_code 222 = .ok (.invokevirtual 253, 3) := by decide +kernel
theorem d_Mod_print_225 : decode prog_10_method_52_code 225 = .ok (.istore_n 2, 1) := by decide +kernel
theorem d_Mod_print_226 : decode prog_10_method_52_code 226 = .ok (.goto (-184), 3) := by decide +kernel
theorem d_Mod_print_229 : decode prog_10_method_52_code 229 = .ok (.aload_n 0, 1) := by decide +kernel
theorem d_Mod_print_230 : decode prog_10_method_52_code 230 = .ok (.getfield 241, 3) := by decide +kernel
theorem d_Mod_print_233 : decode prog_10_method_52_code 233 = .ok (.ireturn, 1) := by decide +kernel
def m_print_B : Nat → Nat → Int32 → Int32 → Int32 → MS → Option (Int32 × MS)
  | 0, _, _, _, _, _ => none
  | n + 1, b, x1, x2, x4, μ => if b = 0 then (if x2 ≤ 0 then some ((μ.1 36), μ) else (if inb (x2 + (-1)) 400 = true then (if 1000 ≤ ((μ.2.1 37) (x2 + (-1)).toNatClampNeg) then (if inb (((40 * x1) + ((μ.2.1 37) (x2 + (-1)).toNatClampNeg)) - 1000) 800 = true then (if ((μ.2.1 6) (((40 * x1) + ((μ.2.1 37) (x2 + (-1)).toNatClampNeg)) - 1000).toNatClampNeg) ≤ 10 then (if ((μ.2.1 6) (((40 * x1) + ((μ.2.1 37) (x2 + (-1)).toNatClampNeg)) - 1000).toNatClampNeg) = 2 then (m_put 33 μ).bind (fun p118 => m_print_B n 1 x1 (x2 + (-1)) (((40 * x1) + ((μ.2.1 37) (x2 + (-1)).toNatClampNeg)) - 1000) p118) else m_print_B n 1 x1 (x2 + (-1)) (((40 * x1) + ((μ.2.1 37) (x2 + (-1)).toNatClampNeg)) - 1000) μ) else (m_putTerm (((40 * x1) + ((μ.2.1 37) (x2 + (-1)).toNatClampNeg)) - 1000) μ).bind (fun p98 => m_print_B n 8 x1 (x2 + (-1)) 0 p98)) else none) else (m_put ((μ.2.1 37) (x2 + (-1)).toNatClampNeg) μ).bind (fun p77 => m_print_B n 8 x1 (x2 + (-1)) 0 p77)) else none))
    else if b = 1 then (if inb x4 800 = true then (if ((μ.2.1 6) x4.toNatClampNeg) = 3 then m_print_B n 2 x1 x2 x4 μ else (if ((μ.2.1 6) x4.toNatClampNeg) = 4 then m_print_B n 2 x1 x2 x4 μ else m_print_B n 3 x1 x2 x4 μ)) else none)
    else if b = 2 then (m_put 97 μ).bind (fun p146 => m_print_B n 3 x1 x2 x4 p146)
    else if b = 3 then (if inb x4 800 = true then (if ((μ.2.1 6) x4.toNatClampNeg) = 3 then (m_put 108 μ).bind (fun p163 => m_print_B n 4 x1 x2 x4 p163) else m_print_B n 4 x1 x2 x4 μ) else none)
    else if b = 4 then (if inb x4 800 = true then (if ((μ.2.1 6) x4.toNatClampNeg) = 3 then (m_put 108 μ).bind (fun p180 => m_print_B n 5 x1 x2 x4 p180) else m_print_B n 5 x1 x2 x4 μ) else none)
    else if b = 5 then (if inb x4 800 = true then (if ((μ.2.1 6) x4.toNatClampNeg) = 4 then (m_put 110 μ).bind (fun p197 => m_print_B n 6 x1 x2 x4 p197) else m_print_B n 6 x1 x2 x4 μ) else none)
    else if b = 6 then (if inb x4 800 = true then (if ((μ.2.1 6) x4.toNatClampNeg) = 4 then (m_put 121 μ).bind (fun p214 => m_print_B n 7 x1 x2 x4 p214) else m_print_B n 7 x1 x2 x4 μ) else none)
    else if b = 7 then (m_unfold x4 x1 x2 μ).bind (fun p222 => m_print_B n 8 x1 p222.1 0 p222.2)
    else m_print_B n 0 x1 x2 0 μ
theorem m_print_b0 (n : Nat) (x1 : Int32) (x2 : Int32) (x4 : Int32) (μ : MS) : m_print_B (n + 1) 0 x1 x2 x4 μ = (if x2 ≤ 0 then some ((μ.1 36), μ) else (if inb (x2 + (-1)) 400 = true then (if 1000 ≤ ((μ.2.1 37) (x2 + (-1)).toNatClampNeg) then (if inb (((40 * x1) + ((μ.2.1 37) (x2 + (-1)).toNatClampNeg)) - 1000) 800 = true then (if ((μ.2.1 6) (((40 * x1) + ((μ.2.1 37) (x2 + (-1)).toNatClampNeg)) - 1000).toNatClampNeg) ≤ 10 then (if ((μ.2.1 6) (((40 * x1) + ((μ.2.1 37) (x2 + (-1)).toNatClampNeg)) - 1000).toNatClampNeg) = 2 then (m_put 33 μ).bind (fun p118 => m_print_B n 1 x1 (x2 + (-1)) (((40 * x1) + ((μ.2.1 37) (x2 + (-1)).toNatClampNeg)) - 1000) p118) else m_print_B n 1 x1 (x2 + (-1)) (((40 * x1) + ((μ.2.1 37) (x2 + (-1)).toNatClampNeg)) - 1000) μ) else (m_putTerm (((40 * x1) + ((μ.2.1 37) (x2 + (-1)).toNatClampNeg)) - 1000) μ).bind (fun p98 => m_print_B n 8 x1 (x2 + (-1)) 0 p98)) else none) else (m_put ((μ.2.1 37) (x2 + (-1)).toNatClampNeg) μ).bind (fun p77 => m_print_B n 8 x1 (x2 + (-1)) 0 p77)) else none)) := by
  rw [m_print_B, if_pos rfl]
theorem m_print_b1 (n : Nat) (x1 : Int32) (x2 : Int32) (x4 : Int32) (μ : MS) : m_print_B (n + 1) 1 x1 x2 x4 μ = (if inb x4 800 = true then (if ((μ.2.1 6) x4.toNatClampNeg) = 3 then m_print_B n 2 x1 x2 x4 μ else (if ((μ.2.1 6) x4.toNatClampNeg) = 4 then m_print_B n 2 x1 x2 x4 μ else m_print_B n 3 x1 x2 x4 μ)) else none) := by
  rw [m_print_B, if_neg (by decide), if_pos rfl]
theorem m_print_b2 (n : Nat) (x1 : Int32) (x2 : Int32) (x4 : Int32) (μ : MS) : m_print_B (n + 1) 2 x1 x2 x4 μ = (m_put 97 μ).bind (fun p146 => m_print_B n 3 x1 x2 x4 p146) := by
  rw [m_print_B, if_neg (by decide), if_neg (by decide), if_pos rfl]
theorem m_print_b3 (n : Nat) (x1 : Int32) (x2 : Int32) (x4 : Int32) (μ : MS) : m_print_B (n + 1) 3 x1 x2 x4 μ = (if inb x4 800 = true then (if ((μ.2.1 6) x4.toNatClampNeg) = 3 then (m_put 108 μ).bind (fun p163 => m_print_B n 4 x1 x2 x4 p163) else m_print_B n 4 x1 x2 x4 μ) else none) := by
  rw [m_print_B, if_neg (by decide), if_neg (by decide), if_neg (by decide), if_pos rfl]
theorem m_print_b4 (n : Nat) (x1 : Int32) (x2 : Int32) (x4 : Int32) (μ : MS) : m_print_B (n + 1) 4 x1 x2 x4 μ = (if inb x4 800 = true then (if ((μ.2.1 6) x4.toNatClampNeg) = 3 then (m_put 108 μ).bind (fun p180 => m_print_B n 5 x1 x2 x4 p180) else m_print_B n 5 x1 x2 x4 μ) else none) := by
  rw [m_print_B, if_neg (by decide), if_neg (by decide), if_neg (by decide), if_neg (by decide), if_pos rfl]
theorem m_print_b5 (n : Nat) (x1 : Int32) (x2 : Int32) (x4 : Int32) (μ : MS) : m_print_B (n + 1) 5 x1 x2 x4 μ = (if inb x4 800 = true then (if ((μ.2.1 6) x4.toNatClampNeg) = 4 then (m_put 110 μ).bind (fun p197 => m_print_B n 6 x1 x2 x4 p197) else m_print_B n 6 x1 x2 x4 μ) else none) := by
  rw [m_print_B, if_neg (by decide), if_neg (by decide), if_neg (by decide), if_neg (by decide), if_neg (by decide), if_pos rfl]
theorem m_print_b6 (n : Nat) (x1 : Int32) (x2 : Int32) (x4 : Int32) (μ : MS) : m_print_B (n + 1) 6 x1 x2 x4 μ = (if inb x4 800 = true then (if ((μ.2.1 6) x4.toNatClampNeg) = 4 then (m_put 121 μ).bind (fun p214 => m_print_B n 7 x1 x2 x4 p214) else m_print_B n 7 x1 x2 x4 μ) else none) := by
  rw [m_print_B, if_neg (by decide), if_neg (by decide), if_neg (by decide), if_neg (by decide), if_neg (by decide), if_neg (by decide), if_pos rfl]
theorem m_print_b7 (n : Nat) (x1 : Int32) (x2 : Int32) (x4 : Int32) (μ : MS) : m_print_B (n + 1) 7 x1 x2 x4 μ = (m_unfold x4 x1 x2 μ).bind (fun p222 => m_print_B n 8 x1 p222.1 0 p222.2) := by
  rw [m_print_B, if_neg (by decide), if_neg (by decide), if_neg (by decide), if_neg (by decide), if_neg (by decide), if_neg (by decide), if_neg (by decide), if_pos rfl]
theorem m_print_b8 (n : Nat) (x1 : Int32) (x2 : Int32) (x4 : Int32) (μ : MS) : m_print_B (n + 1) 8 x1 x2 x4 μ = m_print_B n 0 x1 x2 0 μ := by
  rw [m_print_B, if_neg (by decide), if_neg (by decide), if_neg (by decide), if_neg (by decide), if_neg (by decide), if_neg (by decide), if_neg (by decide), if_neg (by decide)]
def m_print (x1 : Int32) (μ : MS) : Option (Int32 × MS) := (m_isRule x1 μ).bind (fun p3 => (if p3.1 = 0 then some (0, (sI 0 1 p3.2)) else (if inb 0 400 = true then m_print_B 4096 0 x1 1 0 (sA 37 ((0 : Int32).toNatClampNeg) 1000 (sI 36 0 (sI 0 0 p3.2))) else none)))
set_option maxHeartbeats 4000000 in
set_option maxRecDepth 100000 in
theorem c_Mod_print {A : Nat → Nat} {f0 : Nat → va_E} {μ : MS} {x1 : Int32} {res : (Int32 × MS)} (hM : zMf ck b0 N A f0 f μ) (h : m_print x1 μ = some res) : zK l D ck ad b0 y_Mod_print prog_10_method_52_code 5 ((some FieldType.int)) 3 0 0 [.ref (A 38), .int x1] N f (fun r N' f' => r = some (.int res.1) ∧ N = N' ∧ zMf ck b0 N A f0 f' res.2) := by
  refine zM.of zG_w (by decide) (Nat.le_of_ble_eq_true rfl) ?_
  intro zp ze zst zm zar zbe zme zc X hnm hb0
  have L : ∀ n : Nat, (∀ (x1 : Int32) (x2 : Int32) (x4 : Int32) (f1 : Nat → va_E) (μ : MS), zMf ck b0 N A f0 f1 μ → m_print_B n 0 x1 x2 x4 μ = some res → zW zp l ze (zR 3 0 0) zst zm zar zbe zme zc D zcl b0 5 0 0 (MQ zbe (zQ D zcl b0 (fun r N' f' => r = some (.int res.1) ∧ N = N' ∧ zMf ck b0 N A f0 f' res.2)) zar zst 0 0 (zA b0)) N f1 42 [(0, .ref (A 38)), (1, .int x1), (2, .int x2)] []) ∧ (∀ (x1 : Int32) (x2 : Int32) (x4 : Int32) (f1 : Nat → va_E) (μ : MS), zMf ck b0 N A f0 f1 μ → m_print_B n 1 x1 x2 x4 μ = some res → zW zp l ze (zR 3 0 0) zst zm zar zbe zme zc D zcl b0 5 0 0 (MQ zbe (zQ D zcl b0 (fun r N' f' => r = some (.int res.1) ∧ N = N' ∧ zMf ck b0 N A f0 f' res.2)) zar zst 0 0 (zA b0)) N f1 121 [(0, .ref (A 38)), (1, .int x1), (2, .int x2), (4, .int x4)] []) ∧ (∀ (x1 : Int32) (x2 : Int32) (x4 : Int32) (f1 : Nat → va_E) (μ : MS), zMf ck b0 N A f0 f1 μ → m_print_B n 2 x1 x2 x4 μ = some res → zW zp l ze (zR 3 0 0) zst zm zar zbe zme zc D zcl b0 5 0 0 (MQ zbe (zQ D zcl b0 (fun r N' f' => r = some (.int res.1) ∧ N = N' ∧ zMf ck b0 N A f0 f' res.2)) zar zst 0 0 (zA b0)) N f1 143 [(0, .ref (A 38)), (1, .int x1), (2, .int x2), (4, .int x4)] []) ∧ (∀ (x1 : Int32) (x2 : Int32) (x4 : Int32) (f1 : Nat → va_E) (μ : MS), zMf ck b0 N A f0 f1 μ → m_print_B n 3 x1 x2 x4 μ = some res → zW zp l ze (zR 3 0 0) zst zm zar zbe zme zc D zcl b0 5 0 0 (MQ zbe (zQ D zcl b0 (fun r N' f' => r = some (.int res.1) ∧ N = N' ∧ zMf ck b0 N A f0 f' res.2)) zar zst 0 0 (zA b0)) N f1 149 [(0, .ref (A 38)), (1, .int x1), (2, .int x2), (4, .int x4)] []) ∧ (∀ (x1 : Int32) (x2 : Int32) (x4 : Int32) (f1 : Nat → va_E) (μ : MS), zMf ck b0 N A f0 f1 μ → m_print_B n 4 x1 x2 x4 μ = some res → zW zp l ze (zR 3 0 0) zst zm zar zbe zme zc D zcl b0 5 0 0 (MQ zbe (zQ D zcl b0 (fun r N' f' => r = some (.int res.1) ∧ N = N' ∧ zMf ck b0 N A f0 f' res.2)) zar zst 0 0 (zA b0)) N f1 166 [(0, .ref (A 38)), (1, .int x1), (2, .int x2), (4, .int x4)] []) ∧ (∀ (x1 : Int32) (x2 : Int32) (x4 : Int32) (f1 : Nat → va_E) (μ : MS), zMf ck b0 N A f0 f1 μ → m_print_B n 5 x1 x2 x4 μ = some res → zW zp l ze (zR 3 0 0) zst zm zar zbe zme zc D zcl b0 5 0 0 (MQ zbe (zQ D zcl b0 (fun r N' f' => r = some (.int res.1) ∧ N = N' ∧ zMf ck b0 N A f0 f' res.2)) zar zst 0 0 (zA b0)) N f1 183 [(0, .ref (A 38)), (1, .int x1), (2, .int x2), (4, .int x4)] []) ∧ (∀ (x1 : Int32) (x2 : Int32) (x4 : Int32) (f1 : Nat → va_E) (μ : MS), zMf ck b0 N A f0 f1 μ → m_print_B n 6 x1 x2 x4 μ = some res → zW zp l ze (zR 3 0 0) zst zm zar zbe zme zc D zcl b0 5 0 0 (MQ zbe (zQ D zcl b0 (fun r N' f' => r = some (.int res.1) ∧ N = N' ∧ zMf ck b0 N A f0 f' res.2)) zar zst 0 0 (zA b0)) N f1 200 [(0, .ref (A 38)), (1, .int x1), (2, .int x2), (4, .int x4)] []) ∧ (∀ (x1 : Int32) (x2 : Int32) (x4 : Int32) (f1 : Nat → va_E) (μ : MS), zMf ck b0 N A f0 f1 μ → m_print_B n 7 x1 x2 x4 μ = some res → zW zp l ze (zR 3 0 0) zst zm zar zbe zme zc D zcl b0 5 0 0 (MQ zbe (zQ D zcl b0 (fun r N' f' => r = some (.int res.1) ∧ N = N' ∧ zMf ck b0 N A f0 f' res.2)) zar zst 0 0 (zA b0)) N f1 217 [(0, .ref (A 38)), (1, .int x1), (2, .int x2), (4, .int x4)] []) ∧ (∀ (x1 : Int32) (x2 : Int32) (x4 : Int32) (f1 : Nat → va_E) (μ : MS), zMf ck b0 N A f0 f1 μ → m_print_B n 8 x1 x2 x4 μ = some res → zW zp l ze (zR 3 0 0) zst zm zar zbe zme zc D zcl b0 5 0 0 (MQ zbe (zQ D zcl b0 (fun r N' f' => r = some (.int res.1) ∧ N = N' ∧ zMf ck b0 N A f0 f' res.2)) zar zst 0 0 (zA b0)) N f1 226 [(0, .ref (A 38)), (1, .int x1), (2, .int x2)] []) := by
    intro n
    induction n with
    | zero =>
      exact ⟨fun _ _ _ _ _ _ h => (by rw [m_print_B] at h; cases h), fun _ _ _ _ _ _ h => (by rw [m_print_B] at h; cases h), fun _ _ _ _ _ _ h => (by rw [m_print_B] at h; cases h), fun _ _ _ _ _ _ h => (by rw [m_print_B] at h; cases h), fun _ _ _ _ _ _ h => (by rw [m_print_B] at h; cases h), fun _ _ _ _ _ _ h => (by rw [m_print_B] at h; cases h), fun _ _ _ _ _ _ h => (by rw [m_print_B] at h; cases h), fun _ _ _ _ _ _ h => (by rw [m_print_B] at h; cases h), fun _ _ _ _ _ _ h => (by rw [m_print_B] at h; cases h)⟩
    | succ n ih =>
      refine ⟨?_, ?_, ?_, ?_, ?_, ?_, ?_, ?_, ?_⟩
      · intro x1 x2 x4 f1 μ hM h
        rw [m_print_b0] at h
        refine z_iload_n X d_Mod_print_42 rfl ?_
        refine z_if_le X 229 d_Mod_print_43 (by decide) (fun h43 => ?_) (fun h43 => ?_)
        · skip
          have h := (if_pos h43).symm.trans h
          refine z_aload_n X d_Mod_print_229 rfl ?_
          refine z_get X (v := .int (μ.1 36)) d_Mod_print_230 (hM.lo 38 (by decide)) hM.ob cl_Mod in_Mod 36 (by decide) fl_Mod_241 rfl rfl ?_
          have e9 := Option.some.inj h
          subst e9
          exact z_iret X d_Mod_print_233 ⟨rfl, rfl, hM⟩
        · skip
          have h := (if_neg h43).symm.trans h
          refine z_iinc X d_Mod_print_46 rfl (iic (-1) (-1) (by decide) _) (by decide) rfl ?_
          refine z_aload_n X d_Mod_print_49 rfl ?_
          refine z_get X (v := .ref (A 37)) d_Mod_print_50 (hM.lo 38 (by decide)) hM.ob cl_Mod in_Mod 37 (by decide) fl_Mod_90 rfl rfl ?_
          refine z_iload_n X d_Mod_print_53 rfl ?_
          obtain ⟨b54, h⟩ := gd h
          refine z_iald X (g := (μ.2.1 37)) d_Mod_print_54 (hM.lo 37 (by decide)) (hM.iA 37 400 rfl) (t0 := 0) rfl (vp_of b54) ?_
          refine z_istore_n X d_Mod_print_55 (by decide) rfl ?_
          refine z_bipush X d_Mod_print_56 (v := 40) (by decide) ?_
          refine z_iload_n X d_Mod_print_58 rfl ?_
          refine z_imul X d_Mod_print_59 ?_
          refine z_iload_n X d_Mod_print_60 rfl ?_
          refine z_iadd X d_Mod_print_61 ?_
          refine z_sipush X d_Mod_print_62 (v := 1000) (by decide) ?_
          refine z_isub X d_Mod_print_65 ?_
          refine z_istore X d_Mod_print_66 (by decide) rfl ?_
          refine z_iload_n X d_Mod_print_68 rfl ?_
          refine z_sipush X d_Mod_print_69 (v := 1000) (by decide) ?_
          refine z_icmp_ge X 83 d_Mod_print_72 (by decide) (fun h72 => ?_) (fun h72 => ?_)
          · skip
            have h := (if_pos h72).symm.trans h
            refine z_aload_n X d_Mod_print_83 rfl ?_
            refine z_get X (v := .ref (A 6)) d_Mod_print_84 (hM.lo 38 (by decide)) hM.ob cl_Mod in_Mod 6 (by decide) fl_Mod_13 rfl rfl ?_
            refine z_iload X d_Mod_print_87 rfl ?_
            obtain ⟨b89, h⟩ := gd h
            refine z_iald X (g := (μ.2.1 6)) d_Mod_print_89 (hM.lo 6 (by decide)) (hM.iA 6 800 rfl) (t0 := 0) rfl (vp_of b89) ?_
            refine z_bipush X d_Mod_print_90 (v := 10) (by decide) ?_
            refine z_icmp_le X 104 d_Mod_print_92 (by decide) (fun h92 => ?_) (fun h92 => ?_)
            · skip
              have h := (if_pos h92).symm.trans h
              refine z_aload_n X d_Mod_print_104 rfl ?_
              refine z_get X (v := .ref (A 6)) d_Mod_print_105 (hM.lo 38 (by decide)) hM.ob cl_Mod in_Mod 6 (by decide) fl_Mod_13 rfl rfl ?_
              refine z_iload X d_Mod_print_108 rfl ?_
              refine z_iald X (g := (μ.2.1 6)) d_Mod_print_110 (hM.lo 6 (by decide)) (hM.iA 6 800 rfl) (t0 := 0) rfl (vp_of b89) ?_
              refine z_iconst X d_Mod_print_111 (v := 2) (by decide) ?_
              refine z_icmp_ne X 121 d_Mod_print_112 (by decide) (fun h112 => ?_) (fun h112 => ?_)
              · skip
                have h := (if_neg h112).symm.trans h
                refine zW.pick [0, 1, 2, 4] (lv' := [(0, .ref (A 38)), (1, .int x1), (2, .int (x2 + (-1))), (4, .int (((40 * x1) + ((μ.2.1 37) (x2 + (-1)).toNatClampNeg)) - 1000))]) rfl ?_
                exact (ih).2.1 x1 (x2 + (-1)) (((40 * x1) + ((μ.2.1 37) (x2 + (-1)).toNatClampNeg)) - 1000) _ _ hM h
              · skip
                have h := (if_pos h112).symm.trans h
                refine z_aload_n X d_Mod_print_115 rfl ?_
                refine z_bipush X d_Mod_print_116 (v := 33) (by decide) ?_
                obtain ⟨p118, q118, h⟩ := bd h
                refine z_callV X zG_ok (c_Mod_put hM q118) d_Mod_print_118 ⟨(z_cb (n := 1) X.2.2.2.2.1 ml_Mod_244 mc_Mod_put ini_Mod (by decide +kernel) rfl rfl ⟨Nat.le_of_ble_eq_true rfl, Nat.le_of_ble_eq_true rfl⟩), X.2.2.2.2.1 _ im_Mod_put, X.2.2.2.2.1 _ sel_Mod_put⟩ (hM.lo 38 (by decide)) hM.ob cl_Mod rfl rfl (Nat.le_of_ble_eq_true rfl) ⟨Nat.le_of_ble_eq_true rfl, Nat.le_of_ble_eq_true rfl⟩ (fun r N1 f1 hp hN1 => ?_)
                obtain ⟨rfl, rfl, hM⟩ := hp
                refine zW.pick [0, 1, 2, 4] (lv' := [(0, .ref (A 38)), (1, .int x1), (2, .int (x2 + (-1))), (4, .int (((40 * x1) + ((μ.2.1 37) (x2 + (-1)).toNatClampNeg)) - 1000))]) rfl ?_
                exact (ih).2.1 x1 (x2 + (-1)) (((40 * x1) + ((μ.2.1 37) (x2 + (-1)).toNatClampNeg)) - 1000) _ _ hM h
            · skip
              have h := (if_neg h92).symm.trans h
              refine z_aload_n X d_Mod_print_95 rfl ?_
              refine z_iload X d_Mod_print_96 rfl ?_
              obtain ⟨p98, q98, h⟩ := bd h
              refine z_callV X zG_ok (c_Mod_putTerm hM q98) d_Mod_print_98 ⟨(z_cb (n := 1) X.2.2.2.2.1 ml_Mod_250 mc_Mod_putTerm ini_Mod (by decide +kernel) rfl rfl ⟨Nat.le_of_ble_eq_true rfl, Nat.le_of_ble_eq_true rfl⟩), X.2.2.2.2.1 _ im_Mod_putTerm, X.2.2.2.2.1 _ sel_Mod_putTerm⟩ (hM.lo 38 (by decide)) hM.ob cl_Mod rfl rfl (Nat.le_of_ble_eq_true rfl) ⟨Nat.le_of_ble_eq_true rfl, Nat.le_of_ble_eq_true rfl⟩ (fun r N1 f1 hp hN1 => ?_)
              obtain ⟨rfl, rfl, hM⟩ := hp
              refine z_goto X 226 d_Mod_print_101 (by decide) ?_
              refine zW.pick [0, 1, 2] (lv' := [(0, .ref (A 38)), (1, .int x1), (2, .int (x2 + (-1)))]) rfl ?_
              exact (ih).2.2.2.2.2.2.2.2 x1 (x2 + (-1)) 0 _ _ hM h
          · skip
            have h := (if_neg h72).symm.trans h
            refine z_aload_n X d_Mod_print_75 rfl ?_
            refine z_iload_n X d_Mod_print_76 rfl ?_
            obtain ⟨p77, q77, h⟩ := bd h
            refine z_callV X zG_ok (c_Mod_put hM q77) d_Mod_print_77 ⟨(z_cb (n := 1) X.2.2.2.2.1 ml_Mod_244 mc_Mod_put ini_Mod (by decide +kernel) rfl rfl ⟨Nat.le_of_ble_eq_true rfl, Nat.le_of_ble_eq_true rfl⟩), X.2.2.2.2.1 _ im_Mod_put, X.2.2.2.2.1 _ sel_Mod_put⟩ (hM.lo 38 (by decide)) hM.ob cl_Mod rfl rfl (Nat.le_of_ble_eq_true rfl) ⟨Nat.le_of_ble_eq_true rfl, Nat.le_of_ble_eq_true rfl⟩ (fun r N1 f1 hp hN1 => ?_)
            obtain ⟨rfl, rfl, hM⟩ := hp
            refine z_goto X 226 d_Mod_print_80 (by decide) ?_
            refine zW.pick [0, 1, 2] (lv' := [(0, .ref (A 38)), (1, .int x1), (2, .int (x2 + (-1)))]) rfl ?_
            exact (ih).2.2.2.2.2.2.2.2 x1 (x2 + (-1)) 0 _ _ hM h
      · intro x1 x2 x4 f1 μ hM h
        rw [m_print_b1] at h
        refine z_aload_n X d_Mod_print_121 rfl ?_
        refine z_get X (v := .ref (A 6)) d_Mod_print_122 (hM.lo 38 (by decide)) hM.ob cl_Mod in_Mod 6 (by decide) fl_Mod_13 rfl rfl ?_
        refine z_iload X d_Mod_print_125 rfl ?_
        obtain ⟨b127, h⟩ := gd h
        refine z_iald X (g := (μ.2.1 6)) d_Mod_print_127 (hM.lo 6 (by decide)) (hM.iA 6 800 rfl) (t0 := 0) rfl (vp_of b127) ?_
        refine z_iconst X d_Mod_print_128 (v := 3) (by decide) ?_
        refine z_icmp_eq X 143 d_Mod_print_129 (by decide) (fun h129 => ?_) (fun h129 => ?_)
        · skip
          have h := (if_pos h129).symm.trans h
          refine zW.pick [0, 1, 2, 3] (lv' := [(0, .ref (A 38)), (1, .int x1), (2, .int x2), (4, .int x4)]) rfl ?_
          exact (ih).2.2.1 x1 x2 x4 _ _ hM h
        · skip
          have h := (if_neg h129).symm.trans h
          refine z_aload_n X d_Mod_print_132 rfl ?_
          refine z_get X (v := .ref (A 6)) d_Mod_print_133 (hM.lo 38 (by decide)) hM.ob cl_Mod in_Mod 6 (by decide) fl_Mod_13 rfl rfl ?_
          refine z_iload X d_Mod_print_136 rfl ?_
          refine z_iald X (g := (μ.2.1 6)) d_Mod_print_138 (hM.lo 6 (by decide)) (hM.iA 6 800 rfl) (t0 := 0) rfl (vp_of b127) ?_
          refine z_iconst X d_Mod_print_139 (v := 4) (by decide) ?_
          refine z_icmp_ne X 149 d_Mod_print_140 (by decide) (fun h140 => ?_) (fun h140 => ?_)
          · skip
            have h := (if_neg h140).symm.trans h
            refine zW.pick [0, 1, 2, 3] (lv' := [(0, .ref (A 38)), (1, .int x1), (2, .int x2), (4, .int x4)]) rfl ?_
            exact (ih).2.2.2.1 x1 x2 x4 _ _ hM h
          · skip
            have h := (if_pos h140).symm.trans h
            refine zW.pick [0, 1, 2, 3] (lv' := [(0, .ref (A 38)), (1, .int x1), (2, .int x2), (4, .int x4)]) rfl ?_
            exact (ih).2.2.1 x1 x2 x4 _ _ hM h
      · intro x1 x2 x4 f1 μ hM h
        rw [m_print_b2] at h
        refine z_aload_n X d_Mod_print_143 rfl ?_
        refine z_bipush X d_Mod_print_144 (v := 97) (by decide) ?_
        obtain ⟨p146, q146, h⟩ := bd h
        refine z_callV X zG_ok (c_Mod_put hM q146) d_Mod_print_146 ⟨(z_cb (n := 1) X.2.2.2.2.1 ml_Mod_244 mc_Mod_put ini_Mod (by decide +kernel) rfl rfl ⟨Nat.le_of_ble_eq_true rfl, Nat.le_of_ble_eq_true rfl⟩), X.2.2.2.2.1 _ im_Mod_put, X.2.2.2.2.1 _ sel_Mod_put⟩ (hM.lo 38 (by decide)) hM.ob cl_Mod rfl rfl (Nat.le_of_ble_eq_true rfl) ⟨Nat.le_of_ble_eq_true rfl, Nat.le_of_ble_eq_true rfl⟩ (fun r N1 f1 hp hN1 => ?_)
        obtain ⟨rfl, rfl, hM⟩ := hp
        refine zW.pick [0, 1, 2, 3] (lv' := [(0, .ref (A 38)), (1, .int x1), (2, .int x2), (4, .int x4)]) rfl ?_
        exact (ih).2.2.2.1 x1 x2 x4 _ _ hM h
      · intro x1 x2 x4 f1 μ hM h
        rw [m_print_b3] at h
        refine z_aload_n X d_Mod_print_149 rfl ?_
        refine z_get X (v := .ref (A 6)) d_Mod_print_150 (hM.lo 38 (by decide)) hM.ob cl_Mod in_Mod 6 (by decide) fl_Mod_13 rfl rfl ?_
        refine z_iload X d_Mod_print_153 rfl ?_
        obtain ⟨b155, h⟩ := gd h
        refine z_iald X (g := (μ.2.1 6)) d_Mod_print_155 (hM.lo 6 (by decide)) (hM.iA 6 800 rfl) (t0 := 0) rfl (vp_of b155) ?_
        refine z_iconst X d_Mod_print_156 (v := 3) (by decide) ?_
        refine z_icmp_ne X 166 d_Mod_print_157 (by decide) (fun h157 => ?_) (fun h157 => ?_)
        · skip
          have h := (if_neg h157).symm.trans h
          refine zW.pick [0, 1, 2, 3] (lv' := [(0, .ref (A 38)), (1, .int x1), (2, .int x2), (4, .int x4)]) rfl ?_
          exact (ih).2.2.2.2.1 x1 x2 x4 _ _ hM h
        · skip
          have h := (if_pos h157).symm.trans h
          refine z_aload_n X d_Mod_print_160 rfl ?_
          refine z_bipush X d_Mod_print_161 (v := 108) (by decide) ?_
          obtain ⟨p163, q163, h⟩ := bd h
          refine z_callV X zG_ok (c_Mod_put hM q163) d_Mod_print_163 ⟨(z_cb (n := 1) X.2.2.2.2.1 ml_Mod_244 mc_Mod_put ini_Mod (by decide +kernel) rfl rfl ⟨Nat.le_of_ble_eq_true rfl, Nat.le_of_ble_eq_true rfl⟩), X.2.2.2.2.1 _ im_Mod_put, X.2.2.2.2.1 _ sel_Mod_put⟩ (hM.lo 38 (by decide)) hM.ob cl_Mod rfl rfl (Nat.le_of_ble_eq_true rfl) ⟨Nat.le_of_ble_eq_true rfl, Nat.le_of_ble_eq_true rfl⟩ (fun r N1 f1 hp hN1 => ?_)
          obtain ⟨rfl, rfl, hM⟩ := hp
          refine zW.pick [0, 1, 2, 3] (lv' := [(0, .ref (A 38)), (1, .int x1), (2, .int x2), (4, .int x4)]) rfl ?_
          exact (ih).2.2.2.2.1 x1 x2 x4 _ _ hM h
      · intro x1 x2 x4 f1 μ hM h
        rw [m_print_b4] at h
        refine z_aload_n X d_Mod_print_166 rfl ?_
        refine z_get X (v := .ref (A 6)) d_Mod_print_167 (hM.lo 38 (by decide)) hM.ob cl_Mod in_Mod 6 (by decide) fl_Mod_13 rfl rfl ?_
        refine z_iload X d_Mod_print_170 rfl ?_
        obtain ⟨b172, h⟩ := gd h
        refine z_iald X (g := (μ.2.1 6)) d_Mod_print_172 (hM.lo 6 (by decide)) (hM.iA 6 800 rfl) (t0 := 0) rfl (vp_of b172) ?_
        refine z_iconst X d_Mod_print_173 (v := 3) (by decide) ?_
        refine z_icmp_ne X 183 d_Mod_print_174 (by decide) (fun h174 => ?_) (fun h174 => ?_)
        · skip
          have h := (if_neg h174).symm.trans h
          refine zW.pick [0, 1, 2, 3] (lv' := [(0, .ref (A 38)), (1, .int x1), (2, .int x2), (4, .int x4)]) rfl ?_
          exact (ih).2.2.2.2.2.1 x1 x2 x4 _ _ hM h
        · skip
          have h := (if_pos h174).symm.trans h
          refine z_aload_n X d_Mod_print_177 rfl ?_
          refine z_bipush X d_Mod_print_178 (v := 108) (by decide) ?_
          obtain ⟨p180, q180, h⟩ := bd h
          refine z_callV X zG_ok (c_Mod_put hM q180) d_Mod_print_180 ⟨(z_cb (n := 1) X.2.2.2.2.1 ml_Mod_244 mc_Mod_put ini_Mod (by decide +kernel) rfl rfl ⟨Nat.le_of_ble_eq_true rfl, Nat.le_of_ble_eq_true rfl⟩), X.2.2.2.2.1 _ im_Mod_put, X.2.2.2.2.1 _ sel_Mod_put⟩ (hM.lo 38 (by decide)) hM.ob cl_Mod rfl rfl (Nat.le_of_ble_eq_true rfl) ⟨Nat.le_of_ble_eq_true rfl, Nat.le_of_ble_eq_true rfl⟩ (fun r N1 f1 hp hN1 => ?_)
          obtain ⟨rfl, rfl, hM⟩ := hp
          refine zW.pick [0, 1, 2, 3] (lv' := [(0, .ref (A 38)), (1, .int x1), (2, .int x2), (4, .int x4)]) rfl ?_
          exact (ih).2.2.2.2.2.1 x1 x2 x4 _ _ hM h
      · intro x1 x2 x4 f1 μ hM h
        rw [m_print_b5] at h
        refine z_aload_n X d_Mod_print_183 rfl ?_
        refine z_get X (v := .ref (A 6)) d_Mod_print_184 (hM.lo 38 (by decide)) hM.ob cl_Mod in_Mod 6 (by decide) fl_Mod_13 rfl rfl ?_
        refine z_iload X d_Mod_print_187 rfl ?_
        obtain ⟨b189, h⟩ := gd h
        refine z_iald X (g := (μ.2.1 6)) d_Mod_print_189 (hM.lo 6 (by decide)) (hM.iA 6 800 rfl) (t0 := 0) rfl (vp_of b189) ?_
        refine z_iconst X d_Mod_print_190 (v := 4) (by decide) ?_
        refine z_icmp_ne X 200 d_Mod_print_191 (by decide) (fun h191 => ?_) (fun h191 => ?_)
        · skip
          have h := (if_neg h191).symm.trans h
          refine zW.pick [0, 1, 2, 3] (lv' := [(0, .ref (A 38)), (1, .int x1), (2, .int x2), (4, .int x4)]) rfl ?_
          exact (ih).2.2.2.2.2.2.1 x1 x2 x4 _ _ hM h
        · skip
          have h := (if_pos h191).symm.trans h
          refine z_aload_n X d_Mod_print_194 rfl ?_
          refine z_bipush X d_Mod_print_195 (v := 110) (by decide) ?_
          obtain ⟨p197, q197, h⟩ := bd h
          refine z_callV X zG_ok (c_Mod_put hM q197) d_Mod_print_197 ⟨(z_cb (n := 1) X.2.2.2.2.1 ml_Mod_244 mc_Mod_put ini_Mod (by decide +kernel) rfl rfl ⟨Nat.le_of_ble_eq_true rfl, Nat.le_of_ble_eq_true rfl⟩), X.2.2.2.2.1 _ im_Mod_put, X.2.2.2.2.1 _ sel_Mod_put⟩ (hM.lo 38 (by decide)) hM.ob cl_Mod rfl rfl (Nat.le_of_ble_eq_true rfl) ⟨Nat.le_of_ble_eq_true rfl, Nat.le_of_ble_eq_true rfl⟩ (fun r N1 f1 hp hN1 => ?_)
          obtain ⟨rfl, rfl, hM⟩ := hp
          refine zW.pick [0, 1, 2, 3] (lv' := [(0, .ref (A 38)), (1, .int x1), (2, .int x2), (4, .int x4)]) rfl ?_
          exact (ih).2.2.2.2.2.2.1 x1 x2 x4 _ _ hM h
      · intro x1 x2 x4 f1 μ hM h
        rw [m_print_b6] at h
        refine z_aload_n X d_Mod_print_200 rfl ?_
        refine z_get X (v := .ref (A 6)) d_Mod_print_201 (hM.lo 38 (by decide)) hM.ob cl_Mod in_Mod 6 (by decide) fl_Mod_13 rfl rfl ?_
        refine z_iload X d_Mod_print_204 rfl ?_
        obtain ⟨b206, h⟩ := gd h
        refine z_iald X (g := (μ.2.1 6)) d_Mod_print_206 (hM.lo 6 (by decide)) (hM.iA 6 800 rfl) (t0 := 0) rfl (vp_of b206) ?_
        refine z_iconst X d_Mod_print_207 (v := 4) (by decide) ?_
        refine z_icmp_ne X 217 d_Mod_print_208 (by decide) (fun h208 => ?_) (fun h208 => ?_)
        · skip
          have h := (if_neg h208).symm.trans h
          refine zW.pick [0, 1, 2, 3] (lv' := [(0, .ref (A 38)), (1, .int x1), (2, .int x2), (4, .int x4)]) rfl ?_
          exact (ih).2.2.2.2.2.2.2.1 x1 x2 x4 _ _ hM h
        · skip
          have h := (if_pos h208).symm.trans h
          refine z_aload_n X d_Mod_print_211 rfl ?_
          refine z_bipush X d_Mod_print_212 (v := 121) (by decide) ?_
          obtain ⟨p214, q214, h⟩ := bd h
          refine z_callV X zG_ok (c_Mod_put hM q214) d_Mod_print_214 ⟨(z_cb (n := 1) X.2.2.2.2.1 ml_Mod_244 mc_Mod_put ini_Mod (by decide +kernel) rfl rfl ⟨Nat.le_of_ble_eq_true rfl, Nat.le_of_ble_eq_true rfl⟩), X.2.2.2.2.1 _ im_Mod_put, X.2.2.2.2.1 _ sel_Mod_put⟩ (hM.lo 38 (by decide)) hM.ob cl_Mod rfl rfl (Nat.le_of_ble_eq_true rfl) ⟨Nat.le_of_ble_eq_true rfl, Nat.le_of_ble_eq_true rfl⟩ (fun r N1 f1 hp hN1 => ?_)
          obtain ⟨rfl, rfl, hM⟩ := hp
          refine zW.pick [0, 1, 2, 3] (lv' := [(0, .ref (A 38)), (1, .int x1), (2, .int x2), (4, .int x4)]) rfl ?_
          exact (ih).2.2.2.2.2.2.2.1 x1 x2 x4 _ _ hM h
      · intro x1 x2 x4 f1 μ hM h
        rw [m_print_b7] at h
        refine z_aload_n X d_Mod_print_217 rfl ?_
        refine z_iload X d_Mod_print_218 rfl ?_
        refine z_iload_n X d_Mod_print_220 rfl ?_
        refine z_iload_n X d_Mod_print_221 rfl ?_
        obtain ⟨p222, q222, h⟩ := bd h
        refine z_callV X zG_ok (c_Mod_unfold hM q222) d_Mod_print_222 ⟨(z_cb (n := 3) X.2.2.2.2.1 ml_Mod_253 mc_Mod_unfold ini_Mod (by decide +kernel) rfl rfl ⟨Nat.le_of_ble_eq_true rfl, Nat.le_of_ble_eq_true rfl⟩), X.2.2.2.2.1 _ im_Mod_unfold, X.2.2.2.2.1 _ sel_Mod_unfold⟩ (hM.lo 38 (by decide)) hM.ob cl_Mod rfl rfl (Nat.le_of_ble_eq_true rfl) ⟨Nat.le_of_ble_eq_true rfl, Nat.le_of_ble_eq_true rfl⟩ (fun r N1 f1 hp hN1 => ?_)
        obtain ⟨rfl, rfl, hM⟩ := hp
        refine z_istore_n X d_Mod_print_225 (by decide) rfl ?_
        refine zW.pick [0, 1, 2] (lv' := [(0, .ref (A 38)), (1, .int x1), (2, .int p222.1)]) rfl ?_
        exact (ih).2.2.2.2.2.2.2.2 x1 p222.1 0 _ _ hM h
      · intro x1 x2 x4 f1 μ hM h
        rw [m_print_b8] at h
        refine z_goto X 42 d_Mod_print_226 (by decide) ?_
        refine zW.pick [0, 1, 2] (lv' := [(0, .ref (A 38)), (1, .int x1), (2, .int x2)]) rfl ?_
        exact (ih).1 x1 x2 0 _ _ hM h
  rw [m_print] at h
  refine z_aload_n X d_Mod_print_0 rfl ?_
  refine z_aload_n X d_Mod_print_1 rfl ?_
  refine z_iload_n X d_Mod_print_2 rfl ?_
  obtain ⟨p3, q3, h⟩ := bd h
  refine z_callV X zG_ok (c_Mod_isRule hM q3) d_Mod_print_3 ⟨(z_cb (n := 1) X.2.2.2.2.1 ml_Mod_197 mc_Mod_isRule ini_Mod (by decide +kernel) rfl rfl ⟨Nat.le_of_ble_eq_true rfl, Nat.le_of_ble_eq_true rfl⟩), X.2.2.2.2.1 _ im_Mod_isRule, X.2.2.2.2.1 _ sel_Mod_isRule⟩ (hM.lo 38 (by decide)) hM.ob cl_Mod rfl rfl (Nat.le_of_ble_eq_true rfl) ⟨Nat.le_of_ble_eq_true rfl, Nat.le_of_ble_eq_true rfl⟩ (fun r N1 f1 hp hN1 => ?_)
  obtain ⟨rfl, rfl, hM⟩ := hp
  refine z_if_eq X 13 d_Mod_print_6 (by decide) (fun h6 => ?_) (fun h6 => ?_)
  · skip
    have h := (if_pos h6).symm.trans h
    refine z_iconst X d_Mod_print_13 (v := 1) (by decide) ?_
    refine z_putM X t_Mod ty_Mod n_Mod d_Mod_print_14 hM cl_Mod in_Mod 0 (by decide) fl_Mod_93 rfl rfl rfl (by decide) rfl (fun hM => ?_)
    refine z_aload_n X d_Mod_print_17 rfl ?_
    refine z_get X (v := .int 1) d_Mod_print_18 (hM.lo 38 (by decide)) hM.ob cl_Mod in_Mod 0 (by decide) fl_Mod_93 rfl rfl ?_
    refine z_if_le X 26 d_Mod_print_21 (by decide) (fun h21 => ?_) (fun h21 => ?_)
    · skip
      exact absurd h21 (by decide)
    · skip
      refine z_iconst X d_Mod_print_24 (v := 0) (by decide) ?_
      have e9 := Option.some.inj h
      subst e9
      exact z_iret X d_Mod_print_25 ⟨rfl, rfl, hM⟩
  · skip
    have h := (if_neg h6).symm.trans h
    refine z_iconst X d_Mod_print_9 (v := 0) (by decide) ?_
    refine z_goto X 14 d_Mod_print_10 (by decide) ?_
    refine z_putM X t_Mod ty_Mod n_Mod d_Mod_print_14 hM cl_Mod in_Mod 0 (by decide) fl_Mod_93 rfl rfl rfl (by decide) rfl (fun hM => ?_)
    refine z_aload_n X d_Mod_print_17 rfl ?_
    refine z_get X (v := .int 0) d_Mod_print_18 (hM.lo 38 (by decide)) hM.ob cl_Mod in_Mod 0 (by decide) fl_Mod_93 rfl rfl ?_
    refine z_if_le X 26 d_Mod_print_21 (by decide) (fun h21 => ?_) (fun h21 => ?_)
    · skip
      refine z_aload_n X d_Mod_print_26 rfl ?_
      refine z_iconst X d_Mod_print_27 (v := 0) (by decide) ?_
      refine z_putM X t_Mod ty_Mod n_Mod d_Mod_print_28 hM cl_Mod in_Mod 36 (by decide) fl_Mod_241 rfl rfl rfl (by decide) rfl (fun hM => ?_)
      refine z_iconst X d_Mod_print_31 (v := 1) (by decide) ?_
      refine z_istore_n X d_Mod_print_32 (by decide) rfl ?_
      refine z_aload_n X d_Mod_print_33 rfl ?_
      refine z_get X (v := .ref (A 37)) d_Mod_print_34 (hM.lo 38 (by decide)) hM.ob cl_Mod in_Mod 37 (by decide) fl_Mod_90 rfl rfl ?_
      refine z_iconst X d_Mod_print_37 (v := 0) (by decide) ?_
      refine z_sipush X d_Mod_print_38 (v := 1000) (by decide) ?_
      obtain ⟨b41, h⟩ := gd h
      refine z_iastM X d_Mod_print_41 hM 37 400 rfl rfl (vp_of b41) (fun hM => ?_)
      refine zW.pick [0, 1, 2] (lv' := [(0, .ref (A 38)), (1, .int x1), (2, .int 1)]) rfl ?_
      exact (L 4096).1 x1 1 0 _ _ hM h
    · skip
      exact absurd h21 (by decide)
theorem d_Mod_at_0 : decode prog_10_method_53_code 0 = .ok (.aload_n 0, 1) := by decide +kernel
theorem d_Mod_at_1 : decode prog_10_method_53_code 1 = .ok (.iload_n 1, 1) := by decide +kernel
theorem d_Mod_at_2 : decode prog_10_method_53_code 2 = .ok (.ifCond .lt 15, 3) := by decide +kernel
theorem d_Mod_at_5 : decode prog_10_method_53_code 5 = .ok (.iload_n 1, 1) := by decide +kernel
theorem d_Mod_at_6 : decode prog_10_method_53_code 6 = .ok (.aload_n 0, 1) := by decide +kernel
theorem d_Mod_at_7 : decode prog_10_method_53_code 7 = .ok (.getfield 241, 3) := by decide +kernel
theorem d_Mod_at_10 : decode prog_10_method_53_code 10 = .ok (.if_icmp .ge 7, 3) := by decide +kernel
theorem d_Mod_at_13 : decode prog_10_method_53_code 13 = .ok (.iconst 0, 1) := by decide +kernel
theorem d_Mod_at_14 : decode prog_10_method_53_code 14 = .ok (.goto 4, 3) := by decide +kernel
theorem d_Mod_at_17 : decode prog_10_method_53_code 17 = .ok (.iconst 1, 1) := by decide +kernel
theorem d_Mod_at_18 : decode prog_10_method_53_code 18 = .ok (.putfield 93, 3) := by decide +kernel
theorem d_Mod_at_21 : decode prog_10_method_53_code 21 = .ok (.aload_n 0, 1) := by decide +kernel
theorem d_Mod_at_22 : decode prog_10_method_53_code 22 = .ok (.getfield 93, 3) := by decide +kernel
theorem d_Mod_at_25 : decode prog_10_method_53_code 25 = .ok (.ifCond .le 7, 3) := by decide +kernel
theorem d_Mod_at_28 : decode prog_10_method_53_code 28 = .ok (.iconst 0, 1) := by decide +kernel
theorem d_Mod_at_29 : decode prog_10_method_53_code 29 = .ok (.goto 9, 3) := by decide +kernel
theorem d_Mod_at_32 : decode prog_10_method_53_code 32 = .ok (.aload_n 0, 1) := by decide +kernel
theorem d_Mod_at_33 : decode prog_10_method_53_code 33 = .ok (.getfield 87, 3) := by decide +kernel
theorem d_Mod_at_36 : decode prog_10_method_53_code 36 = .ok (.iload_n 1, 1) := by decide +kernel
theorem d_Mod_at_37 : decode prog_10_method_53_code 37 = .ok (.iaload, 1) := by decide +kernel
theorem d_Mod_at_38 : decode prog_10_method_53_code 38 = .ok (.ireturn, 1) := by decide +kernel
def m_at (x1 : Int32) (μ : MS) : Option (Int32 × MS) := (if x1 < 0 then some (0, (sI 0 1 μ)) else (if (μ.1 36) ≤ x1 then some (0, (sI 0 1 μ)) else (if inb x1 2000 = true then some (((μ.2.1 35) x1.toNatClampNeg), (sI 0 0 μ)) else none)))
set_option maxHeartbeats 4000000 in
set_option maxRecDepth 100000 in
theorem c_Mod_at {A : Nat → Nat} {f0 : Nat → va_E} {μ : MS} {x1 : Int32} {res : (Int32 × MS)} (hM : zMf ck b0 N A f0 f μ) (h : m_at x1 μ = some res) : zK l D ck ad b0 y_Mod_at prog_10_method_53_code 2 ((some FieldType.int)) 0 0 0 [.ref (A 38), .int x1] N f (fun r N' f' => r = some (.int res.1) ∧ N = N' ∧ zMf ck b0 N A f0 f' res.2) := by
  refine zM.of zG_w (by decide) (Nat.le_of_ble_eq_true rfl) ?_
  intro zp ze zst zm zar zbe zme zc X hnm hb0
  rw [m_at] at h
  refine z_aload_n X d_Mod_at_0 rfl ?_
  refine z_iload_n X d_Mod_at_1 rfl ?_
  refine z_if_lt X 17 d_Mod_at_2 (by decide) (fun h2 => ?_) (fun h2 => ?_)
  · skip
    have h := (if_pos h2).symm.trans h
    refine z_iconst X d_Mod_at_17 (v := 1) (by decide) ?_
    refine z_putM X t_Mod ty_Mod n_Mod d_Mod_at_18 hM cl_Mod in_Mod 0 (by decide) fl_Mod_93 rfl rfl rfl (by decide) rfl (fun hM => ?_)
    refine z_aload_n X d_Mod_at_21 rfl ?_
    refine z_get X (v := .int 1) d_Mod_at_22 (hM.lo 38 (by decide)) hM.ob cl_Mod in_Mod 0 (by decide) fl_Mod_93 rfl rfl ?_
    refine z_if_le X 32 d_Mod_at_25 (by decide) (fun h25 => ?_) (fun h25 => ?_)
    · skip
      exact absurd h25 (by decide)
    · skip
      refine z_iconst X d_Mod_at_28 (v := 0) (by decide) ?_
      refine z_goto X 38 d_Mod_at_29 (by decide) ?_
      have e9 := Option.some.inj h
      subst e9
      exact z_iret X d_Mod_at_38 ⟨rfl, rfl, hM⟩
  · skip
    have h := (if_neg h2).symm.trans h
    refine z_iload_n X d_Mod_at_5 rfl ?_
    refine z_aload_n X d_Mod_at_6 rfl ?_
    refine z_get X (v := .int (μ.1 36)) d_Mod_at_7 (hM.lo 38 (by decide)) hM.ob cl_Mod in_Mod 36 (by decide) fl_Mod_241 rfl rfl ?_
    refine z_icmp_ge X 17 d_Mod_at_10 (by decide) (fun h10 => ?_) (fun h10 => ?_)
    · skip
      have h := (if_pos h10).symm.trans h
      refine z_iconst X d_Mod_at_17 (v := 1) (by decide) ?_
      refine z_putM X t_Mod ty_Mod n_Mod d_Mod_at_18 hM cl_Mod in_Mod 0 (by decide) fl_Mod_93 rfl rfl rfl (by decide) rfl (fun hM => ?_)
      refine z_aload_n X d_Mod_at_21 rfl ?_
      refine z_get X (v := .int 1) d_Mod_at_22 (hM.lo 38 (by decide)) hM.ob cl_Mod in_Mod 0 (by decide) fl_Mod_93 rfl rfl ?_
      refine z_if_le X 32 d_Mod_at_25 (by decide) (fun h25 => ?_) (fun h25 => ?_)
      · skip
        exact absurd h25 (by decide)
      · skip
        refine z_iconst X d_Mod_at_28 (v := 0) (by decide) ?_
        refine z_goto X 38 d_Mod_at_29 (by decide) ?_
        have e9 := Option.some.inj h
        subst e9
        exact z_iret X d_Mod_at_38 ⟨rfl, rfl, hM⟩
    · skip
      have h := (if_neg h10).symm.trans h
      refine z_iconst X d_Mod_at_13 (v := 0) (by decide) ?_
      refine z_goto X 18 d_Mod_at_14 (by decide) ?_
      refine z_putM X t_Mod ty_Mod n_Mod d_Mod_at_18 hM cl_Mod in_Mod 0 (by decide) fl_Mod_93 rfl rfl rfl (by decide) rfl (fun hM => ?_)
      refine z_aload_n X d_Mod_at_21 rfl ?_
      refine z_get X (v := .int 0) d_Mod_at_22 (hM.lo 38 (by decide)) hM.ob cl_Mod in_Mod 0 (by decide) fl_Mod_93 rfl rfl ?_
      refine z_if_le X 32 d_Mod_at_25 (by decide) (fun h25 => ?_) (fun h25 => ?_)
      · skip
        refine z_aload_n X d_Mod_at_32 rfl ?_
        refine z_get X (v := .ref (A 35)) d_Mod_at_33 (hM.lo 38 (by decide)) hM.ob cl_Mod in_Mod 35 (by decide) fl_Mod_87 rfl rfl ?_
        refine z_iload_n X d_Mod_at_36 rfl ?_
        obtain ⟨b37, h⟩ := gd h
        refine z_iald X (g := (μ.2.1 35)) d_Mod_at_37 (hM.lo 35 (by decide)) (hM.iA 35 2000 rfl) (t0 := 0) rfl (vp_of b37) ?_
        have e9 := Option.some.inj h
        subst e9
        exact z_iret X d_Mod_at_38 ⟨rfl, rfl, hM⟩
      · skip
        exact absurd h25 (by decide)
theorem d_Mod_count_0 : decode prog_10_method_54_code 0 = .ok (.aload_n 0, 1) := by decide +kernel
theorem d_Mod_count_1 : decode prog_10_method_54_code 1 = .ok (.iconst 0, 1) := by decide +kernel
theorem d_Mod_count_2 : decode prog_10_method_54_code 2 = .ok (.putfield 93, 3) := by decide +kernel
theorem d_Mod_count_5 : decode prog_10_method_54_code 5 = .ok (.iload_n 1, 1) := by decide +kernel
theorem d_Mod_count_6 : decode prog_10_method_54_code 6 = .ok (.bipush 100, 2) := by decide +kernel
theorem d_Mod_count_8 : decode prog_10_method_54_code 8 = .ok (.if_icmp .lt 28, 3) := by decide +kernel
theorem d_Mod_count_11 : decode prog_10_method_54_code 11 = .ok (.aload_n 0, 1) := by decide +kernel
theorem d_Mod_count_12 : decode prog_10_method_54_code 12 = .ok (.iload_n 1, 1) := by decide +kernel
theorem d_Mod_count_13 : decode prog_10_method_54_code 13 = .ok (.bipush 100, 2) := by decide +kernel
theorem d_Mod_count_15 : decode prog_10_method_54_code 15 = .ok (.isub, 1) := by decide +kernel
theorem d_Mod_count_16 : decode prog_10_method_54_code 16 = .ok (.invokevirtual 197, 3) := by decide +kernel
theorem d_Mod_count_19 : decode prog_10_method_54_code 19 = .ok (.ifCond .eq 15, 3) := by decide +kernel
theorem d_Mod_count_22 : decode prog_10_method_54_code 22 = .ok (.aload_n 0, 1) := by decide +kernel
theorem d_Mod_count_23 : decode prog_10_method_54_code 23 = .ok (.getfield 25, 3) := by decide +kernel
theorem d_Mod_count_26 : decode prog_10_method_54_code 26 = .ok (.iload_n 1, 1) := by decide +kernel
theorem d_Mod_count_27 : decode prog_10_method_54_code 27 = .ok (.bipush 100, 2) := by decide +kernel
theorem d_Mod_count_29 : decode prog_10_method_54_code 29 = .ok (.isub, 1) := by decide +kernel
theorem d_Mod_count_30 : decode prog_10_method_54_code 30 = .ok (.iaload, 1) := by decide +kernel
theorem d_Mod_count_31 : decode prog_10_method_54_code 31 = .ok (.goto 4, 3) := by decide +kernel
theorem d_Mod_count_34 : decode prog_10_method_54_code 34 = .ok (.iconst (-1), 1) := by decide +kernel
theorem d_Mod_count_35 : decode prog_10_method_54_code 35 = .ok (.ireturn, 1) := by decide +kernel
theorem d_Mod_count_36 : decode prog_10_method_54_code 36 = .ok (.iconst 0, 1) := by decide +kernel
theorem d_Mod_count_37 : decode prog_10_method_54_code 37 = .ok (.istore_n 2, 1) := by decide +kernel
theorem d_Mod_count_38 : decode prog_10_method_54_code 38 = .ok (.iconst 0, 1) := by decide +kernel
theorem d_Mod_count_39 : decode prog_10_method_54_code 39 = .ok (.istore_n 3, 1) := by decide +kernel
theorem d_Mod_count_40 : decode prog_10_method_54_code 40 = .ok (.iconst 0, 1) := by decide +kernel
theorem d_Mod_count_41 : decode prog_10_method_54_code 41 = .ok (.istore 4, 2) := by decide +kernel
theorem d_Mod_count_43 : decode prog_10_method_54_code 43 = .ok (.iload 4, 2) := by decide +kernel
theorem d_Mod_count_45 : decode prog_10_method_54_code 45 = .ok (.aload_n 0, 1) := by decide +kernel
theorem d_Mod_count_46 : decode prog_10_method_54_code 46 = .ok (.getfield 97, 3) := by decide +kernel
theorem d_Mod_count_49 : decode prog_10_method_54_code 49 = .ok (.if_icmp .ge 65, 3) := by decide +kernel
theorem d_Mod_count_52 : decode prog_10_method_54_code 52 = .ok (.iload_n 2, 1) := by decide +kernel
theorem d_Mod_count_53 : decode prog_10_method_54_code 53 = .ok (.aload_n 0, 1) := by decide +kernel
theorem d_Mod_count_54 : decode prog_10_method_54_code 54 = .ok (.getfield 47, 3) := by decide +kernel
theorem d_Mod_count_57 : decode prog_10_method_54_code 57 = .ok (.iload 4, 2) := by decide +kernel
theorem d_Mod_count_59 : decode prog_10_method_54_code 59 = .ok (.baload, 1) := by decide +kernel
theorem d_Mod_count_60 : decode prog_10_method_54_code 60 = .ok (.ifCond .eq 17, 3) := by decide +kernel
theorem d_Mod_count_63 : decode prog_10_method_54_code 63 = .ok (.aload_n 0, 1) := by decide +kernel
theorem d_Mod_count_64 : decode prog_10_method_54_code 64 = .ok (.getfield 31, 3) := by decide +kernel
theorem d_Mod_count_67 : decode prog_10_method_54_code 67 = .ok (.iload 4, 2) := by decide +kernel
theorem d_Mod_count_69 : decode prog_10_method_54_code 69 = .ok (.baload, 1) := by decide +kernel
theorem d_Mod_count_70 : decode prog_10_method_54_code 70 = .ok (.ifCond .eq 7, 3) := by decide +kernel
theorem d_Mod_count_73 : decode prog_10_method_54_code 73 = .ok (.iconst 1, 1) := by decide +kernel
theorem d_Mod_count_74 : decode prog_10_method_54_code 74 = .ok (.goto 4, 3) := by decide +kernel
theorem d_Mod_count_77 : decode prog_10_method_54_code 77 = .ok (.iconst 0, 1) := by decide +kernel
theorem d_Mod_count_78 : decode prog_10_method_54_code 78 = .ok (.iadd, 1) := by decide +kernel
theorem d_Mod_count_79 : decode prog_10_method_54_code 79 = .ok (.istore_n 2, 1) := by decide +kernel
theorem d_Mod_count_80 : decode prog_10_method_54_code 80 = .ok (.iload_n 3, 1) := by decide +kernel
theorem d_Mod_count_81 : decode prog_10_method_54_code 81 = .ok (.aload_n 0, 1) := by decide +kernel
theorem d_Mod_count_82 : decode prog_10_method_54_code 82 = .ok (.getfield 47, 3) := by decide +kernel
theorem d_Mod_count_85 : decode prog_10_method_54_code 85 = .ok (.iload 4, 2) := by decide +kernel
theorem d_Mod_count_87 : decode prog_10_method_54_code 87 = .ok (.baload, 1) := by decide +kernel
theorem d_Mod_count_88 : decode prog_10_method_54_code 88 = .ok (.ifCond .eq 17, 3) := by decide +kernel
theorem d_Mod_count_91 : decode prog_10_method_54_code 91 = .ok (.aload_n 0, 1) := by decide +kernel
theorem d_Mod_count_92 : decode prog_10_method_54_code 92 = .ok (.getfield 31, 3) := by decide +kernel
theorem d_Mod_count_95 : decode prog_10_method_54_code 95 = .ok (.iload 4, 2) := by decide +kernel
theorem d_Mod_count_97 : decode prog_10_method_54_code 97 = .ok (.baload, 1) := by decide +kernel
theorem d_Mod_count_98 : decode prog_10_method_54_code 98 = .ok (.ifCond .ne 7, 3) := by decide +kernel
theorem d_Mod_count_101 : decode prog_10_method_54_code 101 = .ok (.iconst 1, 1) := by decide +kernel
theorem d_Mod_count_102 : decode prog_10_method_54_code 102 = .ok (.goto 4, 3) := by decide +kernel
theorem d_Mod_count_105 : decode prog_10_method_54_code 105 = .ok (.iconst 0, 1) := by decide +kernel
theorem d_Mod_count_106 : decode prog_10_method_54_code 106 = .ok (.iadd, 1) := by decide +kernel
theorem d_Mod_count_107 : decode prog_10_method_54_code 107 = .ok (.istore_n 3, 1) := by decide +kernel
theorem d_Mod_count_108 : decode prog_10_method_54_code 108 = .ok (.iinc 4 1, 3) := by decide +kernel
theorem d_Mod_count_111 : decode prog_10_method_54_code 111 = .ok (.goto (-68), 3) := by decide +kernel
theorem d_Mod_count_114 : decode prog_10_method_54_code 114 = .ok (.iconst 0, 1) := by decide +kernel
theorem d_Mod_count_115 : decode prog_10_method_54_code 115 = .ok (.istore 4, 2) := by decide +kernel
theorem d_Mod_count_117 : decode prog_10_method_54_code 117 = .ok (.iconst 1, 1) := by decide +kernel
theorem d_Mod_count_118 : decode prog_10_method_54_code 118 = .ok (.istore 5, 2) := by decide +kernel
theorem d_Mod_count_120 : decode prog_10_method_54_code 120 = .ok (.iload 5, 2) := by decide +kernel
theorem d_Mod_count_122 : decode prog_10_method_54_code 122 = .ok (.bipush 10, 2) := by decide +kernel
theorem d_Mod_count_124 : decode prog_10_method_54_code 124 = .ok (.if_icmp .ge 31, 3) := by decide +kernel
theorem d_Mod_count_127 : decode prog_10_method_54_code 127 = .ok (.iload 4, 2) := by decide +kernel
theorem d_Mod_count_129 : decode prog_10_method_54_code 129 = .ok (.aload_n 0, 1) := by decide +kernel
theorem d_Mod_count_130 : decode prog_10_method_54_code 130 = .ok (.iload 5, 2) := by decide +kernel
theorem d_Mod_count_132 : decode prog_10_method_54_code 132 = .ok (.invokevirtual 212, 3) := by decide +kernel
theorem d_Mod_count_135 : decode prog_10_method_54_code 135 = .ok (.ifCond .eq 10, 3) := by decide +kernel
theorem d_Mod_count_138 : decode prog_10_method_54_code 138 = .ok (.iconst 1, 1) := by decide +kernel
theorem d_Mod_count_139 : decode prog_10_method_54_code 139 = .ok (.iload 5, 2) := by decide +kernel
theorem d_Mod_count_141 : decode prog_10_method_54_code 141 = .ok (.ishl, 1) := by decide +kernel
theorem d_Mod_count_142 : decode prog_10_method_54_code 142 = .ok (.goto 4, 3) := by decide +kernel
theorem d_Mod_count_145 : decode prog_10_method_54_code 145 = .ok (.iconst 0, 1) := by decide +kernel
theorem d_Mod_count_146 : decode prog_10_method_54_code 146 = .ok (.ior, 1) := by decide +kernel
theorem d_Mod_count_147 : decode prog_10_method_54_code 147 = .ok (.istore 4, 2) := by decide +kernel
theorem d_Mod_count_149 : decode prog_10_method_54_code 149 = .ok (.iinc 5 1, 3) := by decide +kernel
theorem d_Mod_count_152 : decode prog_10_method_54_code 152 = .ok (.goto (-32), 3) := by decide +kernel
theorem d_Mod_count_155 : decode prog_10_method_54_code 155 = .ok (.iload_n 1, 1) := by decide +kernel
theorem d_Mod_count_156 : decode prog_10_method_54_code 156 = .ok (.tableswitch 62 0 5 #[40, 45, 50, 55, 57, 59], 40) := by decide +kernel
theorem d_Mod_count_196 : decode prog_10_method_54_code 196 = .ok (.aload_n 0, 1) := by decide +kernel
theorem d_Mod_count_197 : decode prog_10_method_54_code 197 = .ok (.getfield 104, 3) := by decide +kernel
theorem d_Mod_count_200 : decode prog_10_method_54_code 200 = .ok (.ireturn, 1) := by decide +kernel
theorem d_Mod_count_201 : decode prog_10_method_54_code 201 = .ok (.aload_n 0, 1) := by decide +kernel
theorem d_Mod_count_202 : decode prog_10_method_54_code 202 = .ok (.getfield 97, 3) := by decide +kernel
theorem d_Mod_count_205 : decode prog_10_method_54_code 205 = .ok (.ireturn, 1) := by decide +kernel
theorem d_Mod_count_206 : decode prog_10_method_54_code 206 = .ok (.aload_n 0, 1) := by decide +kernel
theorem d_Mod_count_207 : decode prog_10_method_54_code 207 = .ok (.getfield 231, 3) := by decide +kernel
theorem d_Mod_count_210 : decode prog_10_method_54_code 210 = .ok (.ireturn, 1) := by decide +kernel
theorem d_Mod_count_211 : decode prog_10_method_54_code 211 = .ok (.iload_n 2, 1) := by decide +kernel
theorem d_Mod_count_212 : decode prog_10_method_54_code 212 = .ok (.ireturn, 1) := by decide +kernel
theorem d_Mod_count_213 : decode prog_10_method_54_code 213 = .ok (.iload_n 3, 1) := by decide +kernel
theorem d_Mod_count_214 : decode prog_10_method_54_code 214 = .ok (.ireturn, 1) := by decide +kernel
theorem d_Mod_count_215 : decode prog_10_method_54_code 215 = .ok (.iload 4, 2) := by decide +kernel
theorem d_Mod_count_217 : decode prog_10_method_54_code 217 = .ok (.ireturn, 1) := by decide +kernel
theorem d_Mod_count_218 : decode prog_10_method_54_code 218 = .ok (.iconst (-1), 1) := by decide +kernel
theorem d_Mod_count_219 : decode prog_10_method_54_code 219 = .ok (.ireturn, 1) := by decide +kernel
def m_count_B : Nat → Nat → Int32 → Int32 → Int32 → Int32 → Int32 → MS → Option (Int32 × MS)
  | 0, _, _, _, _, _, _, _ => none
  | n + 1, b, x1, x2, x3, x4, x5, μ => if b = 0 then (if (μ.1 3) ≤ x4 then m_count_B n 1 x1 x2 x3 0 1 μ else (if inb x4 20 = true then (if ((μ.2.1 17) x4.toNatClampNeg) = 0 then m_count_B n 0 x1 (x2 + 0) (x3 + 0) (x4 + 1) 0 μ else (if ((μ.2.1 12) x4.toNatClampNeg) = 0 then m_count_B n 0 x1 (x2 + 0) (x3 + 1) (x4 + 1) 0 μ else m_count_B n 0 x1 (x2 + 1) (x3 + 0) (x4 + 1) 0 μ)) else none))
    else (if 10 ≤ x5 then (if x1 = 0 then some ((μ.1 2), μ) else (if x1 = 1 then some ((μ.1 3), μ) else (if x1 = 2 then some ((μ.1 4), μ) else (if x1 = 3 then some (x2, μ) else (if x1 = 4 then some (x3, μ) else (if x1 = 5 then some (x4, μ) else some ((-1), μ))))))) else (m_isThere x5 μ).bind (fun p132 => (if p132.1 = 0 then m_count_B n 1 x1 x2 x3 (x4 ||| 0) (x5 + 1) p132.2 else m_count_B n 1 x1 x2 x3 (x4 ||| (1 <<< (x5 &&& 31))) (x5 + 1) p132.2)))
theorem m_count_b0 (n : Nat) (x1 : Int32) (x2 : Int32) (x3 : Int32) (x4 : Int32) (x5 : Int32) (μ : MS) : m_count_B (n + 1) 0 x1 x2 x3 x4 x5 μ = (if (μ.1 3) ≤ x4 then m_count_B n 1 x1 x2 x3 0 1 μ else (if inb x4 20 = true then (if ((μ.2.1 17) x4.toNatClampNeg) = 0 then m_count_B n 0 x1 (x2 + 0) (x3 + 0) (x4 + 1) 0 μ else (if ((μ.2.1 12) x4.toNatClampNeg) = 0 then m_count_B n 0 x1 (x2 + 0) (x3 + 1) (x4 + 1) 0 μ else m_count_B n 0 x1 (x2 + 1) (x3 + 0) (x4 + 1) 0 μ)) else none)) := by
  rw [m_count_B, if_pos rfl]
theorem m_count_b1 (n : Nat) (x1 : Int32) (x2 : Int32) (x3 : Int32) (x4 : Int32) (x5 : Int32) (μ : MS) : m_count_B (n + 1) 1 x1 x2 x3 x4 x5 μ = (if 10 ≤ x5 then (if x1 = 0 then some ((μ.1 2), μ) else (if x1 = 1 then some ((μ.1 3), μ) else (if x1 = 2 then some ((μ.1 4), μ) else (if x1 = 3 then some (x2, μ) else (if x1 = 4 then some (x3, μ) else (if x1 = 5 then some (x4, μ) else some ((-1), μ))))))) else (m_isThere x5 μ).bind (fun p132 => (if p132.1 = 0 then m_count_B n 1 x1 x2 x3 (x4 ||| 0) (x5 + 1) p132.2 else m_count_B n 1 x1 x2 x3 (x4 ||| (1 <<< (x5 &&& 31))) (x5 + 1) p132.2))) := by
  rw [m_count_B, if_neg (by decide)]
def m_count (x1 : Int32) (μ : MS) : Option (Int32 × MS) := (if x1 < 100 then m_count_B 4096 0 x1 0 0 0 0 (sI 0 0 μ) else (m_isRule (x1 - 100) (sI 0 0 μ)).bind (fun p16 => (if p16.1 = 0 then some ((-1), p16.2) else (if inb (x1 - 100) 20 = true then some (((p16.2.2.1 10) (x1 - 100).toNatClampNeg), p16.2) else none))))
set_option maxHeartbeats 4000000 in
set_option maxRecDepth 100000 in
theorem c_Mod_count {A : Nat → Nat} {f0 : Nat → va_E} {μ : MS} {x1 : Int32} {res : (Int32 × MS)} (hM : zMf ck b0 N A f0 f μ) (h : m_count x1 μ = some res) : zK l D ck ad b0 y_Mod_count prog_10_method_54_code 6 ((some FieldType.int)) 1 0 0 [.ref (A 38), .int x1] N f (fun r N' f' => r = some (.int res.1) ∧ N = N' ∧ zMf ck b0 N A f0 f' res.2) := by
  refine zM.of zG_w (by decide) (Nat.le_of_ble_eq_true rfl) ?_
  intro zp ze zst zm zar zbe zme zc X hnm hb0
  have L : ∀ n : Nat, (∀ (x1 : Int32) (x2 : Int32) (x3 : Int32) (x4 : Int32) (x5 : Int32) (f1 : Nat → va_E) (μ : MS), zMf ck b0 N A f0 f1 μ → m_count_B n 0 x1 x2 x3 x4 x5 μ = some res → zW zp l ze (zR 1 0 0) zst zm zar zbe zme zc D zcl b0 6 0 0 (MQ zbe (zQ D zcl b0 (fun r N' f' => r = some (.int res.1) ∧ N = N' ∧ zMf ck b0 N A f0 f' res.2)) zar zst 0 0 (zA b0)) N f1 43 [(0, .ref (A 38)), (1, .int x1), (2, .int x2), (3, .int x3), (4, .int x4)] []) ∧ (∀ (x1 : Int32) (x2 : Int32) (x3 : Int32) (x4 : Int32) (x5 : Int32) (f1 : Nat → va_E) (μ : MS), zMf ck b0 N A f0 f1 μ → m_count_B n 1 x1 x2 x3 x4 x5 μ = some res → zW zp l ze (zR 1 0 0) zst zm zar zbe zme zc D zcl b0 6 0 0 (MQ zbe (zQ D zcl b0 (fun r N' f' => r = some (.int res.1) ∧ N = N' ∧ zMf ck b0 N A f0 f' res.2)) zar zst 0 0 (zA b0)) N f1 120 [(0, .ref (A 38)), (1, .int x1), (2, .int x2), (3, .int x3), (4, .int x4), (5, .int x5)] []) := by
    intro n
    induction n with
    | zero =>
      exact ⟨fun _ _ _ _ _ _ _ _ h => (by rw [m_count_B] at h; cases h), fun _ _ _ _ _ _ _ _ h => (by rw [m_count_B] at h; cases h)⟩
    | succ n ih =>
      refine ⟨?_, ?_⟩
      · intro x1 x2 x3 x4 x5 f1 μ hM h
        rw [m_count_b0] at h
        refine z_iload X d_Mod_count_43 rfl ?_
        refine z_aload_n X d_Mod_count_45 rfl ?_
        refine z_get X (v := .int (μ.1 3)) d_Mod_count_46 (hM.lo 38 (by decide)) hM.ob cl_Mod in_Mod 3 (by decide) fl_Mod_97 rfl rfl ?_
        refine z_icmp_ge X 114 d_Mod_count_49 (by decide) (fun h49 => ?_) (fun h49 => ?_)
        · skip
          have h := (if_pos h49).symm.trans h
          refine z_iconst X d_Mod_count_114 (v := 0) (by decide) ?_
          refine z_istore X d_Mod_count_115 (by decide) rfl ?_
          refine z_iconst X d_Mod_count_117 (v := 1) (by decide) ?_
          refine z_istore X d_Mod_count_118 (by decide) rfl ?_
          refine zW.pick [0, 1, 2, 3, 4, 5] (lv' := [(0, .ref (A 38)), (1, .int x1), (2, .int x2), (3, .int x3), (4, .int 0), (5, .int 1)]) rfl ?_
          exact (ih).2 x1 x2 x3 0 1 _ _ hM h
        · skip
          have h := (if_neg h49).symm.trans h
          refine z_iload_n X d_Mod_count_52 rfl ?_
          refine z_aload_n X d_Mod_count_53 rfl ?_
          refine z_get X (v := .ref (A 17)) d_Mod_count_54 (hM.lo 38 (by decide)) hM.ob cl_Mod in_Mod 17 (by decide) fl_Mod_47 rfl rfl ?_
          refine z_iload X d_Mod_count_57 rfl ?_
          obtain ⟨b59, h⟩ := gd h
          refine z_zald X (g := (μ.2.1 17)) d_Mod_count_59 (hM.lo 17 (by decide)) (hM.zA 17 20 rfl) (t0 := 1) rfl (vp_of b59) ?_
          refine z_if_eq X 77 d_Mod_count_60 (by decide) (fun h60 => ?_) (fun h60 => ?_)
          · skip
            have h := (if_pos h60).symm.trans h
            refine z_iconst X d_Mod_count_77 (v := 0) (by decide) ?_
            refine z_iadd X d_Mod_count_78 ?_
            refine z_istore_n X d_Mod_count_79 (by decide) rfl ?_
            refine z_iload_n X d_Mod_count_80 rfl ?_
            refine z_aload_n X d_Mod_count_81 rfl ?_
            refine z_get X (v := .ref (A 17)) d_Mod_count_82 (hM.lo 38 (by decide)) hM.ob cl_Mod in_Mod 17 (by decide) fl_Mod_47 rfl rfl ?_
            refine z_iload X d_Mod_count_85 rfl ?_
            refine z_zald X (g := (μ.2.1 17)) d_Mod_count_87 (hM.lo 17 (by decide)) (hM.zA 17 20 rfl) (t0 := 1) rfl (vp_of b59) ?_
            refine z_if_eq X 105 d_Mod_count_88 (by decide) (fun h88 => ?_) (fun h88 => ?_)
            · skip
              refine z_iconst X d_Mod_count_105 (v := 0) (by decide) ?_
              refine z_iadd X d_Mod_count_106 ?_
              refine z_istore_n X d_Mod_count_107 (by decide) rfl ?_
              refine z_iinc X d_Mod_count_108 rfl (iic 1 1 (by decide) _) (by decide) rfl ?_
              refine z_goto X 43 d_Mod_count_111 (by decide) ?_
              refine zW.pick [0, 1, 2, 3, 4] (lv' := [(0, .ref (A 38)), (1, .int x1), (2, .int (x2 + 0)), (3, .int (x3 + 0)), (4, .int (x4 + 1))]) rfl ?_
              exact (ih).1 x1 (x2 + 0) (x3 + 0) (x4 + 1) 0 _ _ hM h
            · skip
              exact absurd h60 h88
          · skip
            have h := (if_neg h60).symm.trans h
            refine z_aload_n X d_Mod_count_63 rfl ?_
            refine z_get X (v := .ref (A 12)) d_Mod_count_64 (hM.lo 38 (by decide)) hM.ob cl_Mod in_Mod 12 (by decide) fl_Mod_31 rfl rfl ?_
            refine z_iload X d_Mod_count_67 rfl ?_
            refine z_zald X (g := (μ.2.1 12)) d_Mod_count_69 (hM.lo 12 (by decide)) (hM.zA 12 20 rfl) (t0 := 1) rfl (vp_of b59) ?_
            refine z_if_eq X 77 d_Mod_count_70 (by decide) (fun h70 => ?_) (fun h70 => ?_)
            · skip
              have h := (if_pos h70).symm.trans h
              refine z_iconst X d_Mod_count_77 (v := 0) (by decide) ?_
              refine z_iadd X d_Mod_count_78 ?_
              refine z_istore_n X d_Mod_count_79 (by decide) rfl ?_
              refine z_iload_n X d_Mod_count_80 rfl ?_
              refine z_aload_n X d_Mod_count_81 rfl ?_
              refine z_get X (v := .ref (A 17)) d_Mod_count_82 (hM.lo 38 (by decide)) hM.ob cl_Mod in_Mod 17 (by decide) fl_Mod_47 rfl rfl ?_
              refine z_iload X d_Mod_count_85 rfl ?_
              refine z_zald X (g := (μ.2.1 17)) d_Mod_count_87 (hM.lo 17 (by decide)) (hM.zA 17 20 rfl) (t0 := 1) rfl (vp_of b59) ?_
              refine z_if_eq X 105 d_Mod_count_88 (by decide) (fun h88 => ?_) (fun h88 => ?_)
              · skip
                exact absurd h88 h60
              · skip
                refine z_aload_n X d_Mod_count_91 rfl ?_
                refine z_get X (v := .ref (A 12)) d_Mod_count_92 (hM.lo 38 (by decide)) hM.ob cl_Mod in_Mod 12 (by decide) fl_Mod_31 rfl rfl ?_
                refine z_iload X d_Mod_count_95 rfl ?_
                refine z_zald X (g := (μ.2.1 12)) d_Mod_count_97 (hM.lo 12 (by decide)) (hM.zA 12 20 rfl) (t0 := 1) rfl (vp_of b59) ?_
                refine z_if_ne X 105 d_Mod_count_98 (by decide) (fun h98 => ?_) (fun h98 => ?_)
                · skip
                  exact absurd h70 h98
                · skip
                  refine z_iconst X d_Mod_count_101 (v := 1) (by decide) ?_
                  refine z_goto X 106 d_Mod_count_102 (by decide) ?_
                  refine z_iadd X d_Mod_count_106 ?_
                  refine z_istore_n X d_Mod_count_107 (by decide) rfl ?_
                  refine z_iinc X d_Mod_count_108 rfl (iic 1 1 (by decide) _) (by decide) rfl ?_
                  refine z_goto X 43 d_Mod_count_111 (by decide) ?_
                  refine zW.pick [0, 1, 2, 3, 4] (lv' := [(0, .ref (A 38)), (1, .int x1), (2, .int (x2 + 0)), (3, .int (x3 + 1)), (4, .int (x4 + 1))]) rfl ?_
                  exact (ih).1 x1 (x2 + 0) (x3 + 1) (x4 + 1) 0 _ _ hM h
            · skip
              have h := (if_neg h70).symm.trans h
              refine z_iconst X d_Mod_count_73 (v := 1) (by decide) ?_
              refine z_goto X 78 d_Mod_count_74 (by decide) ?_
              refine z_iadd X d_Mod_count_78 ?_
              refine z_istore_n X d_Mod_count_79 (by decide) rfl ?_
              refine z_iload_n X d_Mod_count_80 rfl ?_
              refine z_aload_n X d_Mod_count_81 rfl ?_
              refine z_get X (v := .ref (A 17)) d_Mod_count_82 (hM.lo 38 (by decide)) hM.ob cl_Mod in_Mod 17 (by decide) fl_Mod_47 rfl rfl ?_
              refine z_iload X d_Mod_count_85 rfl ?_
              refine z_zald X (g := (μ.2.1 17)) d_Mod_count_87 (hM.lo 17 (by decide)) (hM.zA 17 20 rfl) (t0 := 1) rfl (vp_of b59) ?_
              refine z_if_eq X 105 d_Mod_count_88 (by decide) (fun h88 => ?_) (fun h88 => ?_)
              · skip
                exact absurd h88 h60
              · skip
                refine z_aload_n X d_Mod_count_91 rfl ?_
                refine z_get X (v := .ref (A 12)) d_Mod_count_92 (hM.lo 38 (by decide)) hM.ob cl_Mod in_Mod 12 (by decide) fl_Mod_31 rfl rfl ?_
                refine z_iload X d_Mod_count_95 rfl ?_
                refine z_zald X (g := (μ.2.1 12)) d_Mod_count_97 (hM.lo 12 (by decide)) (hM.zA 12 20 rfl) (t0 := 1) rfl (vp_of b59) ?_
                refine z_if_ne X 105 d_Mod_count_98 (by decide) (fun h98 => ?_) (fun h98 => ?_)
                · skip
                  refine z_iconst X d_Mod_count_105 (v := 0) (by decide) ?_
                  refine z_iadd X d_Mod_count_106 ?_
                  refine z_istore_n X d_Mod_count_107 (by decide) rfl ?_
                  refine z_iinc X d_Mod_count_108 rfl (iic 1 1 (by decide) _) (by decide) rfl ?_
                  refine z_goto X 43 d_Mod_count_111 (by decide) ?_
                  refine zW.pick [0, 1, 2, 3, 4] (lv' := [(0, .ref (A 38)), (1, .int x1), (2, .int (x2 + 1)), (3, .int (x3 + 0)), (4, .int (x4 + 1))]) rfl ?_
                  exact (ih).1 x1 (x2 + 1) (x3 + 0) (x4 + 1) 0 _ _ hM h
                · skip
                  exact absurd h98 h70
      · intro x1 x2 x3 x4 x5 f1 μ hM h
        rw [m_count_b1] at h
        refine z_iload X d_Mod_count_120 rfl ?_
        refine z_bipush X d_Mod_count_122 (v := 10) (by decide) ?_
        refine z_icmp_ge X 155 d_Mod_count_124 (by decide) (fun h124 => ?_) (fun h124 => ?_)
        · skip
          have h := (if_pos h124).symm.trans h
          refine z_iload_n X d_Mod_count_155 rfl ?_
          refine z_tableL X 218 [196, 201, 206, 211, 213, 215] d_Mod_count_156 (by decide) (by decide) (by decide) (fun i hi hx => ?_) (fun hd => ?_) (by decide)
          · match i, hi, hx with
            | 0, _, hx =>
              have g156 : x1 = (0 : Int32) := hx
              have h := (if_pos g156).symm.trans h
              refine zW.topc (pc' := 196) rfl ?_
              refine z_aload_n X d_Mod_count_196 rfl ?_
              refine z_get X (v := .int (μ.1 2)) d_Mod_count_197 (hM.lo 38 (by decide)) hM.ob cl_Mod in_Mod 2 (by decide) fl_Mod_104 rfl rfl ?_
              have e9 := Option.some.inj h
              subst e9
              exact z_iret X d_Mod_count_200 ⟨rfl, rfl, hM⟩
            | 1, _, hx =>
              have g156 : x1 = (1 : Int32) := hx
              have h := (if_neg (by rw [g156]; decide)).symm.trans h
              have h := (if_pos g156).symm.trans h
              refine zW.topc (pc' := 201) rfl ?_
              refine z_aload_n X d_Mod_count_201 rfl ?_
              refine z_get X (v := .int (μ.1 3)) d_Mod_count_202 (hM.lo 38 (by decide)) hM.ob cl_Mod in_Mod 3 (by decide) fl_Mod_97 rfl rfl ?_
              have e9 := Option.some.inj h
              subst e9
              exact z_iret X d_Mod_count_205 ⟨rfl, rfl, hM⟩
            | 2, _, hx =>
              have g156 : x1 = (2 : Int32) := hx
              have h := (if_neg (by rw [g156]; decide)).symm.trans h
              have h := (if_neg (by rw [g156]; decide)).symm.trans h
              have h := (if_pos g156).symm.trans h
              refine zW.topc (pc' := 206) rfl ?_
              refine z_aload_n X d_Mod_count_206 rfl ?_
              refine z_get X (v := .int (μ.1 4)) d_Mod_count_207 (hM.lo 38 (by decide)) hM.ob cl_Mod in_Mod 4 (by decide) fl_Mod_231 rfl rfl ?_
              have e9 := Option.some.inj h
              subst e9
              exact z_iret X d_Mod_count_210 ⟨rfl, rfl, hM⟩
            | 3, _, hx =>
              have g156 : x1 = (3 : Int32) := hx
              have h := (if_neg (by rw [g156]; decide)).symm.trans h
              have h := (if_neg (by rw [g156]; decide)).symm.trans h
              have h := (if_neg (by rw [g156]; decide)).symm.trans h
              have h := (if_pos g156).symm.trans h
              refine zW.topc (pc' := 211) rfl ?_
              refine z_iload_n X d_Mod_count_211 rfl ?_
              have e9 := Option.some.inj h
              subst e9
              exact z_iret X d_Mod_count_212 ⟨rfl, rfl, hM⟩
            | 4, _, hx =>
              have g156 : x1 = (4 : Int32) := hx
              have h := (if_neg (by rw [g156]; decide)).symm.trans h
              have h := (if_neg (by rw [g156]; decide)).symm.trans h
              have h := (if_neg (by rw [g156]; decide)).symm.trans h
              have h := (if_neg (by rw [g156]; decide)).symm.trans h
              have h := (if_pos g156).symm.trans h
              refine zW.topc (pc' := 213) rfl ?_
              refine z_iload_n X d_Mod_count_213 rfl ?_
              have e9 := Option.some.inj h
              subst e9
              exact z_iret X d_Mod_count_214 ⟨rfl, rfl, hM⟩
            | 5, _, hx =>
              have g156 : x1 = (5 : Int32) := hx
              have h := (if_neg (by rw [g156]; decide)).symm.trans h
              have h := (if_neg (by rw [g156]; decide)).symm.trans h
              have h := (if_neg (by rw [g156]; decide)).symm.trans h
              have h := (if_neg (by rw [g156]; decide)).symm.trans h
              have h := (if_neg (by rw [g156]; decide)).symm.trans h
              have h := (if_pos g156).symm.trans h
              refine zW.topc (pc' := 215) rfl ?_
              refine z_iload X d_Mod_count_215 rfl ?_
              have e9 := Option.some.inj h
              subst e9
              exact z_iret X d_Mod_count_217 ⟨rfl, rfl, hM⟩
            | j + 6, hi, _ => exact absurd hi (by simp)
          · skip
            have h := (if_neg (hd 0 (by decide) : ¬ x1 = (0 : Int32))).symm.trans h
            have h := (if_neg (hd 1 (by decide) : ¬ x1 = (1 : Int32))).symm.trans h
            have h := (if_neg (hd 2 (by decide) : ¬ x1 = (2 : Int32))).symm.trans h
            have h := (if_neg (hd 3 (by decide) : ¬ x1 = (3 : Int32))).symm.trans h
            have h := (if_neg (hd 4 (by decide) : ¬ x1 = (4 : Int32))).symm.trans h
            have h := (if_neg (hd 5 (by decide) : ¬ x1 = (5 : Int32))).symm.trans h
            refine z_iconst X d_Mod_count_218 (v := -1) (by decide) ?_
            have e9 := Option.some.inj h
            subst e9
            exact z_iret X d_Mod_count_219 ⟨rfl, rfl, hM⟩
        · skip
          have h := (if_neg h124).symm.trans h
          refine z_iload X d_Mod_count_127 rfl ?_
          refine z_aload_n X d_Mod_count_129 rfl ?_
          refine z_iload X d_Mod_count_130 rfl ?_
          obtain ⟨p132, q132, h⟩ := bd h
          refine z_callV X zG_ok (c_Mod_isThere hM q132) d_Mod_count_132 ⟨(z_cb (n := 1) X.2.2.2.2.1 ml_Mod_212 mc_Mod_isThere ini_Mod (by decide +kernel) rfl rfl ⟨Nat.le_of_ble_eq_true rfl, Nat.le_of_ble_eq_true rfl⟩), X.2.2.2.2.1 _ im_Mod_isThere, X.2.2.2.2.1 _ sel_Mod_isThere⟩ (hM.lo 38 (by decide)) hM.ob cl_Mod rfl rfl (Nat.le_of_ble_eq_true rfl) ⟨Nat.le_of_ble_eq_true rfl, Nat.le_of_ble_eq_true rfl⟩ (fun r N1 f1 hp hN1 => ?_)
          obtain ⟨rfl, rfl, hM⟩ := hp
          refine z_if_eq X 145 d_Mod_count_135 (by decide) (fun h135 => ?_) (fun h135 => ?_)
          · skip
            have h := (if_pos h135).symm.trans h
            refine z_iconst X d_Mod_count_145 (v := 0) (by decide) ?_
            refine z_ior X d_Mod_count_146 ?_
            refine z_istore X d_Mod_count_147 (by decide) rfl ?_
            refine z_iinc X d_Mod_count_149 rfl (iic 1 1 (by decide) _) (by decide) rfl ?_
            refine z_goto X 120 d_Mod_count_152 (by decide) ?_
            refine zW.pick [0, 1, 2, 3, 4, 5] (lv' := [(0, .ref (A 38)), (1, .int x1), (2, .int x2), (3, .int x3), (4, .int (x4 ||| 0)), (5, .int (x5 + 1))]) rfl ?_
            exact (ih).2 x1 x2 x3 (x4 ||| 0) (x5 + 1) _ _ hM h
          · skip
            have h := (if_neg h135).symm.trans h
            refine z_iconst X d_Mod_count_138 (v := 1) (by decide) ?_
            refine z_iload X d_Mod_count_139 rfl ?_
            refine z_ishl X d_Mod_count_141 ?_
            refine z_goto X 146 d_Mod_count_142 (by decide) ?_
            refine z_ior X d_Mod_count_146 ?_
            refine z_istore X d_Mod_count_147 (by decide) rfl ?_
            refine z_iinc X d_Mod_count_149 rfl (iic 1 1 (by decide) _) (by decide) rfl ?_
            refine z_goto X 120 d_Mod_count_152 (by decide) ?_
            refine zW.pick [0, 1, 2, 3, 4, 5] (lv' := [(0, .ref (A 38)), (1, .int x1), (2, .int x2), (3, .int x3), (4, .int (x4 ||| (1 <<< (x5 &&& 31)))), (5, .int (x5 + 1))]) rfl ?_
            exact (ih).2 x1 x2 x3 (x4 ||| (1 <<< (x5 &&& 31))) (x5 + 1) _ _ hM h
  rw [m_count] at h
  refine z_aload_n X d_Mod_count_0 rfl ?_
  refine z_iconst X d_Mod_count_1 (v := 0) (by decide) ?_
  refine z_putM X t_Mod ty_Mod n_Mod d_Mod_count_2 hM cl_Mod in_Mod 0 (by decide) fl_Mod_93 rfl rfl rfl (by decide) rfl (fun hM => ?_)
  refine z_iload_n X d_Mod_count_5 rfl ?_
  refine z_bipush X d_Mod_count_6 (v := 100) (by decide) ?_
  refine z_icmp_lt X 36 d_Mod_count_8 (by decide) (fun h8 => ?_) (fun h8 => ?_)
  · skip
    have h := (if_pos h8).symm.trans h
    refine z_iconst X d_Mod_count_36 (v := 0) (by decide) ?_
    refine z_istore_n X d_Mod_count_37 (by decide) rfl ?_
    refine z_iconst X d_Mod_count_38 (v := 0) (by decide) ?_
    refine z_istore_n X d_Mod_count_39 (by decide) rfl ?_
    refine z_iconst X d_Mod_count_40 (v := 0) (by decide) ?_
    refine z_istore X d_Mod_count_41 (by decide) rfl ?_
    refine zW.pick [0, 1, 2, 3, 4] (lv' := [(0, .ref (A 38)), (1, .int x1), (2, .int 0), (3, .int 0), (4, .int 0)]) rfl ?_
    exact (L 4096).1 x1 0 0 0 0 _ _ hM h
  · skip
    have h := (if_neg h8).symm.trans h
    refine z_aload_n X d_Mod_count_11 rfl ?_
    refine z_iload_n X d_Mod_count_12 rfl ?_
    refine z_bipush X d_Mod_count_13 (v := 100) (by decide) ?_
    refine z_isub X d_Mod_count_15 ?_
    obtain ⟨p16, q16, h⟩ := bd h
    refine z_callV X zG_ok (c_Mod_isRule hM q16) d_Mod_count_16 ⟨(z_cb (n := 1) X.2.2.2.2.1 ml_Mod_197 mc_Mod_isRule ini_Mod (by decide +kernel) rfl rfl ⟨Nat.le_of_ble_eq_true rfl, Nat.le_of_ble_eq_true rfl⟩), X.2.2.2.2.1 _ im_Mod_isRule, X.2.2.2.2.1 _ sel_Mod_isRule⟩ (hM.lo 38 (by decide)) hM.ob cl_Mod rfl rfl (Nat.le_of_ble_eq_true rfl) ⟨Nat.le_of_ble_eq_true rfl, Nat.le_of_ble_eq_true rfl⟩ (fun r N1 f1 hp hN1 => ?_)
    obtain ⟨rfl, rfl, hM⟩ := hp
    refine z_if_eq X 34 d_Mod_count_19 (by decide) (fun h19 => ?_) (fun h19 => ?_)
    · skip
      have h := (if_pos h19).symm.trans h
      refine z_iconst X d_Mod_count_34 (v := -1) (by decide) ?_
      have e9 := Option.some.inj h
      subst e9
      exact z_iret X d_Mod_count_35 ⟨rfl, rfl, hM⟩
    · skip
      have h := (if_neg h19).symm.trans h
      refine z_aload_n X d_Mod_count_22 rfl ?_
      refine z_get X (v := .ref (A 10)) d_Mod_count_23 (hM.lo 38 (by decide)) hM.ob cl_Mod in_Mod 10 (by decide) fl_Mod_25 rfl rfl ?_
      refine z_iload_n X d_Mod_count_26 rfl ?_
      refine z_bipush X d_Mod_count_27 (v := 100) (by decide) ?_
      refine z_isub X d_Mod_count_29 ?_
      obtain ⟨b30, h⟩ := gd h
      refine z_iald X (g := (p16.2.2.1 10)) d_Mod_count_30 (hM.lo 10 (by decide)) (hM.iA 10 20 rfl) (t0 := 0) rfl (vp_of b30) ?_
      refine z_goto X 35 d_Mod_count_31 (by decide) ?_
      have e9 := Option.some.inj h
      subst e9
      exact z_iret X d_Mod_count_35 ⟨rfl, rfl, hM⟩
theorem d_Mod_check_0 : decode prog_10_method_39_code 0 = .ok (.aload_n 0, 1) := by decide +kernel
theorem d_Mod_check_1 : decode prog_10_method_39_code 1 = .ok (.iconst 0, 1) := by decide +kernel
theorem d_Mod_check_2 : decode prog_10_method_39_code 2 = .ok (.putfield 93, 3) := by decide +kernel
theorem d_Mod_check_5 : decode prog_10_method_39_code 5 = .ok (.aload_n 0, 1) := by decide +kernel
theorem d_Mod_check_6 : decode prog_10_method_39_code 6 = .ok (.dup, 1) := by decide +kernel
theorem d_Mod_check_7 : decode prog_10_method_39_code 7 = .ok (.getfield 231, 3) := by decide +kernel
theorem d_Mod_check_10 : decode prog_10_method_39_code 10 = .ok (.iconst 1, 1) := by decide +kernel
theorem d_Mod_check_11 : decode prog_10_method_39_code 11 = .ok (.iadd, 1) := by decide +kernel
theorem d_Mod_check_12 : decode prog_10_method_39_code 12 = .ok (.putfield 231, 3) := by decide +kernel
theorem d_Mod_check_15 : decode prog_10_method_39_code 15 = .ok (.iconst 0, 1) := by decide +kernel
theorem d_Mod_check_16 : decode prog_10_method_39_code 16 = .ok (.istore_n 1, 1) := by decide +kernel
theorem d_Mod_check_17 : decode prog_10_method_39_code 17 = .ok (.iload_n 1, 1) := by decide +kernel
theorem d_Mod_check_18 : decode prog_10_method_39_code 18 = .ok (.aload_n 0, 1) := by decide +kernel
theorem d_Mod_check_19 : decode prog_10_method_39_code 19 = .ok (.getfield 97, 3) := by decide +kernel
theorem d_Mod_check_22 : decode prog_10_method_39_code 22 = .ok (.if_icmp .ge 150, 3) := by decide +kernel
theorem d_Mod_check_25 : decode prog_10_method_39_code 25 = .ok (.aload_n 0, 1) := by decide +kernel
theorem d_Mod_check_26 : decode prog_10_method_39_code 26 = .ok (.getfield 35, 3) := by decide +kernel
theorem d_Mod_check_29 : decode prog_10_method_39_code 29 = .ok (.iload_n 1, 1) := by decide +kernel
theorem d_Mod_check_30 : decode prog_10_method_39_code 30 = .ok (.iaload, 1) := by decide +kernel
theorem d_Mod_check_31 : decode prog_10_method_39_code 31 = .ok (.aload_n 0, 1) := by decide +kernel
theorem d_Mod_check_32 : decode prog_10_method_39_code 32 = .ok (.getfield 201, 3) := by decide +kernel
theorem d_Mod_check_35 : decode prog_10_method_39_code 35 = .ok (.if_icmp .gt 7, 3) := by decide +kernel
theorem d_Mod_check_38 : decode prog_10_method_39_code 38 = .ok (.iconst 1, 1) := by decide +kernel
theorem d_Mod_check_39 : decode prog_10_method_39_code 39 = .ok (.goto 4, 3) := by decide +kernel
theorem d_Mod_check_42 : decode prog_10_method_39_code 42 = .ok (.iconst 0, 1) := by decide +kernel
theorem d_Mod_check_43 : decode prog_10_method_39_code 43 = .ok (.istore_n 2, 1) := by decide +kernel
theorem d_Mod_check_44 : decode prog_10_method_39_code 44 = .ok (.iload_n 2, 1) := by decide +kernel
theorem d_Mod_check_45 : decode prog_10_method_39_code 45 = .ok (.ifCond .eq 11, 3) := by decide +kernel
theorem d_Mod_check_48 : decode prog_10_method_39_code 48 = .ok (.aload_n 0, 1) := by decide +kernel
theorem d_Mod_check_49 : decode prog_10_method_39_code 49 = .ok (.iload_n 1, 1) := by decide +kernel
theorem d_Mod_check_50 : decode prog_10_method_39_code 50 = .ok (.invokevirtual 234, 3) := by decide +kernel
theorem d_Mod_check_53 : decode prog_10_method_39_code 53 = .ok (.goto 4, 3) := by decide +kernel
theorem d_Mod_check_56 : decode prog_10_method_39_code 56 = .ok (.iconst (-1), 1) := by decide +kernel
theorem d_Mod_check_57 : decode prog_10_method_39_code 57 = .ok (.istore_n 3, 1) := by decide +kernel
theorem d_Mod_check_58 : decode prog_10_method_39_code 58 = .ok (.aload_n 0, 1) := by decide +kernel
theorem d_Mod_check_59 : decode prog_10_method_39_code 59 = .ok (.getfield 44, 3) := by decide +kernel
theorem d_Mod_check_62 : decode prog_10_method_39_code 62 = .ok (.iload_n 1, 1) := by decide +kernel
theorem d_Mod_check_63 : decode prog_10_method_39_code 63 = .ok (.aload_n 0, 1) := by decide +kernel
theorem d_Mod_check_64 : decode prog_10_method_39_code 64 = .ok (.getfield 44, 3) := by decide +kernel
theorem d_Mod_check_67 : decode prog_10_method_39_code 67 = .ok (.iload_n 1, 1) := by decide +kernel
theorem d_Mod_check_68 : decode prog_10_method_39_code 68 = .ok (.baload, 1) := by decide +kernel
theorem d_Mod_check_69 : decode prog_10_method_39_code 69 = .ok (.ifCond .eq 21, 3) := by decide +kernel
theorem d_Mod_check_72 : decode prog_10_method_39_code 72 = .ok (.iload_n 2, 1) := by decide +kernel
theorem d_Mod_check_73 : decode prog_10_method_39_code 73 = .ok (.ifCond .eq 13, 3) := by decide +kernel
theorem d_Mod_check_76 : decode prog_10_method_39_code 76 = .ok (.iload_n 3, 1) := by decide +kernel
theorem d_Mod_check_77 : decode prog_10_method_39_code 77 = .ok (.aload_n 0, 1) := by decide +kernel
theorem d_Mod_check_78 : decode prog_10_method_39_code 78 = .ok (.getfield 38, 3) := by decide +kernel
theorem d_Mod_check_81 : decode prog_10_method_39_code 81 = .ok (.iload_n 1, 1) := by decide +kernel
theorem d_Mod_check_82 : decode prog_10_method_39_code 82 = .ok (.iaload, 1) := by decide +kernel
theorem d_Mod_check_83 : decode prog_10_method_39_code 83 = .ok (.if_icmp .ne 7, 3) := by decide +kernel
theorem d_Mod_check_86 : decode prog_10_method_39_code 86 = .ok (.iconst 1, 1) := by decide +kernel
theorem d_Mod_check_87 : decode prog_10_method_39_code 87 = .ok (.goto 4, 3) := by decide +kernel
theorem d_Mod_check_90 : decode prog_10_method_39_code 90 = .ok (.iconst 0, 1) := by decide +kernel
theorem d_Mod_check_91 : decode prog_10_method_39_code 91 = .ok (.bastore, 1) := by decide +kernel
theorem d_Mod_check_92 : decode prog_10_method_39_code 92 = .ok (.aload_n 0, 1) := by decide +kernel
theorem d_Mod_check_93 : decode prog_10_method_39_code 93 = .ok (.getfield 47, 3) := by decide +kernel
theorem d_Mod_check_96 : decode prog_10_method_39_code 96 = .ok (.iload_n 1, 1) := by decide +kernel
theorem d_Mod_check_97 : decode prog_10_method_39_code 97 = .ok (.iload_n 2, 1) := by decide +kernel
theorem d_Mod_check_98 : decode prog_10_method_39_code 98 = .ok (.ifCond .eq 21, 3) := by decide +kernel
theorem d_Mod_check_101 : decode prog_10_method_39_code 101 = .ok (.iload_n 3, 1) := by decide +kernel
theorem d_Mod_check_102 : decode prog_10_method_39_code 102 = .ok (.iconst 1, 1) := by decide +kernel
theorem d_Mod_check_103 : decode prog_10_method_39_code 103 = .ok (.if_icmp .eq 16, 3) := by decide +kernel
theorem d_Mod_check_106 : decode prog_10_method_39_code 106 = .ok (.aload_n 0, 1) := by decide +kernel
theorem d_Mod_check_107 : decode prog_10_method_39_code 107 = .ok (.getfield 44, 3) := by decide +kernel
theorem d_Mod_check_110 : decode prog_10_method_39_code 110 = .ok (.iload_n 1, 1) := by decide +kernel
theorem d_Mod_check_111 : decode prog_10_method_39_code 111 = .ok (.baload, 1) := by decide +kernel
theorem d_Mod_check_112 : decode prog_10_method_39_code 112 = .ok (.ifCond .ne 7, 3) := by decide +kernel
theorem d_Mod_check_115 : decode prog_10_method_39_code 115 = .ok (.iconst 1, 1) := by decide +kernel
theorem d_Mod_check_116 : decode prog_10_method_39_code 116 = .ok (.goto 4, 3) := by decide +kernel
theorem d_Mod_check_119 : decode prog_10_method_39_code 119 = .ok (.iconst 0, 1) := by decide +kernel
theorem d_Mod_check_120 : decode prog_10_method_39_code 120 = .ok (.bastore, 1) := by decide +kernel
theorem d_Mod_check_121 : decode prog_10_method_39_code 121 = .ok (.aload_n 0, 1) := by decide +kernel
theorem d_Mod_check_122 : decode prog_10_method_39_code 122 = .ok (.getfield 41, 3) := by decide +kernel
theorem d_Mod_check_125 : decode prog_10_method_39_code 125 = .ok (.iload_n 1, 1) := by decide +kernel
theorem d_Mod_check_126 : decode prog_10_method_39_code 126 = .ok (.aload_n 0, 1) := by decide +kernel
theorem d_Mod_check_127 : decode prog_10_method_39_code 127 = .ok (.getfield 41, 3) := by decide +kernel
theorem d_Mod_check_130 : decode prog_10_method_39_code 130 = .ok (.iload_n 1, 1) := by decide +kernel
theorem d_Mod_check_131 : decode prog_10_method_39_code 131 = .ok (.baload, 1) := by decide +kernel
theorem d_Mod_check_132 : decode prog_10_method_39_code 132 = .ok (.ifCond .ne 8, 3) := by decide +kernel
theorem d_Mod_check_135 : decode prog_10_method_39_code 135 = .ok (.iload_n 3, 1) := by decide +kernel
theorem d_Mod_check_136 : decode prog_10_method_39_code 136 = .ok (.iconst 1, 1) := by decide +kernel
theorem d_Mod_check_137 : decode prog_10_method_39_code 137 = .ok (.if_icmp .ne 7, 3) := by decide +kernel
theorem d_Mod_check_140 : decode prog_10_method_39_code 140 = .ok (.iconst 1, 1) := by decide +kernel
theorem d_Mod_check_141 : decode prog_10_method_39_code 141 = .ok (.goto 4, 3) := by decide +kernel
theorem d_Mod_check_144 : decode prog_10_method_39_code 144 = .ok (.iconst 0, 1) := by decide +kernel
theorem d_Mod_check_145 : decode prog_10_method_39_code 145 = .ok (.bastore, 1) := by decide +kernel
theorem d_Mod_check_146 : decode prog_10_method_39_code 146 = .ok (.aload_n 0, 1) := by decide +kernel
theorem d_Mod_check_147 : decode prog_10_method_39_code 147 = .ok (.getfield 38, 3) := by decide +kernel
theorem d_Mod_check_150 : decode prog_10_method_39_code 150 = .ok (.iload_n 1, 1) := by decide +kernel
theorem d_Mod_check_151 : decode prog_10_method_39_code 151 = .ok (.iload_n 2, 1) := by decide +kernel
theorem d_Mod_check_152 : decode prog_10_method_39_code 152 = .ok (.ifCond .eq 7, 3) := by decide +kernel
theorem d_Mod_check_155 : decode prog_10_method_39_code 155 = .ok (.iload_n 3, 1) := by decide +kernel
theorem d_Mod_check_156 : decode prog_10_method_39_code 156 = .ok (.goto 9, 3) := by decide +kernel
theorem d_Mod_check_159 : decode prog_10_method_39_code 159 = .ok (.aload_n 0, 1) := by decide +kernel
theorem d_Mod_check_160 : decode prog_10_method_39_code 160 = .ok (.getfield 38, 3) := by decide +kernel
theorem d_Mod_check_163 : decode prog_10_method_39_code 163 = .ok (.iload_n 1, 1) := by decide +kernel
theorem d_Mod_check_164 : decode prog_10_method_39_code 164 = .ok (.iaload, 1) := by decide +kernel
theorem d_Mod_check_165 : decode prog_10_method_39_code 165 = .ok (.iastore, 1) := by decide +kernel
theorem d_Mod_check_166 : decode prog_10_method_39_code 166 = .ok (.iinc 1 1, 3) := by decide +kernel
theorem d_Mod_check_169 : decode prog_10_method_39_code 169 = .ok (.goto (-152), 3) := by decide +kernel
theorem d_Mod_check_172 : decode prog_10_method_39_code 172 = .ok (.aload_n 0, 1) := by decide +kernel
theorem d_Mod_check_173 : decode prog_10_method_39_code 173 = .ok (.iconst 0, 1) := by decide +kernel
theorem d_Mod_check_174 : decode prog_10_method_39_code 174 = .ok (.iconst 1, 1) := by decide +kernel
theorem d_Mod_check_175 : decode prog_10_method_39_code 175 = .ok (.invokevirtual 237, 3) := by decide +kernel
theorem d_Mod_check_178 : decode prog_10_method_39_code 178 = .ok (.ireturn, 1) := by decide +kernel
def m_check_B : Nat → Nat → Int32 → Int32 → Int32 → Int32 → Int32 → MS → Option (Int32 × MS)
  | 0, _, _, _, _, _, _, _ => none
  | n + 1, b, x1, x2, x3, y0, y1, μ => if b = 0 then (if (μ.1 3) ≤ x1 then (m_badAt 0 1 μ).bind (fun p175 => some (p175.1, p175.2)) else (if inb x1 20 = true then (if (μ.1 5) < ((μ.2.1 13) x1.toNatClampNeg) then m_check_B n 1 x1 0 0 0 0 μ else m_check_B n 1 x1 0 0 1 0 μ) else none))
    else if b = 1 then (if y0 = 0 then m_check_B n 2 x1 y0 0 (-1) 0 μ else (m_work x1 μ).bind (fun p50 => m_check_B n 2 x1 y0 0 p50.1 0 p50.2))
    else if b = 2 then (if inb x1 20 = true then (if ((μ.2.1 16) x1.toNatClampNeg) = 0 then m_check_B n 4 x1 x2 y0 x1 0 μ else (if x2 = 0 then m_check_B n 3 x1 x2 y0 x1 0 μ else (if y0 = ((μ.2.1 14) x1.toNatClampNeg) then m_check_B n 3 x1 x2 y0 x1 0 μ else m_check_B n 4 x1 x2 y0 x1 0 μ))) else none)
    else if b = 3 then m_check_B n 5 x1 x2 x3 y0 1 μ
    else if b = 4 then m_check_B n 5 x1 x2 x3 y0 0 μ
    else if b = 5 then (if inb y0 20 = true then (if x2 = 0 then m_check_B n 6 x1 x2 x3 x1 0 (sA 16 (y0.toNatClampNeg) (vp_nar .boolean y1) μ) else (if x3 = 1 then m_check_B n 6 x1 x2 x3 x1 0 (sA 16 (y0.toNatClampNeg) (vp_nar .boolean y1) μ) else (if inb x1 20 = true then (if (((sA 16 (y0.toNatClampNeg) (vp_nar .boolean y1) μ).2.1 16) x1.toNatClampNeg) = 0 then m_check_B n 7 x1 x2 x3 x1 1 (sA 16 (y0.toNatClampNeg) (vp_nar .boolean y1) μ) else m_check_B n 6 x1 x2 x3 x1 0 (sA 16 (y0.toNatClampNeg) (vp_nar .boolean y1) μ)) else none))) else none)
    else if b = 6 then m_check_B n 7 x1 x2 x3 y0 0 μ
    else if b = 7 then (if inb y0 20 = true then (if inb x1 20 = true then (if ((μ.2.1 15) x1.toNatClampNeg) = 0 then (if x3 = 1 then m_check_B n 8 x1 x2 x3 x1 0 (sA 17 (y0.toNatClampNeg) (vp_nar .boolean y1) μ) else m_check_B n 9 x1 x2 x3 x1 0 (sA 17 (y0.toNatClampNeg) (vp_nar .boolean y1) μ)) else m_check_B n 8 x1 x2 x3 x1 0 (sA 17 (y0.toNatClampNeg) (vp_nar .boolean y1) μ)) else none) else none)
    else if b = 8 then m_check_B n 9 x1 x2 x3 y0 1 μ
    else if b = 9 then (if inb y0 20 = true then (if x2 = 0 then (if inb x1 20 = true then m_check_B n 10 x1 0 0 x1 ((μ.2.1 14) x1.toNatClampNeg) (sA 15 (y0.toNatClampNeg) (vp_nar .boolean y1) μ) else none) else m_check_B n 10 x1 0 0 x1 x3 (sA 15 (y0.toNatClampNeg) (vp_nar .boolean y1) μ)) else none)
    else (if inb y0 20 = true then m_check_B n 0 (x1 + 1) 0 0 0 0 (sA 14 (y0.toNatClampNeg) y1 μ) else none)
theorem m_check_b0 (n : Nat) (x1 : Int32) (x2 : Int32) (x3 : Int32) (y0 : Int32) (y1 : Int32) (μ : MS) : m_check_B (n + 1) 0 x1 x2 x3 y0 y1 μ = (if (μ.1 3) ≤ x1 then (m_badAt 0 1 μ).bind (fun p175 => some (p175.1, p175.2)) else (if inb x1 20 = true then (if (μ.1 5) < ((μ.2.1 13) x1.toNatClampNeg) then m_check_B n 1 x1 0 0 0 0 μ else m_check_B n 1 x1 0 0 1 0 μ) else none)) := by
  rw [m_check_B, if_pos rfl]
theorem m_check_b1 (n : Nat) (x1 : Int32) (x2 : Int32) (x3 : Int32) (y0 : Int32) (y1 : Int32) (μ : MS) : m_check_B (n + 1) 1 x1 x2 x3 y0 y1 μ = (if y0 = 0 then m_check_B n 2 x1 y0 0 (-1) 0 μ else (m_work x1 μ).bind (fun p50 => m_check_B n 2 x1 y0 0 p50.1 0 p50.2)) := by
  rw [m_check_B, if_neg (by decide), if_pos rfl]
theorem m_check_b2 (n : Nat) (x1 : Int32) (x2 : Int32) (x3 : Int32) (y0 : Int32) (y1 : Int32) (μ : MS) : m_check_B (n + 1) 2 x1 x2 x3 y0 y1 μ = (if inb x1 20 = true then (if ((μ.2.1 16) x1.toNatClampNeg) = 0 then m_check_B n 4 x1 x2 y0 x1 0 μ else (if x2 = 0 then m_check_B n 3 x1 x2 y0 x1 0 μ else (if y0 = ((μ.2.1 14) x1.toNatClampNeg) then m_check_B n 3 x1 x2 y0 x1 0 μ else m_check_B n 4 x1 x2 y0 x1 0 μ))) else none) := by
  rw [m_check_B, if_neg (by decide), if_neg (by decide), if_pos rfl]
theorem m_check_b3 (n : Nat) (x1 : Int32) (x2 : Int32) (x3 : Int32) (y0 : Int32) (y1 : Int32) (μ : MS) : m_check_B (n + 1) 3 x1 x2 x3 y0 y1 μ = m_check_B n 5 x1 x2 x3 y0 1 μ := by
  rw [m_check_B, if_neg (by decide), if_neg (by decide), if_neg (by decide), if_pos rfl]
theorem m_check_b4 (n : Nat) (x1 : Int32) (x2 : Int32) (x3 : Int32) (y0 : Int32) (y1 : Int32) (μ : MS) : m_check_B (n + 1) 4 x1 x2 x3 y0 y1 μ = m_check_B n 5 x1 x2 x3 y0 0 μ := by
  rw [m_check_B, if_neg (by decide), if_neg (by decide), if_neg (by decide), if_neg (by decide), if_pos rfl]
theorem m_check_b5 (n : Nat) (x1 : Int32) (x2 : Int32) (x3 : Int32) (y0 : Int32) (y1 : Int32) (μ : MS) : m_check_B (n + 1) 5 x1 x2 x3 y0 y1 μ = (if inb y0 20 = true then (if x2 = 0 then m_check_B n 6 x1 x2 x3 x1 0 (sA 16 (y0.toNatClampNeg) (vp_nar .boolean y1) μ) else (if x3 = 1 then m_check_B n 6 x1 x2 x3 x1 0 (sA 16 (y0.toNatClampNeg) (vp_nar .boolean y1) μ) else (if inb x1 20 = true then (if (((sA 16 (y0.toNatClampNeg) (vp_nar .boolean y1) μ).2.1 16) x1.toNatClampNeg) = 0 then m_check_B n 7 x1 x2 x3 x1 1 (sA 16 (y0.toNatClampNeg) (vp_nar .boolean y1) μ) else m_check_B n 6 x1 x2 x3 x1 0 (sA 16 (y0.toNatClampNeg) (vp_nar .boolean y1) μ)) else none))) else none) := by
  rw [m_check_B, if_neg (by decide), if_neg (by decide), if_neg (by decide), if_neg (by decide), if_neg (by decide), if_pos rfl]
theorem m_check_b6 (n : Nat) (x1 : Int32) (x2 : Int32) (x3 : Int32) (y0 : Int32) (y1 : Int32) (μ : MS) : m_check_B (n + 1) 6 x1 x2 x3 y0 y1 μ = m_check_B n 7 x1 x2 x3 y0 0 μ := by
  rw [m_check_B, if_neg (by decide), if_neg (by decide), if_neg (by decide), if_neg (by decide), if_neg (by decide), if_neg (by decide), if_pos rfl]
theorem m_check_b7 (n : Nat) (x1 : Int32) (x2 : Int32) (x3 : Int32) (y0 : Int32) (y1 : Int32) (μ : MS) : m_check_B (n + 1) 7 x1 x2 x3 y0 y1 μ = (if inb y0 20 = true then (if inb x1 20 = true then (if ((μ.2.1 15) x1.toNatClampNeg) = 0 then (if x3 = 1 then m_check_B n 8 x1 x2 x3 x1 0 (sA 17 (y0.toNatClampNeg) (vp_nar .boolean y1) μ) else m_check_B n 9 x1 x2 x3 x1 0 (sA 17 (y0.toNatClampNeg) (vp_nar .boolean y1) μ)) else m_check_B n 8 x1 x2 x3 x1 0 (sA 17 (y0.toNatClampNeg) (vp_nar .boolean y1) μ)) else none) else none) := by
  rw [m_check_B, if_neg (by decide), if_neg (by decide), if_neg (by decide), if_neg (by decide), if_neg (by decide), if_neg (by decide), if_neg (by decide), if_pos rfl]
theorem m_check_b8 (n : Nat) (x1 : Int32) (x2 : Int32) (x3 : Int32) (y0 : Int32) (y1 : Int32) (μ : MS) : m_check_B (n + 1) 8 x1 x2 x3 y0 y1 μ = m_check_B n 9 x1 x2 x3 y0 1 μ := by
  rw [m_check_B, if_neg (by decide), if_neg (by decide), if_neg (by decide), if_neg (by decide), if_neg (by decide), if_neg (by decide), if_neg (by decide), if_neg (by decide), if_pos rfl]
theorem m_check_b9 (n : Nat) (x1 : Int32) (x2 : Int32) (x3 : Int32) (y0 : Int32) (y1 : Int32) (μ : MS) : m_check_B (n + 1) 9 x1 x2 x3 y0 y1 μ = (if inb y0 20 = true then (if x2 = 0 then (if inb x1 20 = true then m_check_B n 10 x1 0 0 x1 ((μ.2.1 14) x1.toNatClampNeg) (sA 15 (y0.toNatClampNeg) (vp_nar .boolean y1) μ) else none) else m_check_B n 10 x1 0 0 x1 x3 (sA 15 (y0.toNatClampNeg) (vp_nar .boolean y1) μ)) else none) := by
  rw [m_check_B, if_neg (by decide), if_neg (by decide), if_neg (by decide), if_neg (by decide), if_neg (by decide), if_neg (by decide), if_neg (by decide), if_neg (by decide), if_neg (by decide), if_pos rfl]
theorem m_check_b10 (n : Nat) (x1 : Int32) (x2 : Int32) (x3 : Int32) (y0 : Int32) (y1 : Int32) (μ : MS) : m_check_B (n + 1) 10 x1 x2 x3 y0 y1 μ = (if inb y0 20 = true then m_check_B n 0 (x1 + 1) 0 0 0 0 (sA 14 (y0.toNatClampNeg) y1 μ) else none) := by
  rw [m_check_B, if_neg (by decide), if_neg (by decide), if_neg (by decide), if_neg (by decide), if_neg (by decide), if_neg (by decide), if_neg (by decide), if_neg (by decide), if_neg (by decide), if_neg (by decide)]
def m_check (μ : MS) : Option (Int32 × MS) := m_check_B 4096 0 0 0 0 0 0 (sI 4 ((μ.1 4) + 1) (sI 0 0 μ))
set_option maxHeartbeats 4000000 in
set_option maxRecDepth 100000 in
theorem c_Mod_check {A : Nat → Nat} {f0 : Nat → va_E} {μ : MS} {res : (Int32 × MS)} (hM : zMf ck b0 N A f0 f μ) (h : m_check μ = some res) : zK l D ck ad b0 y_Mod_check prog_10_method_39_code 4 ((some FieldType.int)) 5 0 0 [.ref (A 38)] N f (fun r N' f' => r = some (.int res.1) ∧ N = N' ∧ zMf ck b0 N A f0 f' res.2) := by
  refine zM.of zG_w (by decide) (Nat.le_of_ble_eq_true rfl) ?_
  intro zp ze zst zm zar zbe zme zc X hnm hb0
  have L : ∀ n : Nat, (∀ (x1 : Int32) (x2 : Int32) (x3 : Int32) (y0 : Int32) (y1 : Int32) (f1 : Nat → va_E) (μ : MS), zMf ck b0 N A f0 f1 μ → m_check_B n 0 x1 x2 x3 y0 y1 μ = some res → zW zp l ze (zR 5 0 0) zst zm zar zbe zme zc D zcl b0 4 0 0 (MQ zbe (zQ D zcl b0 (fun r N' f' => r = some (.int res.1) ∧ N = N' ∧ zMf ck b0 N A f0 f' res.2)) zar zst 0 0 (zA b0)) N f1 17 [(0, .ref (A 38)), (1, .int x1)] []) ∧ (∀ (x1 : Int32) (x2 : Int32) (x3 : Int32) (y0 : Int32) (y1 : Int32) (f1 : Nat → va_E) (μ : MS), zMf ck b0 N A f0 f1 μ → m_check_B n 1 x1 x2 x3 y0 y1 μ = some res → zW zp l ze (zR 5 0 0) zst zm zar zbe zme zc D zcl b0 4 0 0 (MQ zbe (zQ D zcl b0 (fun r N' f' => r = some (.int res.1) ∧ N = N' ∧ zMf ck b0 N A f0 f' res.2)) zar zst 0 0 (zA b0)) N f1 43 [(0, .ref (A 38)), (1, .int x1)] [.int y0]) ∧ (∀ (x1 : Int32) (x2 : Int32) (x3 : Int32) (y0 : Int32) (y1 : Int32) (f1 : Nat → va_E) (μ : MS), zMf ck b0 N A f0 f1 μ → m_check_B n 2 x1 x2 x3 y0 y1 μ = some res → zW zp l ze (zR 5 0 0) zst zm zar zbe zme zc D zcl b0 4 0 0 (MQ zbe (zQ D zcl b0 (fun r N' f' => r = some (.int res.1) ∧ N = N' ∧ zMf ck b0 N A f0 f' res.2)) zar zst 0 0 (zA b0)) N f1 57 [(0, .ref (A 38)), (1, .int x1), (2, .int x2)] [.int y0]) ∧ (∀ (x1 : Int32) (x2 : Int32) (x3 : Int32) (y0 : Int32) (y1 : Int32) (f1 : Nat → va_E) (μ : MS), zMf ck b0 N A f0 f1 μ → m_check_B n 3 x1 x2 x3 y0 y1 μ = some res → zW zp l ze (zR 5 0 0) zst zm zar zbe zme zc D zcl b0 4 0 0 (MQ zbe (zQ D zcl b0 (fun r N' f' => r = some (.int res.1) ∧ N = N' ∧ zMf ck b0 N A f0 f' res.2)) zar zst 0 0 (zA b0)) N f1 86 [(0, .ref (A 38)), (1, .int x1), (2, .int x2), (3, .int x3)] [.int y0, .ref (A 16)]) ∧ (∀ (x1 : Int32) (x2 : Int32) (x3 : Int32) (y0 : Int32) (y1 : Int32) (f1 : Nat → va_E) (μ : MS), zMf ck b0 N A f0 f1 μ → m_check_B n 4 x1 x2 x3 y0 y1 μ = some res → zW zp l ze (zR 5 0 0) zst zm zar zbe zme zc D zcl b0 4 0 0 (MQ zbe (zQ D zcl b0 (fun r N' f' => r = some (.int res.1) ∧ N = N' ∧ zMf ck b0 N A f0 f' res.2)) zar zst 0 0 (zA b0)) N f1 90 [(0, .ref (A 38)), (1, .int x1), (2, .int x2), (3, .int x3)] [.int y0, .ref (A 16)]) ∧ (∀ (x1 : Int32) (x2 : Int32) (x3 : Int32) (y0 : Int32) (y1 : Int32) (f1 : Nat → va_E) (μ : MS), zMf ck b0 N A f0 f1 μ → m_check_B n 5 x1 x2 x3 y0 y1 μ = some res → zW zp l ze (zR 5 0 0) zst zm zar zbe zme zc D zcl b0 4 0 0 (MQ zbe (zQ D zcl b0 (fun r N' f' => r = some (.int res.1) ∧ N = N' ∧ zMf ck b0 N A f0 f' res.2)) zar zst 0 0 (zA b0)) N f1 91 [(0, .ref (A 38)), (1, .int x1), (2, .int x2), (3, .int x3)] [.int y1, .int y0, .ref (A 16)]) ∧ (∀ (x1 : Int32) (x2 : Int32) (x3 : Int32) (y0 : Int32) (y1 : Int32) (f1 : Nat → va_E) (μ : MS), zMf ck b0 N A f0 f1 μ → m_check_B n 6 x1 x2 x3 y0 y1 μ = some res → zW zp l ze (zR 5 0 0) zst zm zar zbe zme zc D zcl b0 4 0 0 (MQ zbe (zQ D zcl b0 (fun r N' f' => r = some (.int res.1) ∧ N = N' ∧ zMf ck b0 N A f0 f' res.2)) zar zst 0 0 (zA b0)) N f1 119 [(0, .ref (A 38)), (1, .int x1), (2, .int x2), (3, .int x3)] [.int y0, .ref (A 17)]) ∧ (∀ (x1 : Int32) (x2 : Int32) (x3 : Int32) (y0 : Int32) (y1 : Int32) (f1 : Nat → va_E) (μ : MS), zMf ck b0 N A f0 f1 μ → m_check_B n 7 x1 x2 x3 y0 y1 μ = some res → zW zp l ze (zR 5 0 0) zst zm zar zbe zme zc D zcl b0 4 0 0 (MQ zbe (zQ D zcl b0 (fun r N' f' => r = some (.int res.1) ∧ N = N' ∧ zMf ck b0 N A f0 f' res.2)) zar zst 0 0 (zA b0)) N f1 120 [(0, .ref (A 38)), (1, .int x1), (2, .int x2), (3, .int x3)] [.int y1, .int y0, .ref (A 17)]) ∧ (∀ (x1 : Int32) (x2 : Int32) (x3 : Int32) (y0 : Int32) (y1 : Int32) (f1 : Nat → va_E) (μ : MS), zMf ck b0 N A f0 f1 μ → m_check_B n 8 x1 x2 x3 y0 y1 μ = some res → zW zp l ze (zR 5 0 0) zst zm zar zbe zme zc D zcl b0 4 0 0 (MQ zbe (zQ D zcl b0 (fun r N' f' => r = some (.int res.1) ∧ N = N' ∧ zMf ck b0 N A f0 f' res.2)) zar zst 0 0 (zA b0)) N f1 140 [(0, .ref (A 38)), (1, .int x1), (2, .int x2), (3, .int x3)] [.int y0, .ref (A 15)]) ∧ (∀ (x1 : Int32) (x2 : Int32) (x3 : Int32) (y0 : Int32) (y1 : Int32) (f1 : Nat → va_E) (μ : MS), zMf ck b0 N A f0 f1 μ → m_check_B n 9 x1 x2 x3 y0 y1 μ = some res → zW zp l ze (zR 5 0 0) zst zm zar zbe zme zc D zcl b0 4 0 0 (MQ zbe (zQ D zcl b0 (fun r N' f' => r = some (.int res.1) ∧ N = N' ∧ zMf ck b0 N A f0 f' res.2)) zar zst 0 0 (zA b0)) N f1 145 [(0, .ref (A 38)), (1, .int x1), (2, .int x2), (3, .int x3)] [.int y1, .int y0, .ref (A 15)]) ∧ (∀ (x1 : Int32) (x2 : Int32) (x3 : Int32) (y0 : Int32) (y1 : Int32) (f1 : Nat → va_E) (μ : MS), zMf ck b0 N A f0 f1 μ → m_check_B n 10 x1 x2 x3 y0 y1 μ = some res → zW zp l ze (zR 5 0 0) zst zm zar zbe zme zc D zcl b0 4 0 0 (MQ zbe (zQ D zcl b0 (fun r N' f' => r = some (.int res.1) ∧ N = N' ∧ zMf ck b0 N A f0 f' res.2)) zar zst 0 0 (zA b0)) N f1 165 [(0, .ref (A 38)), (1, .int x1)] [.int y1, .int y0, .ref (A 14)]) := by
    intro n
    induction n with
    | zero =>
      exact ⟨fun _ _ _ _ _ _ _ _ h => (by rw [m_check_B] at h; cases h), fun _ _ _ _ _ _ _ _ h => (by rw [m_check_B] at h; cases h), fun _ _ _ _ _ _ _ _ h => (by rw [m_check_B] at h; cases h), fun _ _ _ _ _ _ _ _ h => (by rw [m_check_B] at h; cases h), fun _ _ _ _ _ _ _ _ h => (by rw [m_check_B] at h; cases h), fun _ _ _ _ _ _ _ _ h => (by rw [m_check_B] at h; cases h), fun _ _ _ _ _ _ _ _ h => (by rw [m_check_B] at h; cases h), fun _ _ _ _ _ _ _ _ h => (by rw [m_check_B] at h; cases h), fun _ _ _ _ _ _ _ _ h => (by rw [m_check_B] at h; cases h), fun _ _ _ _ _ _ _ _ h => (by rw [m_check_B] at h; cases h), fun _ _ _ _ _ _ _ _ h => (by rw [m_check_B] at h; cases h)⟩
    | succ n ih =>
      refine ⟨?_, ?_, ?_, ?_, ?_, ?_, ?_, ?_, ?_, ?_, ?_⟩
      · intro x1 x2 x3 y0 y1 f1 μ hM h
        rw [m_check_b0] at h
        refine z_iload_n X d_Mod_check_17 rfl ?_
        refine z_aload_n X d_Mod_check_18 rfl ?_
        refine z_get X (v := .int (μ.1 3)) d_Mod_check_19 (hM.lo 38 (by decide)) hM.ob cl_Mod in_Mod 3 (by decide) fl_Mod_97 rfl rfl ?_
        refine z_icmp_ge X 172 d_Mod_check_22 (by decide) (fun h22 => ?_) (fun h22 => ?_)
        · skip
          have h := (if_pos h22).symm.trans h
          refine z_aload_n X d_Mod_check_172 rfl ?_
          refine z_iconst X d_Mod_check_173 (v := 0) (by decide) ?_
          refine z_iconst X d_Mod_check_174 (v := 1) (by decide) ?_
          obtain ⟨p175, q175, h⟩ := bd h
          refine z_callV X zG_ok (c_Mod_badAt hM q175) d_Mod_check_175 ⟨(z_cb (n := 2) X.2.2.2.2.1 ml_Mod_237 mc_Mod_badAt ini_Mod (by decide +kernel) rfl rfl ⟨Nat.le_of_ble_eq_true rfl, Nat.le_of_ble_eq_true rfl⟩), X.2.2.2.2.1 _ im_Mod_badAt, X.2.2.2.2.1 _ sel_Mod_badAt⟩ (hM.lo 38 (by decide)) hM.ob cl_Mod rfl rfl (Nat.le_of_ble_eq_true rfl) ⟨Nat.le_of_ble_eq_true rfl, Nat.le_of_ble_eq_true rfl⟩ (fun r N1 f1 hp hN1 => ?_)
          obtain ⟨rfl, rfl, hM⟩ := hp
          have e9 := Option.some.inj h
          subst e9
          exact z_iret X d_Mod_check_178 ⟨rfl, rfl, hM⟩
        · skip
          have h := (if_neg h22).symm.trans h
          refine z_aload_n X d_Mod_check_25 rfl ?_
          refine z_get X (v := .ref (A 13)) d_Mod_check_26 (hM.lo 38 (by decide)) hM.ob cl_Mod in_Mod 13 (by decide) fl_Mod_35 rfl rfl ?_
          refine z_iload_n X d_Mod_check_29 rfl ?_
          obtain ⟨b30, h⟩ := gd h
          refine z_iald X (g := (μ.2.1 13)) d_Mod_check_30 (hM.lo 13 (by decide)) (hM.iA 13 20 rfl) (t0 := 0) rfl (vp_of b30) ?_
          refine z_aload_n X d_Mod_check_31 rfl ?_
          refine z_get X (v := .int (μ.1 5)) d_Mod_check_32 (hM.lo 38 (by decide)) hM.ob cl_Mod in_Mod 5 (by decide) fl_Mod_201 rfl rfl ?_
          refine z_icmp_gt X 42 d_Mod_check_35 (by decide) (fun h35 => ?_) (fun h35 => ?_)
          · skip
            have h := (if_pos h35).symm.trans h
            refine z_iconst X d_Mod_check_42 (v := 0) (by decide) ?_
            refine zW.pick [0, 1] (lv' := [(0, .ref (A 38)), (1, .int x1)]) rfl ?_
            exact (ih).2.1 x1 0 0 0 0 _ _ hM h
          · skip
            have h := (if_neg h35).symm.trans h
            refine z_iconst X d_Mod_check_38 (v := 1) (by decide) ?_
            refine z_goto X 43 d_Mod_check_39 (by decide) ?_
            refine zW.pick [0, 1] (lv' := [(0, .ref (A 38)), (1, .int x1)]) rfl ?_
            exact (ih).2.1 x1 0 0 1 0 _ _ hM h
      · intro x1 x2 x3 y0 y1 f1 μ hM h
        rw [m_check_b1] at h
        refine z_istore_n X d_Mod_check_43 (by decide) rfl ?_
        refine z_iload_n X d_Mod_check_44 rfl ?_
        refine z_if_eq X 56 d_Mod_check_45 (by decide) (fun h45 => ?_) (fun h45 => ?_)
        · skip
          have h := (if_pos h45).symm.trans h
          refine z_iconst X d_Mod_check_56 (v := -1) (by decide) ?_
          refine zW.pick [0, 1, 2] (lv' := [(0, .ref (A 38)), (1, .int x1), (2, .int y0)]) rfl ?_
          exact (ih).2.2.1 x1 y0 0 (-1) 0 _ _ hM h
        · skip
          have h := (if_neg h45).symm.trans h
          refine z_aload_n X d_Mod_check_48 rfl ?_
          refine z_iload_n X d_Mod_check_49 rfl ?_
          obtain ⟨p50, q50, h⟩ := bd h
          refine z_callV X zG_ok (c_Mod_work hM q50) d_Mod_check_50 ⟨(z_cb (n := 1) X.2.2.2.2.1 ml_Mod_234 mc_Mod_work ini_Mod (by decide +kernel) rfl rfl ⟨Nat.le_of_ble_eq_true rfl, Nat.le_of_ble_eq_true rfl⟩), X.2.2.2.2.1 _ im_Mod_work, X.2.2.2.2.1 _ sel_Mod_work⟩ (hM.lo 38 (by decide)) hM.ob cl_Mod rfl rfl (Nat.le_of_ble_eq_true rfl) ⟨Nat.le_of_ble_eq_true rfl, Nat.le_of_ble_eq_true rfl⟩ (fun r N1 f1 hp hN1 => ?_)
          obtain ⟨rfl, rfl, hM⟩ := hp
          refine z_goto X 57 d_Mod_check_53 (by decide) ?_
          refine zW.pick [0, 1, 2] (lv' := [(0, .ref (A 38)), (1, .int x1), (2, .int y0)]) rfl ?_
          exact (ih).2.2.1 x1 y0 0 p50.1 0 _ _ hM h
      · intro x1 x2 x3 y0 y1 f1 μ hM h
        rw [m_check_b2] at h
        refine z_istore_n X d_Mod_check_57 (by decide) rfl ?_
        refine z_aload_n X d_Mod_check_58 rfl ?_
        refine z_get X (v := .ref (A 16)) d_Mod_check_59 (hM.lo 38 (by decide)) hM.ob cl_Mod in_Mod 16 (by decide) fl_Mod_44 rfl rfl ?_
        refine z_iload_n X d_Mod_check_62 rfl ?_
        refine z_aload_n X d_Mod_check_63 rfl ?_
        refine z_get X (v := .ref (A 16)) d_Mod_check_64 (hM.lo 38 (by decide)) hM.ob cl_Mod in_Mod 16 (by decide) fl_Mod_44 rfl rfl ?_
        refine z_iload_n X d_Mod_check_67 rfl ?_
        obtain ⟨b68, h⟩ := gd h
        refine z_zald X (g := (μ.2.1 16)) d_Mod_check_68 (hM.lo 16 (by decide)) (hM.zA 16 20 rfl) (t0 := 1) rfl (vp_of b68) ?_
        refine z_if_eq X 90 d_Mod_check_69 (by decide) (fun h69 => ?_) (fun h69 => ?_)
        · skip
          have h := (if_pos h69).symm.trans h
          refine zW.pick [0, 1, 2, 3] (lv' := [(0, .ref (A 38)), (1, .int x1), (2, .int x2), (3, .int y0)]) rfl ?_
          exact (ih).2.2.2.2.1 x1 x2 y0 x1 0 _ _ hM h
        · skip
          have h := (if_neg h69).symm.trans h
          refine z_iload_n X d_Mod_check_72 rfl ?_
          refine z_if_eq X 86 d_Mod_check_73 (by decide) (fun h73 => ?_) (fun h73 => ?_)
          · skip
            have h := (if_pos h73).symm.trans h
            refine zW.pick [0, 1, 2, 3] (lv' := [(0, .ref (A 38)), (1, .int x1), (2, .int x2), (3, .int y0)]) rfl ?_
            exact (ih).2.2.2.1 x1 x2 y0 x1 0 _ _ hM h
          · skip
            have h := (if_neg h73).symm.trans h
            refine z_iload_n X d_Mod_check_76 rfl ?_
            refine z_aload_n X d_Mod_check_77 rfl ?_
            refine z_get X (v := .ref (A 14)) d_Mod_check_78 (hM.lo 38 (by decide)) hM.ob cl_Mod in_Mod 14 (by decide) fl_Mod_38 rfl rfl ?_
            refine z_iload_n X d_Mod_check_81 rfl ?_
            refine z_iald X (g := (μ.2.1 14)) d_Mod_check_82 (hM.lo 14 (by decide)) (hM.iA 14 20 rfl) (t0 := 0) rfl (vp_of b68) ?_
            refine z_icmp_ne X 90 d_Mod_check_83 (by decide) (fun h83 => ?_) (fun h83 => ?_)
            · skip
              have h := (if_neg h83).symm.trans h
              refine zW.pick [0, 1, 2, 3] (lv' := [(0, .ref (A 38)), (1, .int x1), (2, .int x2), (3, .int y0)]) rfl ?_
              exact (ih).2.2.2.2.1 x1 x2 y0 x1 0 _ _ hM h
            · skip
              have h := (if_pos h83).symm.trans h
              refine zW.pick [0, 1, 2, 3] (lv' := [(0, .ref (A 38)), (1, .int x1), (2, .int x2), (3, .int y0)]) rfl ?_
              exact (ih).2.2.2.1 x1 x2 y0 x1 0 _ _ hM h
      · intro x1 x2 x3 y0 y1 f1 μ hM h
        rw [m_check_b3] at h
        refine z_iconst X d_Mod_check_86 (v := 1) (by decide) ?_
        refine z_goto X 91 d_Mod_check_87 (by decide) ?_
        refine zW.pick [0, 1, 2, 3] (lv' := [(0, .ref (A 38)), (1, .int x1), (2, .int x2), (3, .int x3)]) rfl ?_
        exact (ih).2.2.2.2.2.1 x1 x2 x3 y0 1 _ _ hM h
      · intro x1 x2 x3 y0 y1 f1 μ hM h
        rw [m_check_b4] at h
        refine z_iconst X d_Mod_check_90 (v := 0) (by decide) ?_
        refine zW.pick [0, 1, 2, 3] (lv' := [(0, .ref (A 38)), (1, .int x1), (2, .int x2), (3, .int x3)]) rfl ?_
        exact (ih).2.2.2.2.2.1 x1 x2 x3 y0 0 _ _ hM h
      · intro x1 x2 x3 y0 y1 f1 μ hM h
        rw [m_check_b5] at h
        obtain ⟨b91, h⟩ := gd h
        refine z_zastM X d_Mod_check_91 hM 16 20 rfl rfl (vp_of b91) (fun hM => ?_)
        refine z_aload_n X d_Mod_check_92 rfl ?_
        refine z_get X (v := .ref (A 17)) d_Mod_check_93 (hM.lo 38 (by decide)) hM.ob cl_Mod in_Mod 17 (by decide) fl_Mod_47 rfl rfl ?_
        refine z_iload_n X d_Mod_check_96 rfl ?_
        refine z_iload_n X d_Mod_check_97 rfl ?_
        refine z_if_eq X 119 d_Mod_check_98 (by decide) (fun h98 => ?_) (fun h98 => ?_)
        · skip
          have h := (if_pos h98).symm.trans h
          refine zW.pick [0, 1, 2, 3] (lv' := [(0, .ref (A 38)), (1, .int x1), (2, .int x2), (3, .int x3)]) rfl ?_
          exact (ih).2.2.2.2.2.2.1 x1 x2 x3 x1 0 _ _ hM h
        · skip
          have h := (if_neg h98).symm.trans h
          refine z_iload_n X d_Mod_check_101 rfl ?_
          refine z_iconst X d_Mod_check_102 (v := 1) (by decide) ?_
          refine z_icmp_eq X 119 d_Mod_check_103 (by decide) (fun h103 => ?_) (fun h103 => ?_)
          · skip
            have h := (if_pos h103).symm.trans h
            refine zW.pick [0, 1, 2, 3] (lv' := [(0, .ref (A 38)), (1, .int x1), (2, .int x2), (3, .int x3)]) rfl ?_
            exact (ih).2.2.2.2.2.2.1 x1 x2 x3 x1 0 _ _ hM h
          · skip
            have h := (if_neg h103).symm.trans h
            refine z_aload_n X d_Mod_check_106 rfl ?_
            refine z_get X (v := .ref (A 16)) d_Mod_check_107 (hM.lo 38 (by decide)) hM.ob cl_Mod in_Mod 16 (by decide) fl_Mod_44 rfl rfl ?_
            refine z_iload_n X d_Mod_check_110 rfl ?_
            obtain ⟨b111, h⟩ := gd h
            refine z_zald X (g := ((sA 16 (y0.toNatClampNeg) (vp_nar .boolean y1) μ).2.1 16)) d_Mod_check_111 (hM.lo 16 (by decide)) (hM.zA 16 20 rfl) (t0 := 1) rfl (vp_of b111) ?_
            refine z_if_ne X 119 d_Mod_check_112 (by decide) (fun h112 => ?_) (fun h112 => ?_)
            · skip
              have h := (if_neg h112).symm.trans h
              refine zW.pick [0, 1, 2, 3] (lv' := [(0, .ref (A 38)), (1, .int x1), (2, .int x2), (3, .int x3)]) rfl ?_
              exact (ih).2.2.2.2.2.2.1 x1 x2 x3 x1 0 _ _ hM h
            · skip
              have h := (if_pos h112).symm.trans h
              refine z_iconst X d_Mod_check_115 (v := 1) (by decide) ?_
              refine z_goto X 120 d_Mod_check_116 (by decide) ?_
              refine zW.pick [0, 1, 2, 3] (lv' := [(0, .ref (A 38)), (1, .int x1), (2, .int x2), (3, .int x3)]) rfl ?_
              exact (ih).2.2.2.2.2.2.2.1 x1 x2 x3 x1 1 _ _ hM h
      · intro x1 x2 x3 y0 y1 f1 μ hM h
        rw [m_check_b6] at h
        refine z_iconst X d_Mod_check_119 (v := 0) (by decide) ?_
        refine zW.pick [0, 1, 2, 3] (lv' := [(0, .ref (A 38)), (1, .int x1), (2, .int x2), (3, .int x3)]) rfl ?_
        exact (ih).2.2.2.2.2.2.2.1 x1 x2 x3 y0 0 _ _ hM h
      · intro x1 x2 x3 y0 y1 f1 μ hM h
        rw [m_check_b7] at h
        obtain ⟨b120, h⟩ := gd h
        refine z_zastM X d_Mod_check_120 hM 17 20 rfl rfl (vp_of b120) (fun hM => ?_)
        refine z_aload_n X d_Mod_check_121 rfl ?_
        refine z_get X (v := .ref (A 15)) d_Mod_check_122 (hM.lo 38 (by decide)) hM.ob cl_Mod in_Mod 15 (by decide) fl_Mod_41 rfl rfl ?_
        refine z_iload_n X d_Mod_check_125 rfl ?_
        refine z_aload_n X d_Mod_check_126 rfl ?_
        refine z_get X (v := .ref (A 15)) d_Mod_check_127 (hM.lo 38 (by decide)) hM.ob cl_Mod in_Mod 15 (by decide) fl_Mod_41 rfl rfl ?_
        refine z_iload_n X d_Mod_check_130 rfl ?_
        obtain ⟨b131, h⟩ := gd h
        refine z_zald X (g := (μ.2.1 15)) d_Mod_check_131 (hM.lo 15 (by decide)) (hM.zA 15 20 rfl) (t0 := 1) rfl (vp_of b131) ?_
        refine z_if_ne X 140 d_Mod_check_132 (by decide) (fun h132 => ?_) (fun h132 => ?_)
        · skip
          have h := (if_neg h132).symm.trans h
          refine zW.pick [0, 1, 2, 3] (lv' := [(0, .ref (A 38)), (1, .int x1), (2, .int x2), (3, .int x3)]) rfl ?_
          exact (ih).2.2.2.2.2.2.2.2.1 x1 x2 x3 x1 0 _ _ hM h
        · skip
          have h := (if_pos h132).symm.trans h
          refine z_iload_n X d_Mod_check_135 rfl ?_
          refine z_iconst X d_Mod_check_136 (v := 1) (by decide) ?_
          refine z_icmp_ne X 144 d_Mod_check_137 (by decide) (fun h137 => ?_) (fun h137 => ?_)
          · skip
            have h := (if_neg h137).symm.trans h
            refine z_iconst X d_Mod_check_144 (v := 0) (by decide) ?_
            refine zW.pick [0, 1, 2, 3] (lv' := [(0, .ref (A 38)), (1, .int x1), (2, .int x2), (3, .int x3)]) rfl ?_
            exact (ih).2.2.2.2.2.2.2.2.2.1 x1 x2 x3 x1 0 _ _ hM h
          · skip
            have h := (if_pos h137).symm.trans h
            refine zW.pick [0, 1, 2, 3] (lv' := [(0, .ref (A 38)), (1, .int x1), (2, .int x2), (3, .int x3)]) rfl ?_
            exact (ih).2.2.2.2.2.2.2.2.1 x1 x2 x3 x1 0 _ _ hM h
      · intro x1 x2 x3 y0 y1 f1 μ hM h
        rw [m_check_b8] at h
        refine z_iconst X d_Mod_check_140 (v := 1) (by decide) ?_
        refine z_goto X 145 d_Mod_check_141 (by decide) ?_
        refine zW.pick [0, 1, 2, 3] (lv' := [(0, .ref (A 38)), (1, .int x1), (2, .int x2), (3, .int x3)]) rfl ?_
        exact (ih).2.2.2.2.2.2.2.2.2.1 x1 x2 x3 y0 1 _ _ hM h
      · intro x1 x2 x3 y0 y1 f1 μ hM h
        rw [m_check_b9] at h
        obtain ⟨b145, h⟩ := gd h
        refine z_zastM X d_Mod_check_145 hM 15 20 rfl rfl (vp_of b145) (fun hM => ?_)
        refine z_aload_n X d_Mod_check_146 rfl ?_
        refine z_get X (v := .ref (A 14)) d_Mod_check_147 (hM.lo 38 (by decide)) hM.ob cl_Mod in_Mod 14 (by decide) fl_Mod_38 rfl rfl ?_
        refine z_iload_n X d_Mod_check_150 rfl ?_
        refine z_iload_n X d_Mod_check_151 rfl ?_
        refine z_if_eq X 159 d_Mod_check_152 (by decide) (fun h152 => ?_) (fun h152 => ?_)
        · skip
          have h := (if_pos h152).symm.trans h
          refine z_aload_n X d_Mod_check_159 rfl ?_
          refine z_get X (v := .ref (A 14)) d_Mod_check_160 (hM.lo 38 (by decide)) hM.ob cl_Mod in_Mod 14 (by decide) fl_Mod_38 rfl rfl ?_
          refine z_iload_n X d_Mod_check_163 rfl ?_
          obtain ⟨b164, h⟩ := gd h
          refine z_iald X (g := (μ.2.1 14)) d_Mod_check_164 (hM.lo 14 (by decide)) (hM.iA 14 20 rfl) (t0 := 0) rfl (vp_of b164) ?_
          refine zW.pick [0, 1] (lv' := [(0, .ref (A 38)), (1, .int x1)]) rfl ?_
          exact (ih).2.2.2.2.2.2.2.2.2.2 x1 0 0 x1 ((μ.2.1 14) x1.toNatClampNeg) _ _ hM h
        · skip
          have h := (if_neg h152).symm.trans h
          refine z_iload_n X d_Mod_check_155 rfl ?_
          refine z_goto X 165 d_Mod_check_156 (by decide) ?_
          refine zW.pick [0, 1] (lv' := [(0, .ref (A 38)), (1, .int x1)]) rfl ?_
          exact (ih).2.2.2.2.2.2.2.2.2.2 x1 0 0 x1 x3 _ _ hM h
      · intro x1 x2 x3 y0 y1 f1 μ hM h
        rw [m_check_b10] at h
        obtain ⟨b165, h⟩ := gd h
        refine z_iastM X d_Mod_check_165 hM 14 20 rfl rfl (vp_of b165) (fun hM => ?_)
        refine z_iinc X d_Mod_check_166 rfl (iic 1 1 (by decide) _) (by decide) rfl ?_
        refine z_goto X 17 d_Mod_check_169 (by decide) ?_
        refine zW.pick [0, 1] (lv' := [(0, .ref (A 38)), (1, .int (x1 + 1))]) rfl ?_
        exact (ih).1 (x1 + 1) 0 0 0 0 _ _ hM h
  rw [m_check] at h
  refine z_aload_n X d_Mod_check_0 rfl ?_
  refine z_iconst X d_Mod_check_1 (v := 0) (by decide) ?_
  refine z_putM X t_Mod ty_Mod n_Mod d_Mod_check_2 hM cl_Mod in_Mod 0 (by decide) fl_Mod_93 rfl rfl rfl (by decide) rfl (fun hM => ?_)
  refine z_aload_n X d_Mod_check_5 rfl ?_
  refine z_dup X d_Mod_check_6 rfl ?_
  refine z_get X (v := .int (μ.1 4)) d_Mod_check_7 (hM.lo 38 (by decide)) hM.ob cl_Mod in_Mod 4 (by decide) fl_Mod_231 rfl rfl ?_
  refine z_iconst X d_Mod_check_10 (v := 1) (by decide) ?_
  refine z_iadd X d_Mod_check_11 ?_
  refine z_putM X t_Mod ty_Mod n_Mod d_Mod_check_12 hM cl_Mod in_Mod 4 (by decide) fl_Mod_231 rfl rfl rfl (by decide) rfl (fun hM => ?_)
  refine z_iconst X d_Mod_check_15 (v := 0) (by decide) ?_
  refine z_istore_n X d_Mod_check_16 (by decide) rfl ?_
  refine zW.pick [0, 1] (lv' := [(0, .ref (A 38)), (1, .int 0)]) rfl ?_
  exact (L 4096).1 0 0 0 0 0 _ _ hM h
end
