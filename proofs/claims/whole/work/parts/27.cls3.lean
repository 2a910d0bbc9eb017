theorem bBad_1 {ρ : Nat → RuS} {hd : Bool} {g k : Nat} (h : ¬ rG (ρ k) = nI g) : bBad ρ hd g k = false := by simp [bBad, h]
theorem bBad_2 {ρ : Nat → RuS} {hd : Bool} {g k : Nat} (h : (rF (ρ k) && (rH (ρ k) == hd)) = false) : bBad ρ hd g k = false := by rw [bBad, h, Bool.and_false]
theorem bBad_3 {ρ : Nat → RuS} {hd : Bool} {g k : Nat} (h1 : rG (ρ k) = nI g) (h : (rF (ρ k) && (rH (ρ k) == hd)) = true) : bBad ρ hd g k = true := by rw [bBad, h, decide_eq_true h1]; rfl
theorem bNev_1 {ρ : Nat → RuS} {k : Nat} (h : rL (ρ k) = -1) : bNev ρ k = false := by simp [bNev, h]
theorem bNev_2 {ρ : Nat → RuS} {k : Nat} (h : rM (ρ k) = true) : bNev ρ k = false := by simp [bNev, h]
theorem bNev_3 {ρ : Nat → RuS} {k : Nat} (h1 : ¬ rL (ρ k) = -1) (h : rM (ρ k) = false) : bNev ρ k = true := by simp [bNev, h, h1]
theorem i32m1 (a : Int32) : a + (-1) = a - 1 := by rw [Int32.sub_eq_add_neg]
theorem zbt {b : Bool} (h : ¬ zb b = 0) : b = true := by
  cases b
  · exact absurd rfl h
  · rfl
theorem fIn_f {P : Nat → Bool} {n k : Nat} {a : Int32} (h : P k = false) : fIn P (n + 1) k a = fIn P n (k + 1) a := by rw [fIn, h]; rfl
theorem fIn_0 {P : Nat → Bool} {n k : Nat} (h : P k = true) : fIn P (n + 1) k 0 = (some k, 0) := by rw [fIn, h]; rfl
theorem fIn_s {P : Nat → Bool} {n k : Nat} {a : Int32} (h : P k = true) (ha : ¬ a = 0) : fIn P (n + 1) k a = fIn P n (k + 1) (a - 1) := by rw [fIn, if_pos h, if_neg ha]
/-- what a check makes of a rule, and of all -/
def ck1 (v : Nat → Int32) (td lb : Int32) (G : Nat → Int32) (r : RuS) : Int32 × (Nat → Int32) × RuS := if rD r ≤ td then (dbits v 9, wOut v G r.1, (r.1, rG r, rH r, rD r, wOut v G r.1 0, ruM (rM r) (wOut v G r.1 0), ruA (rL r) (rA r) (wOut v G r.1 0), ruF (rL r) (rA r) (wOut v G r.1 0))) else (lb, G, (r.1, rG r, rH r, rD r, rL r, rM r, rA r, false))
def ckS (v : Nat → Int32) (td lb : Int32) (G : Nat → Int32) (ρ : Nat → RuS) : Nat → Int32 × (Nat → Int32) × (Nat → RuS)
  | 0 => (lb, G, ρ)
  | k + 1 => ((ck1 v td (ckS v td lb G ρ k).1 (ckS v td lb G ρ k).2.1 ((ckS v td lb G ρ k).2.2 k)).1, (ck1 v td (ckS v td lb G ρ k).1 (ckS v td lb G ρ k).2.1 ((ckS v td lb G ρ k).2.2 k)).2.1, va_up (ckS v td lb G ρ k).2.2 k (ck1 v td (ckS v td lb G ρ k).1 (ckS v td lb G ρ k).2.1 ((ckS v td lb G ρ k).2.2 k)).2.2)
theorem ck1_t (v : Nat → Int32) (td lb : Int32) (G : Nat → Int32) (r : RuS) : (ck1 v td lb G r).2.2.1 = r.1 := by
  rw [ck1]; split <;> rfl
theorem ckS_t (v : Nat → Int32) (td lb : Int32) (G : Nat → Int32) (ρ : Nat → RuS) (j : Nat) : ∀ k, ((ckS v td lb G ρ k).2.2 j).1 = (ρ j).1
  | 0 => rfl
  | k + 1 => by
    rw [ckS]
    by_cases h : j = k
    · subst h; show (va_up (α := RuS) _ j _ j).1 = _; rw [va_up_self, ck1_t, ckS_t v td lb G ρ j j]
    · show (va_up (α := RuS) _ k _ j).1 = _; rw [va_up_ne _ _ h, ckS_t v td lb G ρ j k]
def ndv (ts : TSt) (i w : Int32) : Int32 := if w = 0 then sgv ts.1 ts.2.2.2 i else if w = 1 then sgv ts.2.1 ts.2.2.2 i else if w = 2 then tleft ts.1 ts.2.2.2 i else sgv ts.2.2.1 ts.2.2.2 i
def pA (A : Nat → Nat) (b : Nat) : Nat → Nat := fun i => match i with
  | 0 => A 15
  | 1 => A 16
  | 2 => A 17
  | 3 => b + 1
  | 4 => b + 2
  | 5 => b + 3
  | _ => b + 4
def bB9 (ρ : Nat → RuS) (hd : Bool) (k : Nat) : Bool := rF (ρ k) && (rH (ρ k) == hd)
def cntv (len rc : Nat) (cc : Int32) (ρ : Nat → RuS) (v : Nat → Int32) (w : Int32) : Int32 := if w = 0 then nI len else if w = 1 then nI rc else if w = 2 then cc else if w = 3 then fCnt (bB9 ρ true) rc else if w = 4 then fCnt (bB9 ρ false) rc else if w = 5 then dbits v 9 else if w < 100 then -1 else if w - 100 < 0 then -1 else if nI rc ≤ w - 100 then -1 else nI (ρ (w - 100).toNatClampNeg).1.2.2.2
section
variable {l : Launch} {D : va_G} {ck : Nat → ClassId} {ad : (Nat → Nat) × (Nat → Nat)} {b0 N : Nat} {f : Nat → va_E}
variable {T : Nat} {A B : Nat → Nat} {g : Nat → Int32} {len : Nat} {st : RSt} {lb : Int32} {G v : Nat → Int32} {ps : PSt} {cc td : Int32} {rc : Nat} {ρ : Nat → RuS}
theorem d_Cls_countBad_0 : decode prog_1_method_24_code 0 = .ok (.iconst 0, 1) := by decide +kernel
theorem d_Cls_countBad_1 : decode prog_1_method_24_code 1 = .ok (.istore_n 2, 1) := by decide +kernel
theorem d_Cls_countBad_2 : decode prog_1_method_24_code 2 = .ok (.iconst 0, 1) := by decide +kernel
theorem d_Cls_countBad_3 : decode prog_1_method_24_code 3 = .ok (.istore_n 3, 1) := by decide +kernel
theorem d_Cls_countBad_4 : decode prog_1_method_24_code 4 = .ok (.iload_n 3, 1) := by decide +kernel
theorem d_Cls_countBad_5 : decode prog_1_method_24_code 5 = .ok (.aload_n 0, 1) := by decide +kernel
theorem d_Cls_countBad_6 : decode prog_1_method_24_code 6 = .ok (.getfield 38, 3) := by decide +kernel
theorem d_Cls_countBad_9 : decode prog_1_method_24_code 9 = .ok (.if_icmp .ge 33, 3) := by decide +kernel
theorem d_Cls_countBad_12 : decode prog_1_method_24_code 12 = .ok (.aload_n 0, 1) := by decide +kernel
theorem d_Cls_countBad_13 : decode prog_1_method_24_code 13 = .ok (.iload_n 3, 1) := by decide +kernel
theorem d_Cls_countBad_14 : decode prog_1_method_24_code 14 = .ok (.invokevirtual 79, 3) := by decide +kernel
theorem d_Cls_countBad_17 : decode prog_1_method_24_code 17 = .ok (.astore 4, 2) := by decide +kernel
theorem d_Cls_countBad_19 : decode prog_1_method_24_code 19 = .ok (.aload 4, 2) := by decide +kernel
theorem d_Cls_countBad_21 : decode prog_1_method_24_code 21 = .ok (.ifnull 15, 3) := by decide +kernel
theorem d_Cls_countBad_24 : decode prog_1_method_24_code 24 = .ok (.aload 4, 2) := by decide +kernel
theorem d_Cls_countBad_26 : decode prog_1_method_24_code 26 = .ok (.iload_n 1, 1) := by decide +kernel
theorem d_Cls_countBad_27 : decode prog_1_method_24_code 27 = .ok (.invokevirtual 200, 3) := by decide +kernel
theorem d_Cls_countBad_30 : decode prog_1_method_24_code 30 = .ok (.ifCond .eq 6, 3) := by decide +kernel
theorem d_Cls_countBad_33 : decode prog_1_method_24_code 33 = .ok (.iinc 2 1, 3) := by decide +kernel
theorem d_Cls_countBad_36 : decode prog_1_method_24_code 36 = .ok (.iinc 3 1, 3) := by decide +kernel
theorem d_Cls_countBad_39 : decode prog_1_method_24_code 39 = .ok (.goto (-35), 3) := by decide +kernel
theorem d_Cls_countBad_42 : decode prog_1_method_24_code 42 = .ok (.iload_n 2, 1) := by decide +kernel
theorem d_Cls_countBad_43 : decode prog_1_method_24_code 43 = .ok (.ireturn, 1) := by decide +kernel
set_option maxHeartbeats 4000000 in
set_option maxRecDepth 100000 in
theorem c_Cls_countBad (hC : zC ck b0 N f T A B g len st lb G v ps cc td rc ρ) (hrc : rc ≤ 20) {hd : Bool} : zK l D ck ad b0 y_Cls_countBad prog_1_method_24_code 5 ((some FieldType.int)) 1 0 0 [.ref (A 0), .int (zb hd)] N f (fun r N' f' => r = some (.int (fCnt (bB9 ρ hd) rc)) ∧ N = N' ∧ f = f') := by
  refine zM.of zG_w (by decide) (Nat.le_of_ble_eq_true rfl) ?_
  intro zp ze zst zm zar zbe zme zc X hnm hb0
  have hP := hC.1
  have L4 : ∀ (nn : Nat) (k : Nat), (k ≤ rc ∧ k + nn = rc + 1) → zW zp l ze (zR 1 0 0) zst zm zar zbe zme zc D zcl b0 5 0 0 (MQ zbe (zQ D zcl b0 (fun r N' f' => r = some (.int (fCnt (bB9 ρ hd) rc)) ∧ N = N' ∧ f = f')) zar zst 0 0 (zA b0)) N f 4 [(0, .ref (A 0)), (1, .int (zb hd)), (2, .int (fCnt (bB9 ρ hd) k)), (3, .int (nI k))] [] := by
    intro nn
    induction nn with
    | zero =>
      intro k hk0
      omega
    | succ nn ih =>
      intro k hk0
      refine z_iload_n X d_Cls_countBad_4 rfl ?_
      refine z_aload_n X d_Cls_countBad_5 rfl ?_
      refine z_get X d_Cls_countBad_6 (hP.lo 0 rfl) (hP.at 0 rfl) cl_Cls in_Cls 4 (by decide) fl_Cls_38 rfl rfl ?_
      refine z_icmp_ge X 42 d_Cls_countBad_9 (by decide) (fun h9 => ?_) (fun h9 => ?_)
      · skip
        have hk2 : k = rc := by have := (nI_leI (a := rc) (b := k) (by omega) (by omega)).mp h9; omega
        subst hk2
        refine z_iload_n X d_Cls_countBad_42 rfl ?_
        exact z_iret X d_Cls_countBad_43 ⟨rfl, rfl, rfl⟩
      · skip
        have hk : k < rc := by
          rcases Nat.lt_or_ge k rc with z | z
          · exact z
          · exact absurd (nI_le (a := rc) (b := k) z (by omega)) h9
        have hP := hC.rl hk
        refine z_aload_n X d_Cls_countBad_12 rfl ?_
        refine z_iload_n X d_Cls_countBad_13 rfl ?_
        refine z_callV X zG_ok (c_Cls_find_y hC hk hrc) d_Cls_countBad_14 ⟨(z_cb (n := 1) X.2.2.2.2.1 ml_Cls_79 mc_Cls_find ini_Cls (by decide +kernel) rfl rfl ⟨Nat.le_of_ble_eq_true rfl, Nat.le_of_ble_eq_true rfl⟩), X.2.2.2.2.1 _ im_Cls_find, X.2.2.2.2.1 _ sel_Cls_find⟩ (hP.lo 0 rfl) (hP.at 0 rfl) cl_Cls rfl rfl (Nat.le_of_ble_eq_true rfl) ⟨Nat.le_of_ble_eq_true rfl, Nat.le_of_ble_eq_true rfl⟩ (fun r N1 f1 hp hN1 => ?_)
        obtain ⟨rfl, rfl, rfl⟩ := hp
        refine z_astore X d_Cls_countBad_17 (by decide) rfl ?_
        refine z_aload X d_Cls_countBad_19 rfl ?_
        refine z_ifnull X d_Cls_countBad_21 ?_
        refine z_aload X d_Cls_countBad_24 rfl ?_
        refine z_iload_n X d_Cls_countBad_26 rfl ?_
        refine z_callV X zG_ok (c_Rul_isBad (hP.sub [19] (by decide) rfl)) d_Cls_countBad_27 ⟨(z_cb (n := 1) X.2.2.2.2.1 ml_Cls_200 mc_Rul_isBad ini_Rul (by decide +kernel) rfl rfl ⟨Nat.le_of_ble_eq_true rfl, Nat.le_of_ble_eq_true rfl⟩), X.2.2.2.2.1 _ im_Rul_isBad, X.2.2.2.2.1 _ sel_Rul_isBad⟩ (hP.lo 19 rfl) (hP.at 19 rfl) cl_Rul rfl rfl (Nat.le_of_ble_eq_true rfl) ⟨Nat.le_of_ble_eq_true rfl, Nat.le_of_ble_eq_true rfl⟩ (fun r N1 f1 hp hN1 => ?_)
        obtain ⟨rfl, rfl, rfl⟩ := hp
        refine z_if_eq X 36 d_Cls_countBad_30 (by decide) (fun h30 => ?_) (fun h30 => ?_)
        · skip
          have e9 : fCnt (bB9 ρ hd) (k + 1) = fCnt (bB9 ρ hd) k := by rw [fCnt, show bB9 ρ hd k = false from zb_0.mp h30]; rfl
          refine z_iinc X d_Cls_countBad_36 rfl (nI_1 _) (by decide) rfl ?_
          refine z_goto X 4 d_Cls_countBad_39 (by decide) ?_
          refine zW.pick [0, 1, 2, 3] (lv' := [(0, .ref (A 0)), (1, .int (zb hd)), (2, .int (fCnt (bB9 ρ hd) (k + 1))), (3, .int (nI (k + 1)))]) (by rw [e9]; rfl) ?_
          exact ih (k + 1) (by omega)
        · skip
          have e9 : fCnt (bB9 ρ hd) (k + 1) = fCnt (bB9 ρ hd) k + 1 := by rw [fCnt, show bB9 ρ hd k = true from zbt h30]; rfl
          refine z_iinc X d_Cls_countBad_33 rfl rfl (by decide) rfl ?_
          refine z_iinc X d_Cls_countBad_36 rfl (nI_1 _) (by decide) rfl ?_
          refine z_goto X 4 d_Cls_countBad_39 (by decide) ?_
          refine zW.pick [0, 1, 2, 3] (lv' := [(0, .ref (A 0)), (1, .int (zb hd)), (2, .int (fCnt (bB9 ρ hd) (k + 1))), (3, .int (nI (k + 1)))]) (by rw [e9]; rfl) ?_
          exact ih (k + 1) (by omega)
  refine z_iconst X d_Cls_countBad_0 (v := 0) (by decide) ?_
  refine z_istore_n X d_Cls_countBad_1 (by decide) rfl ?_
  refine z_iconst X d_Cls_countBad_2 (v := 0) (by decide) ?_
  refine z_istore_n X d_Cls_countBad_3 (by decide) rfl ?_
  exact L4 (rc + 1) 0 (by omega)
theorem d_Cls_never_0 : decode prog_1_method_15_code 0 = .ok (.iload_n 1, 1) := by decide +kernel
theorem d_Cls_never_1 : decode prog_1_method_15_code 1 = .ok (.istore_n 2, 1) := by decide +kernel
theorem d_Cls_never_2 : decode prog_1_method_15_code 2 = .ok (.iconst 0, 1) := by decide +kernel
theorem d_Cls_never_3 : decode prog_1_method_15_code 3 = .ok (.istore_n 3, 1) := by decide +kernel
theorem d_Cls_never_4 : decode prog_1_method_15_code 4 = .ok (.iload_n 3, 1) := by decide +kernel
theorem d_Cls_never_5 : decode prog_1_method_15_code 5 = .ok (.aload_n 0, 1) := by decide +kernel
theorem d_Cls_never_6 : decode prog_1_method_15_code 6 = .ok (.getfield 38, 3) := by decide +kernel
theorem d_Cls_never_9 : decode prog_1_method_15_code 9 = .ok (.if_icmp .ge 47, 3) := by decide +kernel
theorem d_Cls_never_12 : decode prog_1_method_15_code 12 = .ok (.aload_n 0, 1) := by decide +kernel
theorem d_Cls_never_13 : decode prog_1_method_15_code 13 = .ok (.iload_n 3, 1) := by decide +kernel
theorem d_Cls_never_14 : decode prog_1_method_15_code 14 = .ok (.invokevirtual 79, 3) := by decide +kernel
theorem d_Cls_never_17 : decode prog_1_method_15_code 17 = .ok (.astore 4, 2) := by decide +kernel
theorem d_Cls_never_19 : decode prog_1_method_15_code 19 = .ok (.aload 4, 2) := by decide +kernel
theorem d_Cls_never_21 : decode prog_1_method_15_code 21 = .ok (.ifnull 29, 3) := by decide +kernel
theorem d_Cls_never_24 : decode prog_1_method_15_code 24 = .ok (.aload 4, 2) := by decide +kernel
theorem d_Cls_never_26 : decode prog_1_method_15_code 26 = .ok (.getfield 126, 3) := by decide +kernel
theorem d_Cls_never_29 : decode prog_1_method_15_code 29 = .ok (.iconst (-1), 1) := by decide +kernel
theorem d_Cls_never_30 : decode prog_1_method_15_code 30 = .ok (.if_icmp .eq 20, 3) := by decide +kernel
theorem d_Cls_never_33 : decode prog_1_method_15_code 33 = .ok (.aload 4, 2) := by decide +kernel
theorem d_Cls_never_35 : decode prog_1_method_15_code 35 = .ok (.getfield 147, 3) := by decide +kernel
theorem d_Cls_never_38 : decode prog_1_method_15_code 38 = .ok (.ifCond .ne 12, 3) := by decide +kernel
theorem d_Cls_never_41 : decode prog_1_method_15_code 41 = .ok (.iload_n 2, 1) := by decide +kernel
theorem d_Cls_never_42 : decode prog_1_method_15_code 42 = .ok (.ifCond .ne 5, 3) := by decide +kernel
theorem d_Cls_never_45 : decode prog_1_method_15_code 45 = .ok (.iload_n 3, 1) := by decide +kernel
theorem d_Cls_never_46 : decode prog_1_method_15_code 46 = .ok (.ireturn, 1) := by decide +kernel
theorem d_Cls_never_47 : decode prog_1_method_15_code 47 = .ok (.iinc 2 (-1), 3) := by decide +kernel
theorem d_Cls_never_50 : decode prog_1_method_15_code 50 = .ok (.iinc 3 1, 3) := by decide +kernel
theorem d_Cls_never_53 : decode prog_1_method_15_code 53 = .ok (.goto (-49), 3) := by decide +kernel
theorem d_Cls_never_56 : decode prog_1_method_15_code 56 = .ok (.iconst (-1), 1) := by decide +kernel
theorem d_Cls_never_57 : decode prog_1_method_15_code 57 = .ok (.ireturn, 1) := by decide +kernel
set_option maxHeartbeats 4000000 in
set_option maxRecDepth 100000 in
theorem c_Cls_never (hC : zC ck b0 N f T A B g len st lb G v ps cc td rc ρ) (hrc : rc ≤ 20) {i0 : Int32} : zK l D ck ad b0 y_Cls_never prog_1_method_15_code 5 ((some FieldType.int)) 1 0 0 [.ref (A 0), .int i0] N f (fun r N' f' => r = some (.int (fRes (fIn (bNev ρ) rc 0 i0) (fun _ => -1))) ∧ N = N' ∧ f = f') := by
  refine zM.of zG_w (by decide) (Nat.le_of_ble_eq_true rfl) ?_
  intro zp ze zst zm zar zbe zme zc X hnm hb0
  have hP := hC.1
  have L4 : ∀ (nn : Nat) (k : Nat) (a : Int32), (k ≤ rc ∧ k + nn = rc + 1) → fRes (fIn (bNev ρ) rc 0 i0) (fun _ => -1) = fRes (fIn (bNev ρ) (rc - k) k a) (fun _ => -1) → zW zp l ze (zR 1 0 0) zst zm zar zbe zme zc D zcl b0 5 0 0 (MQ zbe (zQ D zcl b0 (fun r N' f' => r = some (.int (fRes (fIn (bNev ρ) rc 0 i0) (fun _ => -1))) ∧ N = N' ∧ f = f')) zar zst 0 0 (zA b0)) N f 4 [(0, .ref (A 0)), (1, .int i0), (2, .int (a)), (3, .int (nI k))] [] := by
    intro nn
    induction nn with
    | zero =>
      intro k a hk0 hz
      omega
    | succ nn ih =>
      intro k a hk0 hz
      refine z_iload_n X d_Cls_never_4 rfl ?_
      refine z_aload_n X d_Cls_never_5 rfl ?_
      refine z_get X d_Cls_never_6 (hP.lo 0 rfl) (hP.at 0 rfl) cl_Cls in_Cls 4 (by decide) fl_Cls_38 rfl rfl ?_
      refine z_icmp_ge X 56 d_Cls_never_9 (by decide) (fun h9 => ?_) (fun h9 => ?_)
      · skip
        have hk2 : k = rc := by have := (nI_leI (a := rc) (b := k) (by omega) (by omega)).mp h9; omega
        subst hk2
        refine z_iconst X d_Cls_never_56 (v := -1) (by decide) ?_
        exact z_iret X d_Cls_never_57 ⟨by rw [hz, Nat.sub_self]; rfl, rfl, rfl⟩
      · skip
        have hk : k < rc := by
          rcases Nat.lt_or_ge k rc with z | z
          · exact z
          · exact absurd (nI_le (a := rc) (b := k) z (by omega)) h9
        have hP := hC.rl hk
        refine z_aload_n X d_Cls_never_12 rfl ?_
        refine z_iload_n X d_Cls_never_13 rfl ?_
        refine z_callV X zG_ok (c_Cls_find_y hC hk hrc) d_Cls_never_14 ⟨(z_cb (n := 1) X.2.2.2.2.1 ml_Cls_79 mc_Cls_find ini_Cls (by decide +kernel) rfl rfl ⟨Nat.le_of_ble_eq_true rfl, Nat.le_of_ble_eq_true rfl⟩), X.2.2.2.2.1 _ im_Cls_find, X.2.2.2.2.1 _ sel_Cls_find⟩ (hP.lo 0 rfl) (hP.at 0 rfl) cl_Cls rfl rfl (Nat.le_of_ble_eq_true rfl) ⟨Nat.le_of_ble_eq_true rfl, Nat.le_of_ble_eq_true rfl⟩ (fun r N1 f1 hp hN1 => ?_)
        obtain ⟨rfl, rfl, rfl⟩ := hp
        refine z_astore X d_Cls_never_17 (by decide) rfl ?_
        refine z_aload X d_Cls_never_19 rfl ?_
        refine z_ifnull X d_Cls_never_21 ?_
        refine z_aload X d_Cls_never_24 rfl ?_
        refine z_getN X d_Cls_never_26 (hP.lo 19 rfl) (hP.at 19 rfl) cl_Rul in_Rul 4 (by decide) (zG_n X.2.2.2.2.2.1 ns_12) rfl rfl ?_
        refine z_iconst X d_Cls_never_29 (v := -1) (by decide) ?_
        refine z_icmp_eq X 50 d_Cls_never_30 (by decide) (fun h30 => ?_) (fun h30 => ?_)
        · skip
          have e7 : fRes (fIn (bNev ρ) rc 0 i0) (fun _ => -1) = fRes (fIn (bNev ρ) (rc - (k + 1)) (k + 1) (a)) (fun _ => -1) := by rw [hz, show rc - k = rc - (k + 1) + 1 by omega, fIn_f (bNev_1 h30)]
          refine z_iinc X d_Cls_never_50 rfl (nI_1 _) (by decide) rfl ?_
          refine z_goto X 4 d_Cls_never_53 (by decide) ?_
          first
            | exact zW.pick [0, 1, 2, 3] (lv' := [(0, .ref (A 0)), (1, .int i0), (2, .int (a)), (3, .int (nI (k + 1)))]) rfl (ih (k + 1) a (by omega) e7)
            | exact zW.pick [0, 1, 2, 3] (lv' := [(0, .ref (A 0)), (1, .int i0), (2, .int (a - 1)), (3, .int (nI (k + 1)))]) rfl (ih (k + 1) (a - 1) (by omega) e7)
        · skip
          refine z_aload X d_Cls_never_33 rfl ?_
          refine z_getN X d_Cls_never_35 (hP.lo 19 rfl) (hP.at 19 rfl) cl_Rul in_Rul 5 (by decide) (zG_n X.2.2.2.2.2.1 ns_13) rfl rfl ?_
          refine z_if_ne X 50 d_Cls_never_38 (by decide) (fun h38 => ?_) (fun h38 => ?_)
          · skip
            have e7 : fRes (fIn (bNev ρ) rc 0 i0) (fun _ => -1) = fRes (fIn (bNev ρ) (rc - (k + 1)) (k + 1) (a)) (fun _ => -1) := by rw [hz, show rc - k = rc - (k + 1) + 1 by omega, fIn_f (bNev_2 (zbt h38))]
            refine z_iinc X d_Cls_never_50 rfl (nI_1 _) (by decide) rfl ?_
            refine z_goto X 4 d_Cls_never_53 (by decide) ?_
            first
              | exact zW.pick [0, 1, 2, 3] (lv' := [(0, .ref (A 0)), (1, .int i0), (2, .int (a)), (3, .int (nI (k + 1)))]) rfl (ih (k + 1) a (by omega) e7)
              | exact zW.pick [0, 1, 2, 3] (lv' := [(0, .ref (A 0)), (1, .int i0), (2, .int (a - 1)), (3, .int (nI (k + 1)))]) rfl (ih (k + 1) (a - 1) (by omega) e7)
          · skip
            have hp1 := bNev_3 h30 (zb_0.mp h38)
            refine z_iload_n X d_Cls_never_41 rfl ?_
            refine z_if_ne X 47 d_Cls_never_42 (by decide) (fun h42 => ?_) (fun h42 => ?_)
            · skip
              have e7 : fRes (fIn (bNev ρ) rc 0 i0) (fun _ => -1) = fRes (fIn (bNev ρ) (rc - (k + 1)) (k + 1) (a - 1)) (fun _ => -1) := by rw [hz, show rc - k = rc - (k + 1) + 1 by omega, fIn_s hp1 h42]
              refine z_iinc X d_Cls_never_47 rfl (i32m1 _) (by decide) rfl ?_
              refine z_iinc X d_Cls_never_50 rfl (nI_1 _) (by decide) rfl ?_
              refine z_goto X 4 d_Cls_never_53 (by decide) ?_
              first
                | exact zW.pick [0, 1, 2, 3] (lv' := [(0, .ref (A 0)), (1, .int i0), (2, .int (a)), (3, .int (nI (k + 1)))]) rfl (ih (k + 1) a (by omega) e7)
                | exact zW.pick [0, 1, 2, 3] (lv' := [(0, .ref (A 0)), (1, .int i0), (2, .int (a - 1)), (3, .int (nI (k + 1)))]) rfl (ih (k + 1) (a - 1) (by omega) e7)
            · skip
              have e9 : fRes (fIn (bNev ρ) rc 0 i0) (fun _ => -1) = nI k := by rw [hz, show rc - k = rc - (k + 1) + 1 by omega, h42, fIn_0 hp1]; rfl
              refine z_iload_n X d_Cls_never_45 rfl ?_
              exact z_iret X d_Cls_never_46 ⟨by rw [e9], rfl, rfl⟩
  refine z_iload_n X d_Cls_never_0 rfl ?_
  refine z_istore_n X d_Cls_never_1 (by decide) rfl ?_
  refine z_iconst X d_Cls_never_2 (v := 0) (by decide) ?_
  refine z_istore_n X d_Cls_never_3 (by decide) rfl ?_
  exact L4 (rc + 1) 0 i0 (by omega) rfl
theorem d_Cls_findBad_0 : decode prog_1_method_23_code 0 = .ok (.iload_n 1, 1) := by decide +kernel
theorem d_Cls_findBad_1 : decode prog_1_method_23_code 1 = .ok (.istore_n 3, 1) := by decide +kernel
theorem d_Cls_findBad_2 : decode prog_1_method_23_code 2 = .ok (.iconst 0, 1) := by decide +kernel
theorem d_Cls_findBad_3 : decode prog_1_method_23_code 3 = .ok (.istore 4, 2) := by decide +kernel
theorem d_Cls_findBad_5 : decode prog_1_method_23_code 5 = .ok (.iload 4, 2) := by decide +kernel
theorem d_Cls_findBad_7 : decode prog_1_method_23_code 7 = .ok (.bipush 10, 2) := by decide +kernel
theorem d_Cls_findBad_9 : decode prog_1_method_23_code 9 = .ok (.if_icmp .ge 69, 3) := by decide +kernel
theorem d_Cls_findBad_12 : decode prog_1_method_23_code 12 = .ok (.iconst 0, 1) := by decide +kernel
theorem d_Cls_findBad_13 : decode prog_1_method_23_code 13 = .ok (.istore 5, 2) := by decide +kernel
theorem d_Cls_findBad_15 : decode prog_1_method_23_code 15 = .ok (.iload 5, 2) := by decide +kernel
theorem d_Cls_findBad_17 : decode prog_1_method_23_code 17 = .ok (.aload_n 0, 1) := by decide +kernel
theorem d_Cls_findBad_18 : decode prog_1_method_23_code 18 = .ok (.getfield 38, 3) := by decide +kernel
theorem d_Cls_findBad_21 : decode prog_1_method_23_code 21 = .ok (.if_icmp .ge 51, 3) := by decide +kernel
theorem d_Cls_findBad_24 : decode prog_1_method_23_code 24 = .ok (.aload_n 0, 1) := by decide +kernel
theorem d_Cls_findBad_25 : decode prog_1_method_23_code 25 = .ok (.iload 5, 2) := by decide +kernel
theorem d_Cls_findBad_27 : decode prog_1_method_23_code 27 = .ok (.invokevirtual 79, 3) := by decide +kernel
theorem d_Cls_findBad_30 : decode prog_1_method_23_code 30 = .ok (.astore 6, 2) := by decide +kernel
theorem d_Cls_findBad_32 : decode prog_1_method_23_code 32 = .ok (.aload 6, 2) := by decide +kernel
theorem d_Cls_findBad_34 : decode prog_1_method_23_code 34 = .ok (.ifnull 32, 3) := by decide +kernel
theorem d_Cls_findBad_37 : decode prog_1_method_23_code 37 = .ok (.aload 6, 2) := by decide +kernel
theorem d_Cls_findBad_39 : decode prog_1_method_23_code 39 = .ok (.getfield 83, 3) := by decide +kernel
theorem d_Cls_findBad_42 : decode prog_1_method_23_code 42 = .ok (.iload 4, 2) := by decide +kernel
theorem d_Cls_findBad_44 : decode prog_1_method_23_code 44 = .ok (.if_icmp .ne 22, 3) := by decide +kernel
theorem d_Cls_findBad_47 : decode prog_1_method_23_code 47 = .ok (.aload 6, 2) := by decide +kernel
theorem d_Cls_findBad_49 : decode prog_1_method_23_code 49 = .ok (.iload_n 2, 1) := by decide +kernel
theorem d_Cls_findBad_50 : decode prog_1_method_23_code 50 = .ok (.invokevirtual 200, 3) := by decide +kernel
theorem d_Cls_findBad_53 : decode prog_1_method_23_code 53 = .ok (.ifCond .eq 13, 3) := by decide +kernel
theorem d_Cls_findBad_56 : decode prog_1_method_23_code 56 = .ok (.iload_n 3, 1) := by decide +kernel
theorem d_Cls_findBad_57 : decode prog_1_method_23_code 57 = .ok (.ifCond .ne 6, 3) := by decide +kernel
theorem d_Cls_findBad_60 : decode prog_1_method_23_code 60 = .ok (.iload 5, 2) := by decide +kernel
theorem d_Cls_findBad_62 : decode prog_1_method_23_code 62 = .ok (.ireturn, 1) := by decide +kernel
theorem d_Cls_findBad_63 : decode prog_1_method_23_code 63 = .ok (.iinc 3 (-1), 3) := by decide +kernel
theorem d_Cls_findBad_66 : decode prog_1_method_23_code 66 = .ok (.iinc 5 1, 3) := by decide +kernel
theorem d_Cls_findBad_69 : decode prog_1_method_23_code 69 = .ok (.goto (-54), 3) := by decide +kernel
theorem d_Cls_findBad_72 : decode prog_1_method_23_code 72 = .ok (.iinc 4 1, 3) := by decide +kernel
theorem d_Cls_findBad_75 : decode prog_1_method_23_code 75 = .ok (.goto (-70), 3) := by decide +kernel
theorem d_Cls_findBad_78 : decode prog_1_method_23_code 78 = .ok (.iconst (-1), 1) := by decide +kernel
theorem d_Cls_findBad_79 : decode prog_1_method_23_code 79 = .ok (.ireturn, 1) := by decide +kernel
set_option maxHeartbeats 4000000 in
set_option maxRecDepth 100000 in
theorem c_Cls_findBad (hC : zC ck b0 N f T A B g len st lb G v ps cc td rc ρ) (hrc : rc ≤ 20) {i0 : Int32} {hd : Bool} : zK l D ck ad b0 y_Cls_findBad prog_1_method_23_code 7 ((some FieldType.int)) 1 0 0 [.ref (A 0), .int i0, .int (zb hd)] N f (fun r N' f' => r = some (.int (fOut (bBad ρ hd) rc 10 0 i0)) ∧ N = N' ∧ f = f') := by
  refine zM.of zG_w (by decide) (Nat.le_of_ble_eq_true rfl) ?_
  intro zp ze zst zm zar zbe zme zc X hnm hb0
  have hP := hC.1
  have L15 : ∀ (nn : Nat) (k : Nat) (a : Int32) (gi : Nat), (k ≤ rc ∧ k + nn = rc + 1) → fOut (bBad ρ hd) rc 10 0 i0 = fRes (fIn (bBad ρ hd gi) (rc - k) k a) (fOut (bBad ρ hd) rc (9 - gi) (gi + 1)) → (∀ a, fOut (bBad ρ hd) rc 10 0 i0 = (fOut (bBad ρ hd) rc (9 - gi) (gi + 1) a) → zW zp l ze (zR 1 0 0) zst zm zar zbe zme zc D zcl b0 7 0 0 (MQ zbe (zQ D zcl b0 (fun r N' f' => r = some (.int (fOut (bBad ρ hd) rc 10 0 i0)) ∧ N = N' ∧ f = f')) zar zst 0 0 (zA b0)) N f 72 [(0, .ref (A 0)), (1, .int i0), (2, .int (zb hd)), (3, .int (a)), (4, .int (nI gi)), (5, .int (nI rc))] []) → zW zp l ze (zR 1 0 0) zst zm zar zbe zme zc D zcl b0 7 0 0 (MQ zbe (zQ D zcl b0 (fun r N' f' => r = some (.int (fOut (bBad ρ hd) rc 10 0 i0)) ∧ N = N' ∧ f = f')) zar zst 0 0 (zA b0)) N f 15 [(0, .ref (A 0)), (1, .int i0), (2, .int (zb hd)), (3, .int (a)), (4, .int (nI gi)), (5, .int (nI k))] [] := by
    intro nn
    induction nn with
    | zero =>
      intro k a gi hk0 hz hex
      omega
    | succ nn ih =>
      intro k a gi hk0 hz hex
      refine z_iload X d_Cls_findBad_15 rfl ?_
      refine z_aload_n X d_Cls_findBad_17 rfl ?_
      refine z_get X d_Cls_findBad_18 (hP.lo 0 rfl) (hP.at 0 rfl) cl_Cls in_Cls 4 (by decide) fl_Cls_38 rfl rfl ?_
      refine z_icmp_ge X 72 d_Cls_findBad_21 (by decide) (fun h21 => ?_) (fun h21 => ?_)
      · skip
        have hk2 : k = rc := by have := (nI_leI (a := rc) (b := k) (by omega) (by omega)).mp h21; omega
        subst hk2
        refine hex a ?_
        rw [hz, Nat.sub_self]
        rfl
      · skip
        have hk : k < rc := by
          rcases Nat.lt_or_ge k rc with z | z
          · exact z
          · exact absurd (nI_le (a := rc) (b := k) z (by omega)) h21
        have hP := hC.rl hk
        refine z_aload_n X d_Cls_findBad_24 rfl ?_
        refine z_iload X d_Cls_findBad_25 rfl ?_
        refine z_callV X zG_ok (c_Cls_find_y hC hk hrc) d_Cls_findBad_27 ⟨(z_cb (n := 1) X.2.2.2.2.1 ml_Cls_79 mc_Cls_find ini_Cls (by decide +kernel) rfl rfl ⟨Nat.le_of_ble_eq_true rfl, Nat.le_of_ble_eq_true rfl⟩), X.2.2.2.2.1 _ im_Cls_find, X.2.2.2.2.1 _ sel_Cls_find⟩ (hP.lo 0 rfl) (hP.at 0 rfl) cl_Cls rfl rfl (Nat.le_of_ble_eq_true rfl) ⟨Nat.le_of_ble_eq_true rfl, Nat.le_of_ble_eq_true rfl⟩ (fun r N1 f1 hp hN1 => ?_)
        obtain ⟨rfl, rfl, rfl⟩ := hp
        refine z_astore X d_Cls_findBad_30 (by decide) rfl ?_
        refine z_aload X d_Cls_findBad_32 rfl ?_
        refine z_ifnull X d_Cls_findBad_34 ?_
        refine z_aload X d_Cls_findBad_37 rfl ?_
        refine z_getN X d_Cls_findBad_39 (hP.lo 19 rfl) (hP.at 19 rfl) cl_Rul in_Rul 1 (by decide) (zG_n X.2.2.2.2.2.1 ns_9) rfl rfl ?_
        refine z_iload X d_Cls_findBad_42 rfl ?_
        refine z_icmp_ne X 66 d_Cls_findBad_44 (by decide) (fun h44 => ?_) (fun h44 => ?_)
        · skip
          have e7 : fOut (bBad ρ hd) rc 10 0 i0 = fRes (fIn (bBad ρ hd gi) (rc - (k + 1)) (k + 1) (a)) (fOut (bBad ρ hd) rc (9 - gi) (gi + 1)) := by rw [hz, show rc - k = rc - (k + 1) + 1 by omega, fIn_f (bBad_1 h44)]
          refine z_iinc X d_Cls_findBad_66 rfl (nI_1 _) (by decide) rfl ?_
          refine z_goto X 15 d_Cls_findBad_69 (by decide) ?_
          first
            | exact zW.pick [0, 1, 2, 3, 4, 5] (lv' := [(0, .ref (A 0)), (1, .int i0), (2, .int (zb hd)), (3, .int (a)), (4, .int (nI gi)), (5, .int (nI (k + 1)))]) rfl (ih (k + 1) a gi (by omega) e7 hex)
            | exact zW.pick [0, 1, 2, 3, 4, 5] (lv' := [(0, .ref (A 0)), (1, .int i0), (2, .int (zb hd)), (3, .int (a - 1)), (4, .int (nI gi)), (5, .int (nI (k + 1)))]) rfl (ih (k + 1) (a - 1) gi (by omega) e7 hex)
        · skip
          refine z_aload X d_Cls_findBad_47 rfl ?_
          refine z_iload_n X d_Cls_findBad_49 rfl ?_
          refine z_callV X zG_ok (c_Rul_isBad (hP.sub [19] (by decide) rfl)) d_Cls_findBad_50 ⟨(z_cb (n := 1) X.2.2.2.2.1 ml_Cls_200 mc_Rul_isBad ini_Rul (by decide +kernel) rfl rfl ⟨Nat.le_of_ble_eq_true rfl, Nat.le_of_ble_eq_true rfl⟩), X.2.2.2.2.1 _ im_Rul_isBad, X.2.2.2.2.1 _ sel_Rul_isBad⟩ (hP.lo 19 rfl) (hP.at 19 rfl) cl_Rul rfl rfl (Nat.le_of_ble_eq_true rfl) ⟨Nat.le_of_ble_eq_true rfl, Nat.le_of_ble_eq_true rfl⟩ (fun r N1 f1 hp hN1 => ?_)
          obtain ⟨rfl, rfl, rfl⟩ := hp
          refine z_if_eq X 66 d_Cls_findBad_53 (by decide) (fun h53 => ?_) (fun h53 => ?_)
          · skip
            have e7 : fOut (bBad ρ hd) rc 10 0 i0 = fRes (fIn (bBad ρ hd gi) (rc - (k + 1)) (k + 1) (a)) (fOut (bBad ρ hd) rc (9 - gi) (gi + 1)) := by rw [hz, show rc - k = rc - (k + 1) + 1 by omega, fIn_f (bBad_2 (zb_0.mp h53))]
            refine z_iinc X d_Cls_findBad_66 rfl (nI_1 _) (by decide) rfl ?_
            refine z_goto X 15 d_Cls_findBad_69 (by decide) ?_
            first
              | exact zW.pick [0, 1, 2, 3, 4, 5] (lv' := [(0, .ref (A 0)), (1, .int i0), (2, .int (zb hd)), (3, .int (a)), (4, .int (nI gi)), (5, .int (nI (k + 1)))]) rfl (ih (k + 1) a gi (by omega) e7 hex)
              | exact zW.pick [0, 1, 2, 3, 4, 5] (lv' := [(0, .ref (A 0)), (1, .int i0), (2, .int (zb hd)), (3, .int (a - 1)), (4, .int (nI gi)), (5, .int (nI (k + 1)))]) rfl (ih (k + 1) (a - 1) gi (by omega) e7 hex)
          · skip
            have hp1 := bBad_3 h44 (zbt h53)
            refine z_iload_n X d_Cls_findBad_56 rfl ?_
            refine z_if_ne X 63 d_Cls_findBad_57 (by decide) (fun h57 => ?_) (fun h57 => ?_)
            · skip
              have e7 : fOut (bBad ρ hd) rc 10 0 i0 = fRes (fIn (bBad ρ hd gi) (rc - (k + 1)) (k + 1) (a - 1)) (fOut (bBad ρ hd) rc (9 - gi) (gi + 1)) := by rw [hz, show rc - k = rc - (k + 1) + 1 by omega, fIn_s hp1 h57]
              refine z_iinc X d_Cls_findBad_63 rfl (i32m1 _) (by decide) rfl ?_
              refine z_iinc X d_Cls_findBad_66 rfl (nI_1 _) (by decide) rfl ?_
              refine z_goto X 15 d_Cls_findBad_69 (by decide) ?_
              first
                | exact zW.pick [0, 1, 2, 3, 4, 5] (lv' := [(0, .ref (A 0)), (1, .int i0), (2, .int (zb hd)), (3, .int (a)), (4, .int (nI gi)), (5, .int (nI (k + 1)))]) rfl (ih (k + 1) a gi (by omega) e7 hex)
                | exact zW.pick [0, 1, 2, 3, 4, 5] (lv' := [(0, .ref (A 0)), (1, .int i0), (2, .int (zb hd)), (3, .int (a - 1)), (4, .int (nI gi)), (5, .int (nI (k + 1)))]) rfl (ih (k + 1) (a - 1) gi (by omega) e7 hex)
            · skip
              have e9 : fOut (bBad ρ hd) rc 10 0 i0 = nI k := by rw [hz, show rc - k = rc - (k + 1) + 1 by omega, h57, fIn_0 hp1]; rfl
              refine z_iload X d_Cls_findBad_60 rfl ?_
              exact z_iret X d_Cls_findBad_62 ⟨by rw [e9], rfl, rfl⟩
  have L5 : ∀ (nn : Nat) (gi : Nat) (a : Int32), (gi ≤ 10 ∧ gi + nn = 11) → fOut (bBad ρ hd) rc 10 0 i0 = fOut (bBad ρ hd) rc (10 - gi) gi a → zW zp l ze (zR 1 0 0) zst zm zar zbe zme zc D zcl b0 7 0 0 (MQ zbe (zQ D zcl b0 (fun r N' f' => r = some (.int (fOut (bBad ρ hd) rc 10 0 i0)) ∧ N = N' ∧ f = f')) zar zst 0 0 (zA b0)) N f 5 [(0, .ref (A 0)), (1, .int i0), (2, .int (zb hd)), (3, .int (a)), (4, .int (nI gi))] [] := by
    intro nn
    induction nn with
    | zero =>
      intro gi a hg0 hz
      omega
    | succ nn ih =>
      intro gi a hg0 hz
      refine z_iload X d_Cls_findBad_5 rfl ?_
      refine z_bipush X d_Cls_findBad_7 (v := 10) (by decide) ?_
      refine z_icmp_ge X 78 d_Cls_findBad_9 (by decide) (fun h9 => ?_) (fun h9 => ?_)
      · skip
        have hg2 : gi = 10 := by have := (nI_leI (a := 10) (b := gi) (by decide) (by omega)).mp h9; omega
        subst hg2
        refine z_iconst X d_Cls_findBad_78 (v := -1) (by decide) ?_
        exact z_iret X d_Cls_findBad_79 ⟨by rw [hz]; rfl, rfl, rfl⟩
      · skip
        have hg2 : gi < 10 := by
          rcases Nat.lt_or_ge gi 10 with z | z
          · exact z
          · exact absurd (nI_le (a := 10) (b := gi) z (by omega)) h9
        refine z_iconst X d_Cls_findBad_12 (v := 0) (by decide) ?_
        refine z_istore X d_Cls_findBad_13 (by decide) rfl ?_
        refine L15 (rc + 1) 0 a gi (by omega) (by rw [hz, show 10 - gi = 9 - gi + 1 by omega, fOut]; rfl) (fun a hz => ?_)
        refine z_iinc X d_Cls_findBad_72 rfl (nI_1 _) (by decide) rfl ?_
        refine z_goto X 5 d_Cls_findBad_75 (by decide) ?_
        refine zW.pick [0, 1, 2, 3, 4] (lv' := [(0, .ref (A 0)), (1, .int i0), (2, .int (zb hd)), (3, .int (a)), (4, .int (nI (gi + 1)))]) rfl ?_
        exact ih (gi + 1) a (by omega) (by rw [hz, show 10 - (gi + 1) = 9 - gi by omega])
  refine z_iload_n X d_Cls_findBad_0 rfl ?_
  refine z_istore_n X d_Cls_findBad_1 (by decide) rfl ?_
  refine z_iconst X d_Cls_findBad_2 (v := 0) (by decide) ?_
  refine z_istore X d_Cls_findBad_3 (by decide) rfl ?_
  exact L5 11 0 i0 (by omega) rfl
theorem d_Cls_bad_0 : decode prog_1_method_10_code 0 = .ok (.aload_n 0, 1) := by decide +kernel
theorem d_Cls_bad_1 : decode prog_1_method_10_code 1 = .ok (.iload_n 1, 1) := by decide +kernel
theorem d_Cls_bad_2 : decode prog_1_method_10_code 2 = .ok (.iload_n 2, 1) := by decide +kernel
theorem d_Cls_bad_3 : decode prog_1_method_10_code 3 = .ok (.invokevirtual 117, 3) := by decide +kernel
theorem d_Cls_bad_6 : decode prog_1_method_10_code 6 = .ok (.ireturn, 1) := by decide +kernel
set_option maxHeartbeats 4000000 in
set_option maxRecDepth 100000 in
theorem c_Cls_bad (hC : zC ck b0 N f T A B g len st lb G v ps cc td rc ρ) (hrc : rc ≤ 20) {i0 : Int32} {hd : Bool} : zK l D ck ad b0 y_Cls_bad prog_1_method_10_code 3 ((some FieldType.int)) 2 0 0 [.ref (A 0), .int i0, .int (zb hd)] N f (fun r N' f' => r = some (.int (fOut (bBad ρ hd) rc 10 0 i0)) ∧ N = N' ∧ f = f') := by
  refine zM.of zG_w (by decide) (Nat.le_of_ble_eq_true rfl) ?_
  intro zp ze zst zm zar zbe zme zc X hnm hb0
  have hP := hC.1
  refine z_aload_n X d_Cls_bad_0 rfl ?_
  refine z_iload_n X d_Cls_bad_1 rfl ?_
  refine z_iload_n X d_Cls_bad_2 rfl ?_
  refine z_callV X zG_ok (c_Cls_findBad hC hrc) d_Cls_bad_3 ⟨(z_cb (n := 2) X.2.2.2.2.1 ml_Cls_117 mc_Cls_findBad ini_Cls (by decide +kernel) rfl rfl ⟨Nat.le_of_ble_eq_true rfl, Nat.le_of_ble_eq_true rfl⟩), X.2.2.2.2.1 _ im_Cls_findBad, X.2.2.2.2.1 _ sel_Cls_findBad⟩ (hP.lo 0 rfl) (hP.at 0 rfl) cl_Cls rfl rfl (Nat.le_of_ble_eq_true rfl) ⟨Nat.le_of_ble_eq_true rfl, Nat.le_of_ble_eq_true rfl⟩ (fun r N1 f1 hp hN1 => ?_)
  obtain ⟨rfl, rfl, rfl⟩ := hp
  exact z_iret X d_Cls_bad_6 ⟨rfl, rfl, rfl⟩
set_option maxHeartbeats 4000000 in
set_option maxRecDepth 100000 in
theorem c_Cls_find_yi (hC : zC ck b0 N f T A B g len st lb G v ps cc td rc ρ) {k : Nat} (hk : k < rc) (hrc : rc ≤ 20) {i : Int32} (hi : i = nI k) : zK l D ck ad b0 y_Cls_find prog_1_method_21_code 2 ((some (FieldType.object "CheckRules$Rule"))) 0 0 0 [.ref (A 0), .int i] N f (fun r N' f' => r = some (.ref (B k)) ∧ N = N' ∧ f = f') := by
  subst hi
  exact c_Cls_find_y hC hk hrc
theorem d_Cls_countNodes_0 : decode prog_1_method_20_code 0 = .ok (.iload_n 1, 1) := by decide +kernel
theorem d_Cls_countNodes_1 : decode prog_1_method_20_code 1 = .ok (.bipush 100, 2) := by decide +kernel
theorem d_Cls_countNodes_3 : decode prog_1_method_20_code 3 = .ok (.if_icmp .ge 5, 3) := by decide +kernel
theorem d_Cls_countNodes_6 : decode prog_1_method_20_code 6 = .ok (.iconst (-1), 1) := by decide +kernel
theorem d_Cls_countNodes_7 : decode prog_1_method_20_code 7 = .ok (.ireturn, 1) := by decide +kernel
theorem d_Cls_countNodes_8 : decode prog_1_method_20_code 8 = .ok (.aload_n 0, 1) := by decide +kernel
theorem d_Cls_countNodes_9 : decode prog_1_method_20_code 9 = .ok (.iload_n 1, 1) := by decide +kernel
theorem d_Cls_countNodes_10 : decode prog_1_method_20_code 10 = .ok (.bipush 100, 2) := by decide +kernel
theorem d_Cls_countNodes_12 : decode prog_1_method_20_code 12 = .ok (.isub, 1) := by decide +kernel
theorem d_Cls_countNodes_13 : decode prog_1_method_20_code 13 = .ok (.invokevirtual 79, 3) := by decide +kernel
theorem d_Cls_countNodes_16 : decode prog_1_method_20_code 16 = .ok (.astore_n 2, 1) := by decide +kernel
theorem d_Cls_countNodes_17 : decode prog_1_method_20_code 17 = .ok (.aload_n 2, 1) := by decide +kernel
theorem d_Cls_countNodes_18 : decode prog_1_method_20_code 18 = .ok (.ifnonnull 7, 3) := by decide +kernel
theorem d_Cls_countNodes_21 : decode prog_1_method_20_code 21 = .ok (.iconst (-1), 1) := by decide +kernel
theorem d_Cls_countNodes_22 : decode prog_1_method_20_code 22 = .ok (.goto 10, 3) := by decide +kernel
theorem d_Cls_countNodes_25 : decode prog_1_method_20_code 25 = .ok (.aload_n 2, 1) := by decide +kernel
theorem d_Cls_countNodes_26 : decode prog_1_method_20_code 26 = .ok (.getfield 129, 3) := by decide +kernel
theorem d_Cls_countNodes_29 : decode prog_1_method_20_code 29 = .ok (.invokevirtual 150, 3) := by decide +kernel
theorem d_Cls_countNodes_32 : decode prog_1_method_20_code 32 = .ok (.ireturn, 1) := by decide +kernel
set_option maxHeartbeats 4000000 in
set_option maxRecDepth 100000 in
theorem c_Cls_countNodes_y (hC : zC ck b0 N f T A B g len st lb G v ps cc td rc ρ) {k : Nat} (hk : k < rc) (hrc : rc ≤ 20) {w : Int32} (hw : ¬ w < 100) (hw2 : w - 100 = nI k) : zK l D ck ad b0 y_Cls_countNodes prog_1_method_20_code 3 ((some FieldType.int)) 1 0 0 [.ref (A 0), .int w] N f (fun r N' f' => r = some (.int (nI (ρ k).1.2.2.2)) ∧ N = N' ∧ f = f') := by
  refine zM.of zG_w (by decide) (Nat.le_of_ble_eq_true rfl) ?_
  intro zp ze zst zm zar zbe zme zc X hnm hb0
  have hP := hC.rl hk
  refine z_iload_n X d_Cls_countNodes_0 rfl ?_
  refine z_bipush X d_Cls_countNodes_1 (v := 100) (by decide) ?_
  refine z_icmp_ge X 8 d_Cls_countNodes_3 (by decide) (fun h3 => ?_) (fun h3 => ?_)
  · skip
    refine z_aload_n X d_Cls_countNodes_8 rfl ?_
    refine z_iload_n X d_Cls_countNodes_9 rfl ?_
    refine z_bipush X d_Cls_countNodes_10 (v := 100) (by decide) ?_
    refine z_isub X d_Cls_countNodes_12 ?_
    refine z_callV X zG_ok (c_Cls_find_yi hC hk hrc hw2) d_Cls_countNodes_13 ⟨(z_cb (n := 1) X.2.2.2.2.1 ml_Cls_79 mc_Cls_find ini_Cls (by decide +kernel) rfl rfl ⟨Nat.le_of_ble_eq_true rfl, Nat.le_of_ble_eq_true rfl⟩), X.2.2.2.2.1 _ im_Cls_find, X.2.2.2.2.1 _ sel_Cls_find⟩ (hP.lo 0 rfl) (hP.at 0 rfl) cl_Cls rfl rfl (Nat.le_of_ble_eq_true rfl) ⟨Nat.le_of_ble_eq_true rfl, Nat.le_of_ble_eq_true rfl⟩ (fun r N1 f1 hp hN1 => ?_)
    obtain ⟨rfl, rfl, rfl⟩ := hp
    refine z_astore_n X d_Cls_countNodes_16 (by decide) rfl ?_
    refine z_aload_n X d_Cls_countNodes_17 rfl ?_
    refine z_ifnonnull X 25 d_Cls_countNodes_18 (by decide) ?_
    refine z_aload_n X d_Cls_countNodes_25 rfl ?_
    refine z_getN X d_Cls_countNodes_26 (hP.lo 19 rfl) (hP.at 19 rfl) cl_Rul in_Rul 0 (by decide) (zG_n X.2.2.2.2.2.1 ns_8) rfl rfl ?_
    refine z_callV X zG_ok (c_Tre_size (hP.sub [20, 21, 22, 23] (by decide) rfl)) d_Cls_countNodes_29 ⟨(z_cb (n := 0) X.2.2.2.2.1 ml_Cls_150 mc_Tre_size ini_Tre (by decide +kernel) rfl rfl ⟨Nat.le_of_ble_eq_true rfl, Nat.le_of_ble_eq_true rfl⟩), X.2.2.2.2.1 _ im_Tre_size, X.2.2.2.2.1 _ sel_Tre_size⟩ (hP.lo 20 rfl) (hP.at 20 rfl) cl_Tre rfl rfl (Nat.le_of_ble_eq_true rfl) ⟨Nat.le_of_ble_eq_true rfl, Nat.le_of_ble_eq_true rfl⟩ (fun r N1 f1 hp hN1 => ?_)
    obtain ⟨rfl, rfl, rfl⟩ := hp
    exact z_iret X d_Cls_countNodes_32 ⟨rfl, rfl, rfl⟩
  · skip
    exact absurd (Int32.not_lt.mp hw) h3
set_option maxHeartbeats 4000000 in
set_option maxRecDepth 100000 in
theorem c_Cls_countNodes_n (hC : zC ck b0 N f T A B g len st lb G v ps cc td rc ρ) (hrc : rc ≤ 20) {w : Int32} (hw : w < 100 ∨ w - 100 < 0 ∨ nI rc ≤ w - 100) : zK l D ck ad b0 y_Cls_countNodes prog_1_method_20_code 3 ((some FieldType.int)) 1 0 0 [.ref (A 0), .int w] N f (fun r N' f' => r = some (.int (-1)) ∧ N = N' ∧ f = f') := by
  refine zM.of zG_w (by decide) (Nat.le_of_ble_eq_true rfl) ?_
  intro zp ze zst zm zar zbe zme zc X hnm hb0
  have hP := hC.1
  refine z_iload_n X d_Cls_countNodes_0 rfl ?_
  refine z_bipush X d_Cls_countNodes_1 (v := 100) (by decide) ?_
  refine z_icmp_ge X 8 d_Cls_countNodes_3 (by decide) (fun h3 => ?_) (fun h3 => ?_)
  · skip
    refine z_aload_n X d_Cls_countNodes_8 rfl ?_
    refine z_iload_n X d_Cls_countNodes_9 rfl ?_
    refine z_bipush X d_Cls_countNodes_10 (v := 100) (by decide) ?_
    refine z_isub X d_Cls_countNodes_12 ?_
    refine z_callV X zG_ok (c_Cls_find_n hC hrc (hw.resolve_left (Int32.not_lt.mpr h3))) d_Cls_countNodes_13 ⟨(z_cb (n := 1) X.2.2.2.2.1 ml_Cls_79 mc_Cls_find ini_Cls (by decide +kernel) rfl rfl ⟨Nat.le_of_ble_eq_true rfl, Nat.le_of_ble_eq_true rfl⟩), X.2.2.2.2.1 _ im_Cls_find, X.2.2.2.2.1 _ sel_Cls_find⟩ (hP.lo 0 rfl) (hP.at 0 rfl) cl_Cls rfl rfl (Nat.le_of_ble_eq_true rfl) ⟨Nat.le_of_ble_eq_true rfl, Nat.le_of_ble_eq_true rfl⟩ (fun r N1 f1 hp hN1 => ?_)
    obtain ⟨rfl, rfl, rfl⟩ := hp
    refine z_astore_nN X d_Cls_countNodes_16 (by decide) rfl ?_
    refine z_aload_nN X d_Cls_countNodes_17 rfl ?_
    refine z_ifnonnullN X d_Cls_countNodes_18 ?_
    refine z_iconst X d_Cls_countNodes_21 (v := -1) (by decide) ?_
    refine z_goto X 32 d_Cls_countNodes_22 (by decide) ?_
    exact z_iret X d_Cls_countNodes_32 ⟨rfl, rfl, rfl⟩
  · skip
    refine z_iconst X d_Cls_countNodes_6 (v := -1) (by decide) ?_
    exact z_iret X d_Cls_countNodes_7 ⟨rfl, rfl, rfl⟩
set_option maxHeartbeats 4000000 in
set_option maxRecDepth 100000 in
theorem c_Cls_countNodes (hC : zC ck b0 N f T A B g len st lb G v ps cc td rc ρ) (hrc : rc ≤ 20) {w : Int32} : zK l D ck ad b0 y_Cls_countNodes prog_1_method_20_code 3 ((some FieldType.int)) 1 0 0 [.ref (A 0), .int w] N f (fun r N' f' => r = some (.int (if w < 100 then -1 else if w - 100 < 0 then -1 else if nI rc ≤ w - 100 then -1 else nI (ρ (w - 100).toNatClampNeg).1.2.2.2)) ∧ N = N' ∧ f = f') := by
  by_cases h1 : w < 100
  · rw [if_pos h1]; exact c_Cls_countNodes_n hC hrc (Or.inl h1)
  · rw [if_neg h1]
    by_cases h2 : w - 100 < 0
    · rw [if_pos h2]; exact c_Cls_countNodes_n hC hrc (Or.inr (Or.inl h2))
    · rw [if_neg h2]
      by_cases h3 : nI rc ≤ w - 100
      · rw [if_pos h3]; exact c_Cls_countNodes_n hC hrc (Or.inr (Or.inr h3))
      · rw [if_neg h3]
        obtain ⟨k, hk, e⟩ := nI_of h2
        have hkr : k < rc := by
          rw [e] at h3
          rcases Nat.lt_or_ge k rc with z | z
          · exact z
          · exact absurd (nI_le z hk) h3
        rw [e, nI_clamp hk]
        exact c_Cls_countNodes_y hC hkr hrc h1 e
theorem d_Cls_count_0 : decode prog_1_method_19_code 0 = .ok (.iload_n 1, 1) := by decide +kernel
theorem d_Cls_count_1 : decode prog_1_method_19_code 1 = .ok (.tableswitch 83 0 5 #[39, 50, 55, 60, 66, 72], 39) := by decide +kernel
theorem d_Cls_count_40 : decode prog_1_method_19_code 40 = .ok (.aload_n 0, 1) := by decide +kernel
theorem d_Cls_count_41 : decode prog_1_method_19_code 41 = .ok (.getfield 12, 3) := by decide +kernel
theorem d_Cls_count_44 : decode prog_1_method_19_code 44 = .ok (.getfield 48, 3) := by decide +kernel
theorem d_Cls_count_47 : decode prog_1_method_19_code 47 = .ok (.invokevirtual 177, 3) := by decide +kernel
theorem d_Cls_count_50 : decode prog_1_method_19_code 50 = .ok (.ireturn, 1) := by decide +kernel
theorem d_Cls_count_51 : decode prog_1_method_19_code 51 = .ok (.aload_n 0, 1) := by decide +kernel
theorem d_Cls_count_52 : decode prog_1_method_19_code 52 = .ok (.getfield 38, 3) := by decide +kernel
theorem d_Cls_count_55 : decode prog_1_method_19_code 55 = .ok (.ireturn, 1) := by decide +kernel
theorem d_Cls_count_56 : decode prog_1_method_19_code 56 = .ok (.aload_n 0, 1) := by decide +kernel
theorem d_Cls_count_57 : decode prog_1_method_19_code 57 = .ok (.getfield 42, 3) := by decide +kernel
theorem d_Cls_count_60 : decode prog_1_method_19_code 60 = .ok (.ireturn, 1) := by decide +kernel
theorem d_Cls_count_61 : decode prog_1_method_19_code 61 = .ok (.aload_n 0, 1) := by decide +kernel
theorem d_Cls_count_62 : decode prog_1_method_19_code 62 = .ok (.iconst 1, 1) := by decide +kernel
theorem d_Cls_count_63 : decode prog_1_method_19_code 63 = .ok (.invokevirtual 183, 3) := by decide +kernel
theorem d_Cls_count_66 : decode prog_1_method_19_code 66 = .ok (.ireturn, 1) := by decide +kernel
theorem d_Cls_count_67 : decode prog_1_method_19_code 67 = .ok (.aload_n 0, 1) := by decide +kernel
theorem d_Cls_count_68 : decode prog_1_method_19_code 68 = .ok (.iconst 0, 1) := by decide +kernel
theorem d_Cls_count_69 : decode prog_1_method_19_code 69 = .ok (.invokevirtual 183, 3) := by decide +kernel
theorem d_Cls_count_72 : decode prog_1_method_19_code 72 = .ok (.ireturn, 1) := by decide +kernel
theorem d_Cls_count_73 : decode prog_1_method_19_code 73 = .ok (.aload_n 0, 1) := by decide +kernel
theorem d_Cls_count_74 : decode prog_1_method_19_code 74 = .ok (.getfield 21, 3) := by decide +kernel
theorem d_Cls_count_77 : decode prog_1_method_19_code 77 = .ok (.getfield 98, 3) := by decide +kernel
theorem d_Cls_count_80 : decode prog_1_method_19_code 80 = .ok (.invokevirtual 187, 3) := by decide +kernel
theorem d_Cls_count_83 : decode prog_1_method_19_code 83 = .ok (.ireturn, 1) := by decide +kernel
theorem d_Cls_count_84 : decode prog_1_method_19_code 84 = .ok (.aload_n 0, 1) := by decide +kernel
theorem d_Cls_count_85 : decode prog_1_method_19_code 85 = .ok (.iload_n 1, 1) := by decide +kernel
theorem d_Cls_count_86 : decode prog_1_method_19_code 86 = .ok (.invokevirtual 190, 3) := by decide +kernel
theorem d_Cls_count_89 : decode prog_1_method_19_code 89 = .ok (.ireturn, 1) := by decide +kernel
set_option maxHeartbeats 4000000 in
set_option maxRecDepth 100000 in
theorem c_Cls_count (hC : zC ck b0 N f T A B g len st lb G v ps cc td rc ρ) (hrc : rc ≤ 20) (hlen : len ≤ 200) {w : Int32} : zK l D ck ad b0 y_Cls_count prog_1_method_19_code 2 ((some FieldType.int)) 3 0 0 [.ref (A 0), .int w] N f (fun r N' f' => r = some (.int (cntv len rc cc ρ v w)) ∧ N = N' ∧ f = f') := by
  refine zM.of zG_w (by decide) (Nat.le_of_ble_eq_true rfl) ?_
  intro zp ze zst zm zar zbe zme zc X hnm hb0
  have hP := hC.1
  refine z_iload_n X d_Cls_count_0 rfl ?_
  refine z_tableL X 84 [40, 51, 56, 61, 67, 73] d_Cls_count_1 (by decide) (by decide) (by decide) (fun i hi hx => ?_) (fun hd => ?_) (by decide)
  · match i, hi, hx with
    | 0, _, hx =>
      have g1 : _ = (0 : Int32) := hx
      have g1 : w = 0 := g1
      subst g1
      refine zW.topc (pc' := 40) rfl ?_
      refine z_aload_n X d_Cls_count_40 rfl ?_
      refine z_get X d_Cls_count_41 (hP.lo 0 rfl) (hP.at 0 rfl) cl_Cls in_Cls 0 (by decide) fl_Cls_12 rfl rfl ?_
      refine z_getN X d_Cls_count_44 (hP.lo 1 rfl) (hP.at 1 rfl) cl_Rdr in_Rdr 0 (by decide) (zG_n X.2.2.2.2.2.1 ns_2) rfl rfl ?_
      refine z_callV X zG_ok (c_Sgn_size (hP.sub [2, 3] (by decide) rfl)) d_Cls_count_47 ⟨(z_cb (n := 0) X.2.2.2.2.1 ml_Cls_177 mc_Sgn_size ini_Sgn (by decide +kernel) rfl rfl ⟨Nat.le_of_ble_eq_true rfl, Nat.le_of_ble_eq_true rfl⟩), X.2.2.2.2.1 _ im_Sgn_size, X.2.2.2.2.1 _ sel_Sgn_size⟩ (hP.lo 2 rfl) (hP.at 2 rfl) cl_Sgn rfl rfl (Nat.le_of_ble_eq_true rfl) ⟨Nat.le_of_ble_eq_true rfl, Nat.le_of_ble_eq_true rfl⟩ (fun r N1 f1 hp hN1 => ?_)
      obtain ⟨rfl, rfl, rfl⟩ := hp
      exact z_iret X d_Cls_count_50 ⟨rfl, rfl, rfl⟩
    | 1, _, hx =>
      have g1 : _ = (1 : Int32) := hx
      have g1 : w = 1 := g1
      subst g1
      refine zW.topc (pc' := 51) rfl ?_
      refine z_aload_n X d_Cls_count_51 rfl ?_
      refine z_get X d_Cls_count_52 (hP.lo 0 rfl) (hP.at 0 rfl) cl_Cls in_Cls 4 (by decide) fl_Cls_38 rfl rfl ?_
      exact z_iret X d_Cls_count_55 ⟨rfl, rfl, rfl⟩
    | 2, _, hx =>
      have g1 : _ = (2 : Int32) := hx
      have g1 : w = 2 := g1
      subst g1
      refine zW.topc (pc' := 56) rfl ?_
      refine z_aload_n X d_Cls_count_56 rfl ?_
      refine z_get X d_Cls_count_57 (hP.lo 0 rfl) (hP.at 0 rfl) cl_Cls in_Cls 5 (by decide) fl_Cls_42 rfl rfl ?_
      exact z_iret X d_Cls_count_60 ⟨rfl, rfl, rfl⟩
    | 3, _, hx =>
      have g1 : _ = (3 : Int32) := hx
      have g1 : w = 3 := g1
      subst g1
      refine zW.topc (pc' := 61) rfl ?_
      refine z_aload_n X d_Cls_count_61 rfl ?_
      refine z_iconst X d_Cls_count_62 (v := 1) (by decide) ?_
      refine z_callV X zG_ok (c_Cls_countBad hC hrc (hd := true)) d_Cls_count_63 ⟨(z_cb (n := 1) X.2.2.2.2.1 ml_Cls_183 mc_Cls_countBad ini_Cls (by decide +kernel) rfl rfl ⟨Nat.le_of_ble_eq_true rfl, Nat.le_of_ble_eq_true rfl⟩), X.2.2.2.2.1 _ im_Cls_countBad, X.2.2.2.2.1 _ sel_Cls_countBad⟩ (hP.lo 0 rfl) (hP.at 0 rfl) cl_Cls rfl rfl (Nat.le_of_ble_eq_true rfl) ⟨Nat.le_of_ble_eq_true rfl, Nat.le_of_ble_eq_true rfl⟩ (fun r N1 f1 hp hN1 => ?_)
      obtain ⟨rfl, rfl, rfl⟩ := hp
      exact z_iret X d_Cls_count_66 ⟨rfl, rfl, rfl⟩
    | 4, _, hx =>
      have g1 : _ = (4 : Int32) := hx
      have g1 : w = 4 := g1
      subst g1
      refine zW.topc (pc' := 67) rfl ?_
      refine z_aload_n X d_Cls_count_67 rfl ?_
      refine z_iconst X d_Cls_count_68 (v := 0) (by decide) ?_
      refine z_callV X zG_ok (c_Cls_countBad hC hrc (hd := false)) d_Cls_count_69 ⟨(z_cb (n := 1) X.2.2.2.2.1 ml_Cls_183 mc_Cls_countBad ini_Cls (by decide +kernel) rfl rfl ⟨Nat.le_of_ble_eq_true rfl, Nat.le_of_ble_eq_true rfl⟩), X.2.2.2.2.1 _ im_Cls_countBad, X.2.2.2.2.1 _ sel_Cls_countBad⟩ (hP.lo 0 rfl) (hP.at 0 rfl) cl_Cls rfl rfl (Nat.le_of_ble_eq_true rfl) ⟨Nat.le_of_ble_eq_true rfl, Nat.le_of_ble_eq_true rfl⟩ (fun r N1 f1 hp hN1 => ?_)
      obtain ⟨rfl, rfl, rfl⟩ := hp
      exact z_iret X d_Cls_count_72 ⟨rfl, rfl, rfl⟩
    | 5, _, hx =>
      have g1 : _ = (5 : Int32) := hx
      have g1 : w = 5 := g1
      subst g1
      refine zW.topc (pc' := 73) rfl ?_
      refine z_aload_n X d_Cls_count_73 rfl ?_
      refine z_get X d_Cls_count_74 (hP.lo 0 rfl) (hP.at 0 rfl) cl_Cls in_Cls 1 (by decide) fl_Cls_21 rfl rfl ?_
      refine z_getN X d_Cls_count_77 (hP.lo 11 rfl) (hP.at 11 rfl) cl_Wrk in_Wrk 0 (by decide) (zG_n X.2.2.2.2.2.1 ns_4) rfl rfl ?_
      refine z_callV X zG_ok (c_Decl_lineBits (hP.sub [13, 14] (by decide) rfl)) d_Cls_count_80 ⟨(z_cb (n := 0) X.2.2.2.2.1 ml_Cls_187 mc_Decl_lineBits ini_Decl (by decide +kernel) rfl rfl ⟨Nat.le_of_ble_eq_true rfl, Nat.le_of_ble_eq_true rfl⟩), X.2.2.2.2.1 _ im_Decl_lineBits, X.2.2.2.2.1 _ sel_Decl_lineBits⟩ (hP.lo 13 rfl) (hP.at 13 rfl) cl_Decl rfl rfl (Nat.le_of_ble_eq_true rfl) ⟨Nat.le_of_ble_eq_true rfl, Nat.le_of_ble_eq_true rfl⟩ (fun r N1 f1 hp hN1 => ?_)
      obtain ⟨rfl, rfl, rfl⟩ := hp
      exact z_iret X d_Cls_count_83 ⟨rfl, rfl, rfl⟩
    | j + 6, hi, _ => exact absurd hi (by simp)
  · skip
    have g1_0 : ¬ _ = (0 : Int32) := hd 0 (by decide)
    have g1_1 : ¬ _ = (1 : Int32) := hd 1 (by decide)
    have g1_2 : ¬ _ = (2 : Int32) := hd 2 (by decide)
    have g1_3 : ¬ _ = (3 : Int32) := hd 3 (by decide)
    have g1_4 : ¬ _ = (4 : Int32) := hd 4 (by decide)
    have g1_5 : ¬ _ = (5 : Int32) := hd 5 (by decide)
    have e9 : cntv len rc cc ρ v w = (if w < 100 then -1 else if w - 100 < 0 then -1 else if nI rc ≤ w - 100 then -1 else nI (ρ (w - 100).toNatClampNeg).1.2.2.2) := by rw [cntv, if_neg g1_0, if_neg g1_1, if_neg g1_2, if_neg g1_3, if_neg g1_4, if_neg g1_5]
    refine z_aload_n X d_Cls_count_84 rfl ?_
    refine z_iload_n X d_Cls_count_85 rfl ?_
    refine z_callV X zG_ok (c_Cls_countNodes hC hrc) d_Cls_count_86 ⟨(z_cb (n := 1) X.2.2.2.2.1 ml_Cls_190 mc_Cls_countNodes ini_Cls (by decide +kernel) rfl rfl ⟨Nat.le_of_ble_eq_true rfl, Nat.le_of_ble_eq_true rfl⟩), X.2.2.2.2.1 _ im_Cls_countNodes, X.2.2.2.2.1 _ sel_Cls_countNodes⟩ (hP.lo 0 rfl) (hP.at 0 rfl) cl_Cls rfl rfl (Nat.le_of_ble_eq_true rfl) ⟨Nat.le_of_ble_eq_true rfl, Nat.le_of_ble_eq_true rfl⟩ (fun r N1 f1 hp hN1 => ?_)
    obtain ⟨rfl, rfl, rfl⟩ := hp
    exact z_iret X d_Cls_count_89 ⟨by rw [e9], rfl, rfl⟩
end
