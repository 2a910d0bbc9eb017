/-- Worker's functions of answers and values -/
def wBoth (a b : Int32) : Int32 := if a = 0 then 0 else if b = 0 then 0 else if a = 2 then 2 else if b = 2 then 2 else 1
def wTurn (a : Int32) : Int32 := if a = 2 then 2 else if a = 1 then 0 else 1
def wEith (a b : Int32) : Int32 := wTurn (wBoth (wTurn a) (wTurn b))
def wHold (k a b : Int32) : Bool := if k = 5 then decide (a < b) else if k = 6 then decide (b < a) else if k = 7 then decide (a = b) else if k = 8 then !decide (a = b) else false
def wKnow (a b : Int32) : Bool := !decide (a = -2147483648) && !decide (b = -2147483648)
def wCalc (k a b : Int32) : Int32 := if k = 9 then (if wKnow a b = true then a + b else -2147483648) else if k = 10 then (if wKnow a b = true then a - b else -2147483648) else if wKnow a b = true then zb (wHold k a b) else 2
def wJoin (k a b : Int32) : Int32 := if k = 0 then wEith a b else if k = 1 then wBoth a b else if k = 2 then wTurn a else wCalc k a b
theorem wKnow_t {a b : Int32} (h1 : ¬ a = -2147483648) (h2 : ¬ b = -2147483648) : wKnow a b = true := by simp [wKnow, h1, h2]
theorem wKnow_1 {a b : Int32} (h1 : a = -2147483648) : ¬ wKnow a b = true := by simp [wKnow, h1]
theorem wKnow_2 {a b : Int32} (h1 : b = -2147483648) : ¬ wKnow a b = true := by simp [wKnow, h1]
/-- the results' rows: the row a is set, line by line, to h -/
def wsetk (G : Nat → Int32) (a : Nat) (h : Nat → Int32) (k : Nat) : Nat → Int32 := fun j => if a * 10 ≤ j ∧ j < a * 10 + k then h (j - a * 10) else G j
theorem wsetk_0 (G : Nat → Int32) (a : Nat) (h : Nat → Int32) : wsetk G a h 0 = G := by
  funext j
  simp only [wsetk]
  rw [if_neg (by omega)]
theorem wsetk_s (G : Nat → Int32) (a : Nat) (h : Nat → Int32) (k : Nat) : upd (wsetk G a h k) (a * 10 + k) (h k) = wsetk G a h (k + 1) := by
  funext j
  by_cases e : j = a * 10 + k
  · subst e
    simp only [upd, if_true, wsetk]
    rw [if_pos (by omega), show a * 10 + k - a * 10 = k by omega]
  · simp only [upd, if_neg e, wsetk]
    by_cases q : a * 10 ≤ j ∧ j < a * 10 + k
    · rw [if_pos q, if_pos (by omega)]
    · rw [if_neg q, if_neg (by omega)]
/-- Worker.resultOf: of the row c, or of none -/
def wres (G : Nat → Int32) (c : Option Nat) (b : Nat) : Int32 := match c with
  | none => -2147483648
  | some c => G (c * 10 + b)
def wix (c : Option Nat) : Int32 := match c with
  | none => -1
  | some c => nI c
theorem wres_set {G : Nat → Int32} {a : Nat} {h : Nat → Int32} {k : Nat} {c : Option Nat} {b : Nat} (hc : c ≠ some a) (hk : k ≤ 10) (hb : b < 10) : wres (wsetk G a h k) c b = wres G c b := by
  cases c with
  | none => rfl
  | some c =>
    have : c ≠ a := fun e => hc (by rw [e])
    simp only [wres, wsetk]
    rw [if_neg (by omega)]
/-- Worker.overLines, after the lines 1 .. k -/
def wover (kd LB : Int32) (G : Nat → Int32) (c : Option Nat) : Nat → Int32
  | 0 => if kd = 3 then 1 else 0
  | k + 1 => if (LB >>> (nI (k + 1) &&& 31)) &&& 1 = 1 then (if kd = 3 then wBoth (wover kd LB G c k) (wres G c (k + 1)) else wEith (wover kd LB G c k) (wres G c (k + 1))) else wover kd LB G c k
/-- what Worker.workOutNode makes of a node's row -/
def wrow (kd val : Int32) (v : Nat → Int32) (LB : Int32) (G : Nat → Int32) (cl cr : Option Nat) : Nat → Int32 := fun b =>
  if kd = 11 then val else if kd = 13 then dsum v val 9 else if kd = 14 then dcnt v val 9 else if kd = 3 ∨ kd = 4 then wover kd LB G cl 9 else if kd = 12 then dval v val (nI b) else wJoin kd (wres G cl b) (wres G cr b)
abbrev oWrk (dc rs : Nat) (lb : Int32) : va_E := .inr (6, [.ref dc, .ref rs, .int lb])
section
variable {l : Launch} {D : va_G} {ck : Nat → ClassId} {ad : (Nat → Nat) × (Nat → Nat)} {b0 N : Nat} {f : Nat → va_E}
theorem d_Wrk_both_0 : decode prog_8_method_8_code 0 = .ok (.iload_n 0, 1) := by decide +kernel
theorem d_Wrk_both_1 : decode prog_8_method_8_code 1 = .ok (.ifCond .eq 7, 3) := by decide +kernel
theorem d_Wrk_both_4 : decode prog_8_method_8_code 4 = .ok (.iload_n 1, 1) := by decide +kernel
theorem d_Wrk_both_5 : decode prog_8_method_8_code 5 = .ok (.ifCond .ne 5, 3) := by decide +kernel
theorem d_Wrk_both_8 : decode prog_8_method_8_code 8 = .ok (.iconst 0, 1) := by decide +kernel
theorem d_Wrk_both_9 : decode prog_8_method_8_code 9 = .ok (.ireturn, 1) := by decide +kernel
theorem d_Wrk_both_10 : decode prog_8_method_8_code 10 = .ok (.iload_n 0, 1) := by decide +kernel
theorem d_Wrk_both_11 : decode prog_8_method_8_code 11 = .ok (.iconst 2, 1) := by decide +kernel
theorem d_Wrk_both_12 : decode prog_8_method_8_code 12 = .ok (.if_icmp .eq 8, 3) := by decide +kernel
theorem d_Wrk_both_15 : decode prog_8_method_8_code 15 = .ok (.iload_n 1, 1) := by decide +kernel
theorem d_Wrk_both_16 : decode prog_8_method_8_code 16 = .ok (.iconst 2, 1) := by decide +kernel
theorem d_Wrk_both_17 : decode prog_8_method_8_code 17 = .ok (.if_icmp .ne 7, 3) := by decide +kernel
theorem d_Wrk_both_20 : decode prog_8_method_8_code 20 = .ok (.iconst 2, 1) := by decide +kernel
theorem d_Wrk_both_21 : decode prog_8_method_8_code 21 = .ok (.goto 4, 3) := by decide +kernel
theorem d_Wrk_both_24 : decode prog_8_method_8_code 24 = .ok (.iconst 1, 1) := by decide +kernel
theorem d_Wrk_both_25 : decode prog_8_method_8_code 25 = .ok (.ireturn, 1) := by decide +kernel
set_option maxHeartbeats 4000000 in
set_option maxRecDepth 100000 in
theorem c_Wrk_both {a b : Int32} : zK l D ck ad b0 y_Wrk_both prog_8_method_8_code 2 ((some FieldType.int)) 0 0 0 [.int a, .int b] N f (fun r N' f' => r = some (.int (wBoth a b)) ∧ N = N' ∧ f = f') := by
  refine zM.of zG_w (by decide) (Nat.le_of_ble_eq_true rfl) ?_
  intro zp ze zst zm zar zbe zme zc X hnm hb0
  refine z_iload_n X d_Wrk_both_0 rfl ?_
  refine z_if_eq X 8 d_Wrk_both_1 (by decide) (fun h1 => ?_) (fun h1 => ?_)
  · skip
    refine z_iconst X d_Wrk_both_8 (v := 0) (by decide) ?_
    exact z_iret X d_Wrk_both_9 ⟨by first | rw [wBoth, if_pos h1] | rw [wBoth, if_neg h1, if_pos h5], rfl, rfl⟩
  · skip
    refine z_iload_n X d_Wrk_both_4 rfl ?_
    refine z_if_ne X 10 d_Wrk_both_5 (by decide) (fun h5 => ?_) (fun h5 => ?_)
    · skip
      refine z_iload_n X d_Wrk_both_10 rfl ?_
      refine z_iconst X d_Wrk_both_11 (v := 2) (by decide) ?_
      refine z_icmp_eq X 20 d_Wrk_both_12 (by decide) (fun h12 => ?_) (fun h12 => ?_)
      · skip
        refine z_iconst X d_Wrk_both_20 (v := 2) (by decide) ?_
        refine z_goto X 25 d_Wrk_both_21 (by decide) ?_
        exact z_iret X d_Wrk_both_25 ⟨by first | rw [wBoth, if_neg h1, if_neg h5, if_pos h12] | rw [wBoth, if_neg h1, if_neg h5, if_neg h12, if_pos h17] | rw [wBoth, if_neg h1, if_neg h5, if_neg h12, if_neg h17], rfl, rfl⟩
      · skip
        refine z_iload_n X d_Wrk_both_15 rfl ?_
        refine z_iconst X d_Wrk_both_16 (v := 2) (by decide) ?_
        refine z_icmp_ne X 24 d_Wrk_both_17 (by decide) (fun h17 => ?_) (fun h17 => ?_)
        · skip
          refine z_iconst X d_Wrk_both_24 (v := 1) (by decide) ?_
          exact z_iret X d_Wrk_both_25 ⟨by first | rw [wBoth, if_neg h1, if_neg h5, if_pos h12] | rw [wBoth, if_neg h1, if_neg h5, if_neg h12, if_pos h17] | rw [wBoth, if_neg h1, if_neg h5, if_neg h12, if_neg h17], rfl, rfl⟩
        · skip
          refine z_iconst X d_Wrk_both_20 (v := 2) (by decide) ?_
          refine z_goto X 25 d_Wrk_both_21 (by decide) ?_
          exact z_iret X d_Wrk_both_25 ⟨by first | rw [wBoth, if_neg h1, if_neg h5, if_pos h12] | rw [wBoth, if_neg h1, if_neg h5, if_neg h12, if_pos h17] | rw [wBoth, if_neg h1, if_neg h5, if_neg h12, if_neg h17], rfl, rfl⟩
    · skip
      refine z_iconst X d_Wrk_both_8 (v := 0) (by decide) ?_
      exact z_iret X d_Wrk_both_9 ⟨by first | rw [wBoth, if_pos h1] | rw [wBoth, if_neg h1, if_pos h5], rfl, rfl⟩
theorem d_Wrk_turned_0 : decode prog_8_method_10_code 0 = .ok (.iload_n 0, 1) := by decide +kernel
theorem d_Wrk_turned_1 : decode prog_8_method_10_code 1 = .ok (.iconst 2, 1) := by decide +kernel
theorem d_Wrk_turned_2 : decode prog_8_method_10_code 2 = .ok (.if_icmp .ne 5, 3) := by decide +kernel
theorem d_Wrk_turned_5 : decode prog_8_method_10_code 5 = .ok (.iconst 2, 1) := by decide +kernel
theorem d_Wrk_turned_6 : decode prog_8_method_10_code 6 = .ok (.ireturn, 1) := by decide +kernel
theorem d_Wrk_turned_7 : decode prog_8_method_10_code 7 = .ok (.iload_n 0, 1) := by decide +kernel
theorem d_Wrk_turned_8 : decode prog_8_method_10_code 8 = .ok (.iconst 1, 1) := by decide +kernel
theorem d_Wrk_turned_9 : decode prog_8_method_10_code 9 = .ok (.if_icmp .ne 7, 3) := by decide +kernel
theorem d_Wrk_turned_12 : decode prog_8_method_10_code 12 = .ok (.iconst 0, 1) := by decide +kernel
theorem d_Wrk_turned_13 : decode prog_8_method_10_code 13 = .ok (.goto 4, 3) := by decide +kernel
theorem d_Wrk_turned_16 : decode prog_8_method_10_code 16 = .ok (.iconst 1, 1) := by decide +kernel
theorem d_Wrk_turned_17 : decode prog_8_method_10_code 17 = .ok (.ireturn, 1) := by decide +kernel
set_option maxHeartbeats 4000000 in
set_option maxRecDepth 100000 in
theorem c_Wrk_turned {a : Int32} : zK l D ck ad b0 y_Wrk_turned prog_8_method_10_code 1 ((some FieldType.int)) 0 0 0 [.int a] N f (fun r N' f' => r = some (.int (wTurn a)) ∧ N = N' ∧ f = f') := by
  refine zM.of zG_w (by decide) (Nat.le_of_ble_eq_true rfl) ?_
  intro zp ze zst zm zar zbe zme zc X hnm hb0
  refine z_iload_n X d_Wrk_turned_0 rfl ?_
  refine z_iconst X d_Wrk_turned_1 (v := 2) (by decide) ?_
  refine z_icmp_ne X 7 d_Wrk_turned_2 (by decide) (fun h2 => ?_) (fun h2 => ?_)
  · skip
    refine z_iload_n X d_Wrk_turned_7 rfl ?_
    refine z_iconst X d_Wrk_turned_8 (v := 1) (by decide) ?_
    refine z_icmp_ne X 16 d_Wrk_turned_9 (by decide) (fun h9 => ?_) (fun h9 => ?_)
    · skip
      refine z_iconst X d_Wrk_turned_16 (v := 1) (by decide) ?_
      exact z_iret X d_Wrk_turned_17 ⟨by first | rw [wTurn, if_neg h2, if_pos h9] | rw [wTurn, if_neg h2, if_neg h9], rfl, rfl⟩
    · skip
      refine z_iconst X d_Wrk_turned_12 (v := 0) (by decide) ?_
      refine z_goto X 17 d_Wrk_turned_13 (by decide) ?_
      exact z_iret X d_Wrk_turned_17 ⟨by first | rw [wTurn, if_neg h2, if_pos h9] | rw [wTurn, if_neg h2, if_neg h9], rfl, rfl⟩
  · skip
    refine z_iconst X d_Wrk_turned_5 (v := 2) (by decide) ?_
    exact z_iret X d_Wrk_turned_6 ⟨by rw [wTurn, if_pos h2], rfl, rfl⟩
theorem d_Wrk_either_0 : decode prog_8_method_9_code 0 = .ok (.iload_n 0, 1) := by decide +kernel
theorem d_Wrk_either_1 : decode prog_8_method_9_code 1 = .ok (.invokestatic 90, 3) := by decide +kernel
theorem d_Wrk_either_4 : decode prog_8_method_9_code 4 = .ok (.iload_n 1, 1) := by decide +kernel
theorem d_Wrk_either_5 : decode prog_8_method_9_code 5 = .ok (.invokestatic 90, 3) := by decide +kernel
theorem d_Wrk_either_8 : decode prog_8_method_9_code 8 = .ok (.invokestatic 84, 3) := by decide +kernel
theorem d_Wrk_either_11 : decode prog_8_method_9_code 11 = .ok (.invokestatic 90, 3) := by decide +kernel
theorem d_Wrk_either_14 : decode prog_8_method_9_code 14 = .ok (.ireturn, 1) := by decide +kernel
set_option maxHeartbeats 4000000 in
set_option maxRecDepth 100000 in
theorem c_Wrk_either {a b : Int32} : zK l D ck ad b0 y_Wrk_either prog_8_method_9_code 2 ((some FieldType.int)) 1 0 0 [.int a, .int b] N f (fun r N' f' => r = some (.int (wEith a b)) ∧ N = N' ∧ f = f') := by
  refine zM.of zG_w (by decide) (Nat.le_of_ble_eq_true rfl) ?_
  intro zp ze zst zm zar zbe zme zc X hnm hb0
  refine z_iload_n X d_Wrk_either_0 rfl ?_
  refine z_callS X zG_ok (c_Wrk_turned (f := f)) d_Wrk_either_1 ⟨(z_cb (n := 1) X.2.2.2.2.1 ml_Wrk_90 mc_Wrk_turned ini_Wrk (by decide +kernel) rfl rfl ⟨Nat.le_of_ble_eq_true rfl, Nat.le_of_ble_eq_true rfl⟩), X.2.2.2.2.1 _ st_Wrk_turned⟩ rfl rfl (Nat.le_of_ble_eq_true rfl) ⟨Nat.le_of_ble_eq_true rfl, Nat.le_of_ble_eq_true rfl⟩ (fun r N1 f1 hp hN1 => ?_)
  obtain ⟨rfl, rfl, rfl⟩ := hp
  refine z_iload_n X d_Wrk_either_4 rfl ?_
  refine z_callS X zG_ok (c_Wrk_turned (f := f)) d_Wrk_either_5 ⟨(z_cb (n := 1) X.2.2.2.2.1 ml_Wrk_90 mc_Wrk_turned ini_Wrk (by decide +kernel) rfl rfl ⟨Nat.le_of_ble_eq_true rfl, Nat.le_of_ble_eq_true rfl⟩), X.2.2.2.2.1 _ st_Wrk_turned⟩ rfl rfl (Nat.le_of_ble_eq_true rfl) ⟨Nat.le_of_ble_eq_true rfl, Nat.le_of_ble_eq_true rfl⟩ (fun r N1 f1 hp hN1 => ?_)
  obtain ⟨rfl, rfl, rfl⟩ := hp
  refine z_callS X zG_ok (c_Wrk_both (f := f)) d_Wrk_either_8 ⟨(z_cb (n := 2) X.2.2.2.2.1 ml_Wrk_84 mc_Wrk_both ini_Wrk (by decide +kernel) rfl rfl ⟨Nat.le_of_ble_eq_true rfl, Nat.le_of_ble_eq_true rfl⟩), X.2.2.2.2.1 _ st_Wrk_both⟩ rfl rfl (Nat.le_of_ble_eq_true rfl) ⟨Nat.le_of_ble_eq_true rfl, Nat.le_of_ble_eq_true rfl⟩ (fun r N1 f1 hp hN1 => ?_)
  obtain ⟨rfl, rfl, rfl⟩ := hp
  refine z_callS X zG_ok (c_Wrk_turned (f := f)) d_Wrk_either_11 ⟨(z_cb (n := 1) X.2.2.2.2.1 ml_Wrk_90 mc_Wrk_turned ini_Wrk (by decide +kernel) rfl rfl ⟨Nat.le_of_ble_eq_true rfl, Nat.le_of_ble_eq_true rfl⟩), X.2.2.2.2.1 _ st_Wrk_turned⟩ rfl rfl (Nat.le_of_ble_eq_true rfl) ⟨Nat.le_of_ble_eq_true rfl, Nat.le_of_ble_eq_true rfl⟩ (fun r N1 f1 hp hN1 => ?_)
  obtain ⟨rfl, rfl, rfl⟩ := hp
  exact z_iret X d_Wrk_either_14 ⟨rfl, rfl, rfl⟩
theorem d_Wrk_holds_0 : decode prog_8_method_7_code 0 = .ok (.iload_n 0, 1) := by decide +kernel
theorem d_Wrk_holds_1 : decode prog_8_method_7_code 1 = .ok (.tableswitch 75 5 8 #[31, 42, 53, 64], 31) := by decide +kernel
theorem d_Wrk_holds_32 : decode prog_8_method_7_code 32 = .ok (.iload_n 1, 1) := by decide +kernel
theorem d_Wrk_holds_33 : decode prog_8_method_7_code 33 = .ok (.iload_n 2, 1) := by decide +kernel
theorem d_Wrk_holds_34 : decode prog_8_method_7_code 34 = .ok (.if_icmp .ge 7, 3) := by decide +kernel
theorem d_Wrk_holds_37 : decode prog_8_method_7_code 37 = .ok (.iconst 1, 1) := by decide +kernel
theorem d_Wrk_holds_38 : decode prog_8_method_7_code 38 = .ok (.goto 4, 3) := by decide +kernel
theorem d_Wrk_holds_41 : decode prog_8_method_7_code 41 = .ok (.iconst 0, 1) := by decide +kernel
theorem d_Wrk_holds_42 : decode prog_8_method_7_code 42 = .ok (.ireturn, 1) := by decide +kernel
theorem d_Wrk_holds_43 : decode prog_8_method_7_code 43 = .ok (.iload_n 1, 1) := by decide +kernel
theorem d_Wrk_holds_44 : decode prog_8_method_7_code 44 = .ok (.iload_n 2, 1) := by decide +kernel
theorem d_Wrk_holds_45 : decode prog_8_method_7_code 45 = .ok (.if_icmp .le 7, 3) := by decide +kernel
theorem d_Wrk_holds_48 : decode prog_8_method_7_code 48 = .ok (.iconst 1, 1) := by decide +kernel
theorem d_Wrk_holds_49 : decode prog_8_method_7_code 49 = .ok (.goto 4, 3) := by decide +kernel
theorem d_Wrk_holds_52 : decode prog_8_method_7_code 52 = .ok (.iconst 0, 1) := by decide +kernel
theorem d_Wrk_holds_53 : decode prog_8_method_7_code 53 = .ok (.ireturn, 1) := by decide +kernel
theorem d_Wrk_holds_54 : decode prog_8_method_7_code 54 = .ok (.iload_n 1, 1) := by decide +kernel
theorem d_Wrk_holds_55 : decode prog_8_method_7_code 55 = .ok (.iload_n 2, 1) := by decide +kernel
theorem d_Wrk_holds_56 : decode prog_8_method_7_code 56 = .ok (.if_icmp .ne 7, 3) := by decide +kernel
theorem d_Wrk_holds_59 : decode prog_8_method_7_code 59 = .ok (.iconst 1, 1) := by decide +kernel
theorem d_Wrk_holds_60 : decode prog_8_method_7_code 60 = .ok (.goto 4, 3) := by decide +kernel
theorem d_Wrk_holds_63 : decode prog_8_method_7_code 63 = .ok (.iconst 0, 1) := by decide +kernel
theorem d_Wrk_holds_64 : decode prog_8_method_7_code 64 = .ok (.ireturn, 1) := by decide +kernel
theorem d_Wrk_holds_65 : decode prog_8_method_7_code 65 = .ok (.iload_n 1, 1) := by decide +kernel
theorem d_Wrk_holds_66 : decode prog_8_method_7_code 66 = .ok (.iload_n 2, 1) := by decide +kernel
theorem d_Wrk_holds_67 : decode prog_8_method_7_code 67 = .ok (.if_icmp .eq 7, 3) := by decide +kernel
theorem d_Wrk_holds_70 : decode prog_8_method_7_code 70 = .ok (.iconst 1, 1) := by decide +kernel
theorem d_Wrk_holds_71 : decode prog_8_method_7_code 71 = .ok (.goto 4, 3) := by decide +kernel
theorem d_Wrk_holds_74 : decode prog_8_method_7_code 74 = .ok (.iconst 0, 1) := by decide +kernel
theorem d_Wrk_holds_75 : decode prog_8_method_7_code 75 = .ok (.ireturn, 1) := by decide +kernel
theorem d_Wrk_holds_76 : decode prog_8_method_7_code 76 = .ok (.iconst 0, 1) := by decide +kernel
theorem d_Wrk_holds_77 : decode prog_8_method_7_code 77 = .ok (.ireturn, 1) := by decide +kernel
set_option maxHeartbeats 4000000 in
set_option maxRecDepth 100000 in
theorem c_Wrk_holds {k a b : Int32} : zK l D ck ad b0 y_Wrk_holds prog_8_method_7_code 3 ((some FieldType.boolean)) 0 0 0 [.int k, .int a, .int b] N f (fun r N' f' => r = some (.int (zb (wHold k a b))) ∧ N = N' ∧ f = f') := by
  refine zM.of zG_w (by decide) (Nat.le_of_ble_eq_true rfl) ?_
  intro zp ze zst zm zar zbe zme zc X hnm hb0
  refine z_iload_n X d_Wrk_holds_0 rfl ?_
  refine z_tableL X 76 [32, 43, 54, 65] d_Wrk_holds_1 (by decide) (by decide) (by decide) (fun i hi hx => ?_) (fun hd => ?_) (by decide)
  · match i, hi, hx with
    | 0, _, hx =>
      have g1 : _ = (5 : Int32) := hx
      refine zW.topc (pc' := 32) rfl ?_
      refine z_iload_n X d_Wrk_holds_32 rfl ?_
      refine z_iload_n X d_Wrk_holds_33 rfl ?_
      refine z_icmp_ge X 41 d_Wrk_holds_34 (by decide) (fun h34 => ?_) (fun h34 => ?_)
      · skip
        refine z_iconst X d_Wrk_holds_41 (v := 0) (by decide) ?_
        exact z_zret X d_Wrk_holds_42 rfl ⟨by first | rw [wHold, if_pos g1, decide_eq_false (Int32.not_lt.mpr h34)]; rfl | rw [wHold, if_pos g1, decide_eq_true (Int32.not_le.mp h34)]; rfl, rfl, rfl⟩
      · skip
        refine z_iconst X d_Wrk_holds_37 (v := 1) (by decide) ?_
        refine z_goto X 42 d_Wrk_holds_38 (by decide) ?_
        exact z_zret X d_Wrk_holds_42 rfl ⟨by first | rw [wHold, if_pos g1, decide_eq_false (Int32.not_lt.mpr h34)]; rfl | rw [wHold, if_pos g1, decide_eq_true (Int32.not_le.mp h34)]; rfl, rfl, rfl⟩
    | 1, _, hx =>
      have g1 : _ = (6 : Int32) := hx
      refine zW.topc (pc' := 43) rfl ?_
      refine z_iload_n X d_Wrk_holds_43 rfl ?_
      refine z_iload_n X d_Wrk_holds_44 rfl ?_
      refine z_icmp_le X 52 d_Wrk_holds_45 (by decide) (fun h45 => ?_) (fun h45 => ?_)
      · skip
        refine z_iconst X d_Wrk_holds_52 (v := 0) (by decide) ?_
        exact z_zret X d_Wrk_holds_53 rfl ⟨by first | rw [wHold, if_neg (by rw [g1]; decide), if_pos g1, decide_eq_false (Int32.not_lt.mpr h45)]; rfl | rw [wHold, if_neg (by rw [g1]; decide), if_pos g1, decide_eq_true (Int32.not_le.mp h45)]; rfl, rfl, rfl⟩
      · skip
        refine z_iconst X d_Wrk_holds_48 (v := 1) (by decide) ?_
        refine z_goto X 53 d_Wrk_holds_49 (by decide) ?_
        exact z_zret X d_Wrk_holds_53 rfl ⟨by first | rw [wHold, if_neg (by rw [g1]; decide), if_pos g1, decide_eq_false (Int32.not_lt.mpr h45)]; rfl | rw [wHold, if_neg (by rw [g1]; decide), if_pos g1, decide_eq_true (Int32.not_le.mp h45)]; rfl, rfl, rfl⟩
    | 2, _, hx =>
      have g1 : _ = (7 : Int32) := hx
      refine zW.topc (pc' := 54) rfl ?_
      refine z_iload_n X d_Wrk_holds_54 rfl ?_
      refine z_iload_n X d_Wrk_holds_55 rfl ?_
      refine z_icmp_ne X 63 d_Wrk_holds_56 (by decide) (fun h56 => ?_) (fun h56 => ?_)
      · skip
        refine z_iconst X d_Wrk_holds_63 (v := 0) (by decide) ?_
        exact z_zret X d_Wrk_holds_64 rfl ⟨by first | rw [wHold, if_neg (by rw [g1]; decide), if_neg (by rw [g1]; decide), if_pos g1, decide_eq_false h56]; rfl | rw [wHold, if_neg (by rw [g1]; decide), if_neg (by rw [g1]; decide), if_pos g1, decide_eq_true h56]; rfl, rfl, rfl⟩
      · skip
        refine z_iconst X d_Wrk_holds_59 (v := 1) (by decide) ?_
        refine z_goto X 64 d_Wrk_holds_60 (by decide) ?_
        exact z_zret X d_Wrk_holds_64 rfl ⟨by first | rw [wHold, if_neg (by rw [g1]; decide), if_neg (by rw [g1]; decide), if_pos g1, decide_eq_false h56]; rfl | rw [wHold, if_neg (by rw [g1]; decide), if_neg (by rw [g1]; decide), if_pos g1, decide_eq_true h56]; rfl, rfl, rfl⟩
    | 3, _, hx =>
      have g1 : _ = (8 : Int32) := hx
      refine zW.topc (pc' := 65) rfl ?_
      refine z_iload_n X d_Wrk_holds_65 rfl ?_
      refine z_iload_n X d_Wrk_holds_66 rfl ?_
      refine z_icmp_eq X 74 d_Wrk_holds_67 (by decide) (fun h67 => ?_) (fun h67 => ?_)
      · skip
        refine z_iconst X d_Wrk_holds_74 (v := 0) (by decide) ?_
        exact z_zret X d_Wrk_holds_75 rfl ⟨by first | rw [wHold, if_neg (by rw [g1]; decide), if_neg (by rw [g1]; decide), if_neg (by rw [g1]; decide), if_pos g1, decide_eq_false h67]; rfl | rw [wHold, if_neg (by rw [g1]; decide), if_neg (by rw [g1]; decide), if_neg (by rw [g1]; decide), if_pos g1, decide_eq_true h67]; rfl, rfl, rfl⟩
      · skip
        refine z_iconst X d_Wrk_holds_70 (v := 1) (by decide) ?_
        refine z_goto X 75 d_Wrk_holds_71 (by decide) ?_
        exact z_zret X d_Wrk_holds_75 rfl ⟨by first | rw [wHold, if_neg (by rw [g1]; decide), if_neg (by rw [g1]; decide), if_neg (by rw [g1]; decide), if_pos g1, decide_eq_false h67]; rfl | rw [wHold, if_neg (by rw [g1]; decide), if_neg (by rw [g1]; decide), if_neg (by rw [g1]; decide), if_pos g1, decide_eq_true h67]; rfl, rfl, rfl⟩
    | j + 4, hi, _ => exact absurd hi (by simp)
  · skip
    have g1_0 : ¬ _ = (5 : Int32) := hd 0 (by decide)
    have g1_1 : ¬ _ = (6 : Int32) := hd 1 (by decide)
    have g1_2 : ¬ _ = (7 : Int32) := hd 2 (by decide)
    have g1_3 : ¬ _ = (8 : Int32) := hd 3 (by decide)
    refine z_iconst X d_Wrk_holds_76 (v := 0) (by decide) ?_
    exact z_zret X d_Wrk_holds_77 rfl ⟨by rw [wHold, if_neg g1_0, if_neg g1_1, if_neg g1_2, if_neg g1_3]; rfl, rfl, rfl⟩
theorem d_Wrk_calculated_0 : decode prog_8_method_6_code 0 = .ok (.iload_n 1, 1) := by decide +kernel
theorem d_Wrk_calculated_1 : decode prog_8_method_6_code 1 = .ok (.ldc 96, 2) := by decide +kernel
theorem d_Wrk_calculated_3 : decode prog_8_method_6_code 3 = .ok (.if_icmp .eq 13, 3) := by decide +kernel
theorem d_Wrk_calculated_6 : decode prog_8_method_6_code 6 = .ok (.iload_n 2, 1) := by decide +kernel
theorem d_Wrk_calculated_7 : decode prog_8_method_6_code 7 = .ok (.ldc 96, 2) := by decide +kernel
theorem d_Wrk_calculated_9 : decode prog_8_method_6_code 9 = .ok (.if_icmp .eq 7, 3) := by decide +kernel
theorem d_Wrk_calculated_12 : decode prog_8_method_6_code 12 = .ok (.iconst 1, 1) := by decide +kernel
theorem d_Wrk_calculated_13 : decode prog_8_method_6_code 13 = .ok (.goto 4, 3) := by decide +kernel
theorem d_Wrk_calculated_16 : decode prog_8_method_6_code 16 = .ok (.iconst 0, 1) := by decide +kernel
theorem d_Wrk_calculated_17 : decode prog_8_method_6_code 17 = .ok (.istore_n 3, 1) := by decide +kernel
theorem d_Wrk_calculated_18 : decode prog_8_method_6_code 18 = .ok (.iload_n 0, 1) := by decide +kernel
theorem d_Wrk_calculated_19 : decode prog_8_method_6_code 19 = .ok (.bipush 9, 2) := by decide +kernel
theorem d_Wrk_calculated_21 : decode prog_8_method_6_code 21 = .ok (.if_icmp .ne 16, 3) := by decide +kernel
theorem d_Wrk_calculated_24 : decode prog_8_method_6_code 24 = .ok (.iload_n 3, 1) := by decide +kernel
theorem d_Wrk_calculated_25 : decode prog_8_method_6_code 25 = .ok (.ifCond .eq 9, 3) := by decide +kernel
theorem d_Wrk_calculated_28 : decode prog_8_method_6_code 28 = .ok (.iload_n 1, 1) := by decide +kernel
theorem d_Wrk_calculated_29 : decode prog_8_method_6_code 29 = .ok (.iload_n 2, 1) := by decide +kernel
theorem d_Wrk_calculated_30 : decode prog_8_method_6_code 30 = .ok (.iadd, 1) := by decide +kernel
theorem d_Wrk_calculated_31 : decode prog_8_method_6_code 31 = .ok (.goto 5, 3) := by decide +kernel
theorem d_Wrk_calculated_34 : decode prog_8_method_6_code 34 = .ok (.ldc 96, 2) := by decide +kernel
theorem d_Wrk_calculated_36 : decode prog_8_method_6_code 36 = .ok (.ireturn, 1) := by decide +kernel
theorem d_Wrk_calculated_37 : decode prog_8_method_6_code 37 = .ok (.iload_n 0, 1) := by decide +kernel
theorem d_Wrk_calculated_38 : decode prog_8_method_6_code 38 = .ok (.bipush 10, 2) := by decide +kernel
theorem d_Wrk_calculated_40 : decode prog_8_method_6_code 40 = .ok (.if_icmp .ne 16, 3) := by decide +kernel
theorem d_Wrk_calculated_43 : decode prog_8_method_6_code 43 = .ok (.iload_n 3, 1) := by decide +kernel
theorem d_Wrk_calculated_44 : decode prog_8_method_6_code 44 = .ok (.ifCond .eq 9, 3) := by decide +kernel
theorem d_Wrk_calculated_47 : decode prog_8_method_6_code 47 = .ok (.iload_n 1, 1) := by decide +kernel
theorem d_Wrk_calculated_48 : decode prog_8_method_6_code 48 = .ok (.iload_n 2, 1) := by decide +kernel
theorem d_Wrk_calculated_49 : decode prog_8_method_6_code 49 = .ok (.isub, 1) := by decide +kernel
theorem d_Wrk_calculated_50 : decode prog_8_method_6_code 50 = .ok (.goto 5, 3) := by decide +kernel
theorem d_Wrk_calculated_53 : decode prog_8_method_6_code 53 = .ok (.ldc 96, 2) := by decide +kernel
theorem d_Wrk_calculated_55 : decode prog_8_method_6_code 55 = .ok (.ireturn, 1) := by decide +kernel
theorem d_Wrk_calculated_56 : decode prog_8_method_6_code 56 = .ok (.iload_n 3, 1) := by decide +kernel
theorem d_Wrk_calculated_57 : decode prog_8_method_6_code 57 = .ok (.ifCond .ne 5, 3) := by decide +kernel
theorem d_Wrk_calculated_60 : decode prog_8_method_6_code 60 = .ok (.iconst 2, 1) := by decide +kernel
theorem d_Wrk_calculated_61 : decode prog_8_method_6_code 61 = .ok (.ireturn, 1) := by decide +kernel
theorem d_Wrk_calculated_62 : decode prog_8_method_6_code 62 = .ok (.iload_n 0, 1) := by decide +kernel
theorem d_Wrk_calculated_63 : decode prog_8_method_6_code 63 = .ok (.iload_n 1, 1) := by decide +kernel
theorem d_Wrk_calculated_64 : decode prog_8_method_6_code 64 = .ok (.iload_n 2, 1) := by decide +kernel
theorem d_Wrk_calculated_65 : decode prog_8_method_6_code 65 = .ok (.invokestatic 97, 3) := by decide +kernel
theorem d_Wrk_calculated_68 : decode prog_8_method_6_code 68 = .ok (.ifCond .eq 7, 3) := by decide +kernel
theorem d_Wrk_calculated_71 : decode prog_8_method_6_code 71 = .ok (.iconst 1, 1) := by decide +kernel
theorem d_Wrk_calculated_72 : decode prog_8_method_6_code 72 = .ok (.goto 4, 3) := by decide +kernel
theorem d_Wrk_calculated_75 : decode prog_8_method_6_code 75 = .ok (.iconst 0, 1) := by decide +kernel
theorem d_Wrk_calculated_76 : decode prog_8_method_6_code 76 = .ok (.ireturn, 1) := by decide +kernel
set_option maxHeartbeats 4000000 in
set_option maxRecDepth 100000 in
theorem c_Wrk_calculated {k a b : Int32} : zK l D ck ad b0 y_Wrk_calculated prog_8_method_6_code 4 ((some FieldType.int)) 1 0 0 [.int k, .int a, .int b] N f (fun r N' f' => r = some (.int (wCalc k a b)) ∧ N = N' ∧ f = f') := by
  refine zM.of zG_w (by decide) (Nat.le_of_ble_eq_true rfl) ?_
  intro zp ze zst zm zar zbe zme zc X hnm hb0
  refine z_iload_n X d_Wrk_calculated_0 rfl ?_
  refine z_ldc X d_Wrk_calculated_1 k_Wrk_96 ?_
  refine z_icmp_eq X 16 d_Wrk_calculated_3 (by decide) (fun h3 => ?_) (fun h3 => ?_)
  · skip
    refine z_iconst X d_Wrk_calculated_16 (v := 0) (by decide) ?_
    refine z_istore_n X d_Wrk_calculated_17 (by decide) rfl ?_
    refine z_iload_n X d_Wrk_calculated_18 rfl ?_
    refine z_bipush X d_Wrk_calculated_19 (v := 9) (by decide) ?_
    refine z_icmp_ne X 37 d_Wrk_calculated_21 (by decide) (fun h21 => ?_) (fun h21 => ?_)
    · skip
      refine z_iload_n X d_Wrk_calculated_37 rfl ?_
      refine z_bipush X d_Wrk_calculated_38 (v := 10) (by decide) ?_
      refine z_icmp_ne X 56 d_Wrk_calculated_40 (by decide) (fun h40 => ?_) (fun h40 => ?_)
      · skip
        refine z_iload_n X d_Wrk_calculated_56 rfl ?_
        refine z_if_ne X 62 d_Wrk_calculated_57 (by decide) (fun h57 => ?_) (fun h57 => ?_)
        · skip
          refine z_iload_n X d_Wrk_calculated_62 rfl ?_
          refine z_iload_n X d_Wrk_calculated_63 rfl ?_
          refine z_iload_n X d_Wrk_calculated_64 rfl ?_
          refine z_callS X zG_ok (c_Wrk_holds (f := f)) d_Wrk_calculated_65 ⟨(z_cb (n := 3) X.2.2.2.2.1 ml_Wrk_97 mc_Wrk_holds ini_Wrk (by decide +kernel) rfl rfl ⟨Nat.le_of_ble_eq_true rfl, Nat.le_of_ble_eq_true rfl⟩), X.2.2.2.2.1 _ st_Wrk_holds⟩ rfl rfl (Nat.le_of_ble_eq_true rfl) ⟨Nat.le_of_ble_eq_true rfl, Nat.le_of_ble_eq_true rfl⟩ (fun r N1 f1 hp hN1 => ?_)
          obtain ⟨rfl, rfl, rfl⟩ := hp
          refine z_if_eq X 75 d_Wrk_calculated_68 (by decide) (fun h68 => ?_) (fun h68 => ?_)
          · skip
            refine z_iconst X d_Wrk_calculated_75 (v := 0) (by decide) ?_
            exact z_iret X d_Wrk_calculated_76 ⟨by first | exact absurd rfl h57 | (rw [wCalc, if_neg h21, if_neg h40, if_pos (by first | exact wKnow_t h3 h9), zb_0.mp h68]; rfl) | (rw [wCalc, if_neg h21, if_neg h40, if_pos (by first | exact wKnow_t h3 h9), (show wHold k a b = true from by cases hq : wHold k a b; exact absurd (zb_0.mpr hq) h68; rfl)]; rfl), rfl, rfl⟩
          · skip
            refine z_iconst X d_Wrk_calculated_71 (v := 1) (by decide) ?_
            refine z_goto X 76 d_Wrk_calculated_72 (by decide) ?_
            exact z_iret X d_Wrk_calculated_76 ⟨by first | exact absurd rfl h57 | (rw [wCalc, if_neg h21, if_neg h40, if_pos (by first | exact wKnow_t h3 h9), zb_0.mp h68]; rfl) | (rw [wCalc, if_neg h21, if_neg h40, if_pos (by first | exact wKnow_t h3 h9), (show wHold k a b = true from by cases hq : wHold k a b; exact absurd (zb_0.mpr hq) h68; rfl)]; rfl), rfl, rfl⟩
        · skip
          refine z_iconst X d_Wrk_calculated_60 (v := 2) (by decide) ?_
          exact z_iret X d_Wrk_calculated_61 ⟨by first | (rw [wCalc, if_neg h21, if_neg h40, if_neg (by first | exact wKnow_1 h3 | exact wKnow_2 h9)]; done) | exact absurd h57 (by decide) | exact absurd rfl h57, rfl, rfl⟩
      · skip
        refine z_iload_n X d_Wrk_calculated_43 rfl ?_
        refine z_if_eq X 53 d_Wrk_calculated_44 (by decide) (fun h44 => ?_) (fun h44 => ?_)
        · skip
          refine z_ldc X d_Wrk_calculated_53 k_Wrk_96 ?_
          exact z_iret X d_Wrk_calculated_55 ⟨by first | (rw [wCalc, if_neg h21, if_pos h40, if_pos (by first | exact wKnow_t h3 h9)]; done) | (rw [wCalc, if_neg h21, if_pos h40, if_neg (by first | exact wKnow_1 h3 | exact wKnow_2 h9)]; done) | exact absurd h44 (by decide) | exact absurd rfl h44, rfl, rfl⟩
        · skip
          refine z_iload_n X d_Wrk_calculated_47 rfl ?_
          refine z_iload_n X d_Wrk_calculated_48 rfl ?_
          refine z_isub X d_Wrk_calculated_49 ?_
          refine z_goto X 55 d_Wrk_calculated_50 (by decide) ?_
          exact z_iret X d_Wrk_calculated_55 ⟨by first | (rw [wCalc, if_neg h21, if_pos h40, if_pos (by first | exact wKnow_t h3 h9)]; done) | (rw [wCalc, if_neg h21, if_pos h40, if_neg (by first | exact wKnow_1 h3 | exact wKnow_2 h9)]; done) | exact absurd h44 (by decide) | exact absurd rfl h44, rfl, rfl⟩
    · skip
      refine z_iload_n X d_Wrk_calculated_24 rfl ?_
      refine z_if_eq X 34 d_Wrk_calculated_25 (by decide) (fun h25 => ?_) (fun h25 => ?_)
      · skip
        refine z_ldc X d_Wrk_calculated_34 k_Wrk_96 ?_
        exact z_iret X d_Wrk_calculated_36 ⟨by first | (rw [wCalc, if_pos h21, if_pos (by first | exact wKnow_t h3 h9)]; done) | (rw [wCalc, if_pos h21, if_neg (by first | exact wKnow_1 h3 | exact wKnow_2 h9)]; done) | exact absurd h25 (by decide) | exact absurd rfl h25, rfl, rfl⟩
      · skip
        refine z_iload_n X d_Wrk_calculated_28 rfl ?_
        refine z_iload_n X d_Wrk_calculated_29 rfl ?_
        refine z_iadd X d_Wrk_calculated_30 ?_
        refine z_goto X 36 d_Wrk_calculated_31 (by decide) ?_
        exact z_iret X d_Wrk_calculated_36 ⟨by first | (rw [wCalc, if_pos h21, if_pos (by first | exact wKnow_t h3 h9)]; done) | (rw [wCalc, if_pos h21, if_neg (by first | exact wKnow_1 h3 | exact wKnow_2 h9)]; done) | exact absurd h25 (by decide) | exact absurd rfl h25, rfl, rfl⟩
  · skip
    refine z_iload_n X d_Wrk_calculated_6 rfl ?_
    refine z_ldc X d_Wrk_calculated_7 k_Wrk_96 ?_
    refine z_icmp_eq X 16 d_Wrk_calculated_9 (by decide) (fun h9 => ?_) (fun h9 => ?_)
    · skip
      refine z_iconst X d_Wrk_calculated_16 (v := 0) (by decide) ?_
      refine z_istore_n X d_Wrk_calculated_17 (by decide) rfl ?_
      refine z_iload_n X d_Wrk_calculated_18 rfl ?_
      refine z_bipush X d_Wrk_calculated_19 (v := 9) (by decide) ?_
      refine z_icmp_ne X 37 d_Wrk_calculated_21 (by decide) (fun h21 => ?_) (fun h21 => ?_)
      · skip
        refine z_iload_n X d_Wrk_calculated_37 rfl ?_
        refine z_bipush X d_Wrk_calculated_38 (v := 10) (by decide) ?_
        refine z_icmp_ne X 56 d_Wrk_calculated_40 (by decide) (fun h40 => ?_) (fun h40 => ?_)
        · skip
          refine z_iload_n X d_Wrk_calculated_56 rfl ?_
          refine z_if_ne X 62 d_Wrk_calculated_57 (by decide) (fun h57 => ?_) (fun h57 => ?_)
          · skip
            refine z_iload_n X d_Wrk_calculated_62 rfl ?_
            refine z_iload_n X d_Wrk_calculated_63 rfl ?_
            refine z_iload_n X d_Wrk_calculated_64 rfl ?_
            refine z_callS X zG_ok (c_Wrk_holds (f := f)) d_Wrk_calculated_65 ⟨(z_cb (n := 3) X.2.2.2.2.1 ml_Wrk_97 mc_Wrk_holds ini_Wrk (by decide +kernel) rfl rfl ⟨Nat.le_of_ble_eq_true rfl, Nat.le_of_ble_eq_true rfl⟩), X.2.2.2.2.1 _ st_Wrk_holds⟩ rfl rfl (Nat.le_of_ble_eq_true rfl) ⟨Nat.le_of_ble_eq_true rfl, Nat.le_of_ble_eq_true rfl⟩ (fun r N1 f1 hp hN1 => ?_)
            obtain ⟨rfl, rfl, rfl⟩ := hp
            refine z_if_eq X 75 d_Wrk_calculated_68 (by decide) (fun h68 => ?_) (fun h68 => ?_)
            · skip
              refine z_iconst X d_Wrk_calculated_75 (v := 0) (by decide) ?_
              exact z_iret X d_Wrk_calculated_76 ⟨by first | exact absurd rfl h57 | (rw [wCalc, if_neg h21, if_neg h40, if_pos (by first | exact wKnow_t h3 h9), zb_0.mp h68]; rfl) | (rw [wCalc, if_neg h21, if_neg h40, if_pos (by first | exact wKnow_t h3 h9), (show wHold k a b = true from by cases hq : wHold k a b; exact absurd (zb_0.mpr hq) h68; rfl)]; rfl), rfl, rfl⟩
            · skip
              refine z_iconst X d_Wrk_calculated_71 (v := 1) (by decide) ?_
              refine z_goto X 76 d_Wrk_calculated_72 (by decide) ?_
              exact z_iret X d_Wrk_calculated_76 ⟨by first | exact absurd rfl h57 | (rw [wCalc, if_neg h21, if_neg h40, if_pos (by first | exact wKnow_t h3 h9), zb_0.mp h68]; rfl) | (rw [wCalc, if_neg h21, if_neg h40, if_pos (by first | exact wKnow_t h3 h9), (show wHold k a b = true from by cases hq : wHold k a b; exact absurd (zb_0.mpr hq) h68; rfl)]; rfl), rfl, rfl⟩
          · skip
            refine z_iconst X d_Wrk_calculated_60 (v := 2) (by decide) ?_
            exact z_iret X d_Wrk_calculated_61 ⟨by first | (rw [wCalc, if_neg h21, if_neg h40, if_neg (by first | exact wKnow_1 h3 | exact wKnow_2 h9)]; done) | exact absurd h57 (by decide) | exact absurd rfl h57, rfl, rfl⟩
        · skip
          refine z_iload_n X d_Wrk_calculated_43 rfl ?_
          refine z_if_eq X 53 d_Wrk_calculated_44 (by decide) (fun h44 => ?_) (fun h44 => ?_)
          · skip
            refine z_ldc X d_Wrk_calculated_53 k_Wrk_96 ?_
            exact z_iret X d_Wrk_calculated_55 ⟨by first | (rw [wCalc, if_neg h21, if_pos h40, if_pos (by first | exact wKnow_t h3 h9)]; done) | (rw [wCalc, if_neg h21, if_pos h40, if_neg (by first | exact wKnow_1 h3 | exact wKnow_2 h9)]; done) | exact absurd h44 (by decide) | exact absurd rfl h44, rfl, rfl⟩
          · skip
            refine z_iload_n X d_Wrk_calculated_47 rfl ?_
            refine z_iload_n X d_Wrk_calculated_48 rfl ?_
            refine z_isub X d_Wrk_calculated_49 ?_
            refine z_goto X 55 d_Wrk_calculated_50 (by decide) ?_
            exact z_iret X d_Wrk_calculated_55 ⟨by first | (rw [wCalc, if_neg h21, if_pos h40, if_pos (by first | exact wKnow_t h3 h9)]; done) | (rw [wCalc, if_neg h21, if_pos h40, if_neg (by first | exact wKnow_1 h3 | exact wKnow_2 h9)]; done) | exact absurd h44 (by decide) | exact absurd rfl h44, rfl, rfl⟩
      · skip
        refine z_iload_n X d_Wrk_calculated_24 rfl ?_
        refine z_if_eq X 34 d_Wrk_calculated_25 (by decide) (fun h25 => ?_) (fun h25 => ?_)
        · skip
          refine z_ldc X d_Wrk_calculated_34 k_Wrk_96 ?_
          exact z_iret X d_Wrk_calculated_36 ⟨by first | (rw [wCalc, if_pos h21, if_pos (by first | exact wKnow_t h3 h9)]; done) | (rw [wCalc, if_pos h21, if_neg (by first | exact wKnow_1 h3 | exact wKnow_2 h9)]; done) | exact absurd h25 (by decide) | exact absurd rfl h25, rfl, rfl⟩
        · skip
          refine z_iload_n X d_Wrk_calculated_28 rfl ?_
          refine z_iload_n X d_Wrk_calculated_29 rfl ?_
          refine z_iadd X d_Wrk_calculated_30 ?_
          refine z_goto X 36 d_Wrk_calculated_31 (by decide) ?_
          exact z_iret X d_Wrk_calculated_36 ⟨by first | (rw [wCalc, if_pos h21, if_pos (by first | exact wKnow_t h3 h9)]; done) | (rw [wCalc, if_pos h21, if_neg (by first | exact wKnow_1 h3 | exact wKnow_2 h9)]; done) | exact absurd h25 (by decide) | exact absurd rfl h25, rfl, rfl⟩
    · skip
      refine z_iconst X d_Wrk_calculated_12 (v := 1) (by decide) ?_
      refine z_goto X 17 d_Wrk_calculated_13 (by decide) ?_
      refine z_istore_n X d_Wrk_calculated_17 (by decide) rfl ?_
      refine z_iload_n X d_Wrk_calculated_18 rfl ?_
      refine z_bipush X d_Wrk_calculated_19 (v := 9) (by decide) ?_
      refine z_icmp_ne X 37 d_Wrk_calculated_21 (by decide) (fun h21 => ?_) (fun h21 => ?_)
      · skip
        refine z_iload_n X d_Wrk_calculated_37 rfl ?_
        refine z_bipush X d_Wrk_calculated_38 (v := 10) (by decide) ?_
        refine z_icmp_ne X 56 d_Wrk_calculated_40 (by decide) (fun h40 => ?_) (fun h40 => ?_)
        · skip
          refine z_iload_n X d_Wrk_calculated_56 rfl ?_
          refine z_if_ne X 62 d_Wrk_calculated_57 (by decide) (fun h57 => ?_) (fun h57 => ?_)
          · skip
            refine z_iload_n X d_Wrk_calculated_62 rfl ?_
            refine z_iload_n X d_Wrk_calculated_63 rfl ?_
            refine z_iload_n X d_Wrk_calculated_64 rfl ?_
            refine z_callS X zG_ok (c_Wrk_holds (f := f)) d_Wrk_calculated_65 ⟨(z_cb (n := 3) X.2.2.2.2.1 ml_Wrk_97 mc_Wrk_holds ini_Wrk (by decide +kernel) rfl rfl ⟨Nat.le_of_ble_eq_true rfl, Nat.le_of_ble_eq_true rfl⟩), X.2.2.2.2.1 _ st_Wrk_holds⟩ rfl rfl (Nat.le_of_ble_eq_true rfl) ⟨Nat.le_of_ble_eq_true rfl, Nat.le_of_ble_eq_true rfl⟩ (fun r N1 f1 hp hN1 => ?_)
            obtain ⟨rfl, rfl, rfl⟩ := hp
            refine z_if_eq X 75 d_Wrk_calculated_68 (by decide) (fun h68 => ?_) (fun h68 => ?_)
            · skip
              refine z_iconst X d_Wrk_calculated_75 (v := 0) (by decide) ?_
              exact z_iret X d_Wrk_calculated_76 ⟨by first | exact absurd rfl h57 | (rw [wCalc, if_neg h21, if_neg h40, if_pos (by first | exact wKnow_t h3 h9), zb_0.mp h68]; rfl) | (rw [wCalc, if_neg h21, if_neg h40, if_pos (by first | exact wKnow_t h3 h9), (show wHold k a b = true from by cases hq : wHold k a b; exact absurd (zb_0.mpr hq) h68; rfl)]; rfl), rfl, rfl⟩
            · skip
              refine z_iconst X d_Wrk_calculated_71 (v := 1) (by decide) ?_
              refine z_goto X 76 d_Wrk_calculated_72 (by decide) ?_
              exact z_iret X d_Wrk_calculated_76 ⟨by first | exact absurd rfl h57 | (rw [wCalc, if_neg h21, if_neg h40, if_pos (by first | exact wKnow_t h3 h9), zb_0.mp h68]; rfl) | (rw [wCalc, if_neg h21, if_neg h40, if_pos (by first | exact wKnow_t h3 h9), (show wHold k a b = true from by cases hq : wHold k a b; exact absurd (zb_0.mpr hq) h68; rfl)]; rfl), rfl, rfl⟩
          · skip
            refine z_iconst X d_Wrk_calculated_60 (v := 2) (by decide) ?_
            exact z_iret X d_Wrk_calculated_61 ⟨by first | (rw [wCalc, if_neg h21, if_neg h40, if_neg (by first | exact wKnow_1 h3 | exact wKnow_2 h9)]; done) | exact absurd h57 (by decide) | exact absurd rfl h57, rfl, rfl⟩
        · skip
          refine z_iload_n X d_Wrk_calculated_43 rfl ?_
          refine z_if_eq X 53 d_Wrk_calculated_44 (by decide) (fun h44 => ?_) (fun h44 => ?_)
          · skip
            refine z_ldc X d_Wrk_calculated_53 k_Wrk_96 ?_
            exact z_iret X d_Wrk_calculated_55 ⟨by first | (rw [wCalc, if_neg h21, if_pos h40, if_pos (by first | exact wKnow_t h3 h9)]; done) | (rw [wCalc, if_neg h21, if_pos h40, if_neg (by first | exact wKnow_1 h3 | exact wKnow_2 h9)]; done) | exact absurd h44 (by decide) | exact absurd rfl h44, rfl, rfl⟩
          · skip
            refine z_iload_n X d_Wrk_calculated_47 rfl ?_
            refine z_iload_n X d_Wrk_calculated_48 rfl ?_
            refine z_isub X d_Wrk_calculated_49 ?_
            refine z_goto X 55 d_Wrk_calculated_50 (by decide) ?_
            exact z_iret X d_Wrk_calculated_55 ⟨by first | (rw [wCalc, if_neg h21, if_pos h40, if_pos (by first | exact wKnow_t h3 h9)]; done) | (rw [wCalc, if_neg h21, if_pos h40, if_neg (by first | exact wKnow_1 h3 | exact wKnow_2 h9)]; done) | exact absurd h44 (by decide) | exact absurd rfl h44, rfl, rfl⟩
      · skip
        refine z_iload_n X d_Wrk_calculated_24 rfl ?_
        refine z_if_eq X 34 d_Wrk_calculated_25 (by decide) (fun h25 => ?_) (fun h25 => ?_)
        · skip
          refine z_ldc X d_Wrk_calculated_34 k_Wrk_96 ?_
          exact z_iret X d_Wrk_calculated_36 ⟨by first | (rw [wCalc, if_pos h21, if_pos (by first | exact wKnow_t h3 h9)]; done) | (rw [wCalc, if_pos h21, if_neg (by first | exact wKnow_1 h3 | exact wKnow_2 h9)]; done) | exact absurd h25 (by decide) | exact absurd rfl h25, rfl, rfl⟩
        · skip
          refine z_iload_n X d_Wrk_calculated_28 rfl ?_
          refine z_iload_n X d_Wrk_calculated_29 rfl ?_
          refine z_iadd X d_Wrk_calculated_30 ?_
          refine z_goto X 36 d_Wrk_calculated_31 (by decide) ?_
          exact z_iret X d_Wrk_calculated_36 ⟨by first | (rw [wCalc, if_pos h21, if_pos (by first | exact wKnow_t h3 h9)]; done) | (rw [wCalc, if_pos h21, if_neg (by first | exact wKnow_1 h3 | exact wKnow_2 h9)]; done) | exact absurd h25 (by decide) | exact absurd rfl h25, rfl, rfl⟩
theorem d_Wrk_joined_0 : decode prog_8_method_5_code 0 = .ok (.iload_n 0, 1) := by decide +kernel
theorem d_Wrk_joined_1 : decode prog_8_method_5_code 1 = .ok (.tableswitch 44 0 2 #[27, 33, 39], 27) := by decide +kernel
theorem d_Wrk_joined_28 : decode prog_8_method_5_code 28 = .ok (.iload_n 1, 1) := by decide +kernel
theorem d_Wrk_joined_29 : decode prog_8_method_5_code 29 = .ok (.iload_n 2, 1) := by decide +kernel
theorem d_Wrk_joined_30 : decode prog_8_method_5_code 30 = .ok (.invokestatic 87, 3) := by decide +kernel
theorem d_Wrk_joined_33 : decode prog_8_method_5_code 33 = .ok (.ireturn, 1) := by decide +kernel
theorem d_Wrk_joined_34 : decode prog_8_method_5_code 34 = .ok (.iload_n 1, 1) := by decide +kernel
theorem d_Wrk_joined_35 : decode prog_8_method_5_code 35 = .ok (.iload_n 2, 1) := by decide +kernel
theorem d_Wrk_joined_36 : decode prog_8_method_5_code 36 = .ok (.invokestatic 84, 3) := by decide +kernel
theorem d_Wrk_joined_39 : decode prog_8_method_5_code 39 = .ok (.ireturn, 1) := by decide +kernel
theorem d_Wrk_joined_40 : decode prog_8_method_5_code 40 = .ok (.iload_n 1, 1) := by decide +kernel
theorem d_Wrk_joined_41 : decode prog_8_method_5_code 41 = .ok (.invokestatic 90, 3) := by decide +kernel
theorem d_Wrk_joined_44 : decode prog_8_method_5_code 44 = .ok (.ireturn, 1) := by decide +kernel
theorem d_Wrk_joined_45 : decode prog_8_method_5_code 45 = .ok (.iload_n 0, 1) := by decide +kernel
theorem d_Wrk_joined_46 : decode prog_8_method_5_code 46 = .ok (.iload_n 1, 1) := by decide +kernel
theorem d_Wrk_joined_47 : decode prog_8_method_5_code 47 = .ok (.iload_n 2, 1) := by decide +kernel
theorem d_Wrk_joined_48 : decode prog_8_method_5_code 48 = .ok (.invokestatic 93, 3) := by decide +kernel
theorem d_Wrk_joined_51 : decode prog_8_method_5_code 51 = .ok (.ireturn, 1) := by decide +kernel
set_option maxHeartbeats 4000000 in
set_option maxRecDepth 100000 in
theorem c_Wrk_joined {k a b : Int32} : zK l D ck ad b0 y_Wrk_joined prog_8_method_5_code 3 ((some FieldType.int)) 2 0 0 [.int k, .int a, .int b] N f (fun r N' f' => r = some (.int (wJoin k a b)) ∧ N = N' ∧ f = f') := by
  refine zM.of zG_w (by decide) (Nat.le_of_ble_eq_true rfl) ?_
  intro zp ze zst zm zar zbe zme zc X hnm hb0
  refine z_iload_n X d_Wrk_joined_0 rfl ?_
  refine z_tableL X 45 [28, 34, 40] d_Wrk_joined_1 (by decide) (by decide) (by decide) (fun i hi hx => ?_) (fun hd => ?_) (by decide)
  · match i, hi, hx with
    | 0, _, hx =>
      have g1 : _ = (0 : Int32) := hx
      refine zW.topc (pc' := 28) rfl ?_
      refine z_iload_n X d_Wrk_joined_28 rfl ?_
      refine z_iload_n X d_Wrk_joined_29 rfl ?_
      refine z_callS X zG_ok (c_Wrk_either (f := f)) d_Wrk_joined_30 ⟨(z_cb (n := 2) X.2.2.2.2.1 ml_Wrk_87 mc_Wrk_either ini_Wrk (by decide +kernel) rfl rfl ⟨Nat.le_of_ble_eq_true rfl, Nat.le_of_ble_eq_true rfl⟩), X.2.2.2.2.1 _ st_Wrk_either⟩ rfl rfl (Nat.le_of_ble_eq_true rfl) ⟨Nat.le_of_ble_eq_true rfl, Nat.le_of_ble_eq_true rfl⟩ (fun r N1 f1 hp hN1 => ?_)
      obtain ⟨rfl, rfl, rfl⟩ := hp
      exact z_iret X d_Wrk_joined_33 ⟨by rw [wJoin, if_pos g1], rfl, rfl⟩
    | 1, _, hx =>
      have g1 : _ = (1 : Int32) := hx
      refine zW.topc (pc' := 34) rfl ?_
      refine z_iload_n X d_Wrk_joined_34 rfl ?_
      refine z_iload_n X d_Wrk_joined_35 rfl ?_
      refine z_callS X zG_ok (c_Wrk_both (f := f)) d_Wrk_joined_36 ⟨(z_cb (n := 2) X.2.2.2.2.1 ml_Wrk_84 mc_Wrk_both ini_Wrk (by decide +kernel) rfl rfl ⟨Nat.le_of_ble_eq_true rfl, Nat.le_of_ble_eq_true rfl⟩), X.2.2.2.2.1 _ st_Wrk_both⟩ rfl rfl (Nat.le_of_ble_eq_true rfl) ⟨Nat.le_of_ble_eq_true rfl, Nat.le_of_ble_eq_true rfl⟩ (fun r N1 f1 hp hN1 => ?_)
      obtain ⟨rfl, rfl, rfl⟩ := hp
      exact z_iret X d_Wrk_joined_39 ⟨by rw [wJoin, if_neg (by rw [g1]; decide), if_pos g1], rfl, rfl⟩
    | 2, _, hx =>
      have g1 : _ = (2 : Int32) := hx
      refine zW.topc (pc' := 40) rfl ?_
      refine z_iload_n X d_Wrk_joined_40 rfl ?_
      refine z_callS X zG_ok (c_Wrk_turned (f := f)) d_Wrk_joined_41 ⟨(z_cb (n := 1) X.2.2.2.2.1 ml_Wrk_90 mc_Wrk_turned ini_Wrk (by decide +kernel) rfl rfl ⟨Nat.le_of_ble_eq_true rfl, Nat.le_of_ble_eq_true rfl⟩), X.2.2.2.2.1 _ st_Wrk_turned⟩ rfl rfl (Nat.le_of_ble_eq_true rfl) ⟨Nat.le_of_ble_eq_true rfl, Nat.le_of_ble_eq_true rfl⟩ (fun r N1 f1 hp hN1 => ?_)
      obtain ⟨rfl, rfl, rfl⟩ := hp
      exact z_iret X d_Wrk_joined_44 ⟨by rw [wJoin, if_neg (by rw [g1]; decide), if_neg (by rw [g1]; decide), if_pos g1], rfl, rfl⟩
    | j + 3, hi, _ => exact absurd hi (by simp)
  · skip
    have g1_0 : ¬ _ = (0 : Int32) := hd 0 (by decide)
    have g1_1 : ¬ _ = (1 : Int32) := hd 1 (by decide)
    have g1_2 : ¬ _ = (2 : Int32) := hd 2 (by decide)
    refine z_iload_n X d_Wrk_joined_45 rfl ?_
    refine z_iload_n X d_Wrk_joined_46 rfl ?_
    refine z_iload_n X d_Wrk_joined_47 rfl ?_
    refine z_callS X zG_ok (c_Wrk_calculated (f := f)) d_Wrk_joined_48 ⟨(z_cb (n := 3) X.2.2.2.2.1 ml_Wrk_93 mc_Wrk_calculated ini_Wrk (by decide +kernel) rfl rfl ⟨Nat.le_of_ble_eq_true rfl, Nat.le_of_ble_eq_true rfl⟩), X.2.2.2.2.1 _ st_Wrk_calculated⟩ rfl rfl (Nat.le_of_ble_eq_true rfl) ⟨Nat.le_of_ble_eq_true rfl, Nat.le_of_ble_eq_true rfl⟩ (fun r N1 f1 hp hN1 => ?_)
    obtain ⟨rfl, rfl, rfl⟩ := hp
    exact z_iret X d_Wrk_joined_51 ⟨by rw [wJoin, if_neg g1_0, if_neg g1_1, if_neg g1_2], rfl, rfl⟩
theorem d_Wrk_setResult_0 : decode prog_8_method_12_code 0 = .ok (.iload_n 1, 1) := by decide +kernel
theorem d_Wrk_setResult_1 : decode prog_8_method_12_code 1 = .ok (.bipush 10, 2) := by decide +kernel
theorem d_Wrk_setResult_3 : decode prog_8_method_12_code 3 = .ok (.imul, 1) := by decide +kernel
theorem d_Wrk_setResult_4 : decode prog_8_method_12_code 4 = .ok (.iload_n 2, 1) := by decide +kernel
theorem d_Wrk_setResult_5 : decode prog_8_method_12_code 5 = .ok (.iadd, 1) := by decide +kernel
theorem d_Wrk_setResult_6 : decode prog_8_method_12_code 6 = .ok (.istore 4, 2) := by decide +kernel
theorem d_Wrk_setResult_8 : decode prog_8_method_12_code 8 = .ok (.iload 4, 2) := by decide +kernel
theorem d_Wrk_setResult_10 : decode prog_8_method_12_code 10 = .ok (.ifCond .lt 21, 3) := by decide +kernel
theorem d_Wrk_setResult_13 : decode prog_8_method_12_code 13 = .ok (.iload 4, 2) := by decide +kernel
theorem d_Wrk_setResult_15 : decode prog_8_method_12_code 15 = .ok (.aload_n 0, 1) := by decide +kernel
theorem d_Wrk_setResult_16 : decode prog_8_method_12_code 16 = .ok (.getfield 18, 3) := by decide +kernel
theorem d_Wrk_setResult_19 : decode prog_8_method_12_code 19 = .ok (.arraylength, 1) := by decide +kernel
theorem d_Wrk_setResult_20 : decode prog_8_method_12_code 20 = .ok (.if_icmp .ge 11, 3) := by decide +kernel
theorem d_Wrk_setResult_23 : decode prog_8_method_12_code 23 = .ok (.aload_n 0, 1) := by decide +kernel
theorem d_Wrk_setResult_24 : decode prog_8_method_12_code 24 = .ok (.getfield 18, 3) := by decide +kernel
theorem d_Wrk_setResult_27 : decode prog_8_method_12_code 27 = .ok (.iload 4, 2) := by decide +kernel
theorem d_Wrk_setResult_29 : decode prog_8_method_12_code 29 = .ok (.iload_n 3, 1) := by decide +kernel
theorem d_Wrk_setResult_30 : decode prog_8_method_12_code 30 = .ok (.iastore, 1) := by decide +kernel
theorem d_Wrk_setResult_31 : decode prog_8_method_12_code 31 = .ok (.return_, 1) := by decide +kernel
set_option maxHeartbeats 4000000 in
set_option maxRecDepth 100000 in
theorem c_Wrk_setResult {wk dc rs : Nat} {lb : Int32} {G : Nat → Int32} (hP : zP b0 N f [(wk, oWrk dc rs lb), (rs, aI ck 400 G)]) {a b : Nat} (ha : a < 40) (hb : b < 10) {x : Int32} : zK l D ck ad b0 y_Wrk_setResult prog_8_method_12_code 5 (none) 0 0 0 [.ref wk, .int (nI a), .int (nI b), .int x] N f (fun r N' f' => r = none ∧ N = N' ∧ f' = va_up f rs (aI ck 400 (upd G (a * 10 + b) x))) := by
  refine zM.of zG_w (by decide) (Nat.le_of_ble_eq_true rfl) ?_
  intro zp ze zst zm zar zbe zme zc X hnm hb0
  refine z_iload_n X d_Wrk_setResult_0 rfl ?_
  refine z_bipush X d_Wrk_setResult_1 (v := 10) (by decide) ?_
  refine z_imul X d_Wrk_setResult_3 ?_
  refine z_iload_n X d_Wrk_setResult_4 rfl ?_
  refine z_iadd X d_Wrk_setResult_5 ?_
  refine z_istore X d_Wrk_setResult_6 (by decide) rfl ?_
  refine z_iload X d_Wrk_setResult_8 rfl ?_
  refine z_if_lt X 31 d_Wrk_setResult_10 (by decide) (fun h10 => ?_) (fun h10 => ?_)
  · skip
    rw [show nI a * 10 + nI b = nI (a * 10 + b) from by rw [show (10 : Int32) = nI 10 from rfl, pk_mul, nI_add]] at h10; exact absurd h10 (nI_pos (by omega))
  · skip
    refine z_iload X d_Wrk_setResult_13 rfl ?_
    refine z_aload_n X d_Wrk_setResult_15 rfl ?_
    refine z_get X d_Wrk_setResult_16 (hP.lo 0 rfl) (hP.at 0 rfl) cl_Wrk in_Wrk 1 (by decide) fl_Wrk_18 rfl rfl ?_
    refine z_alen X d_Wrk_setResult_19 (hP.lo 1 rfl) (hP.at 1 rfl) (t0 := 0) rfl rfl ?_
    refine z_icmp_ge X 31 d_Wrk_setResult_20 (by decide) (fun h20 => ?_) (fun h20 => ?_)
    · skip
      rw [show nI a * 10 + nI b = nI (a * 10 + b) from by rw [show (10 : Int32) = nI 10 from rfl, pk_mul, nI_add]] at h20; exact absurd h20 (nI_ge (b := 400) (by omega) (by decide))
    · skip
      refine z_aload_n X d_Wrk_setResult_23 rfl ?_
      refine z_get X d_Wrk_setResult_24 (hP.lo 0 rfl) (hP.at 0 rfl) cl_Wrk in_Wrk 1 (by decide) fl_Wrk_18 rfl rfl ?_
      refine z_iload X d_Wrk_setResult_27 rfl ?_
      refine z_iload_n X d_Wrk_setResult_29 rfl ?_
      refine z_iastP X d_Wrk_setResult_30 hP 1 rfl (t0 := 0) rfl (by rw [show nI a * 10 + nI b = nI (a * 10 + b) from by rw [show (10 : Int32) = nI 10 from rfl, pk_mul, nI_add]]; exact vp_in_nI (by omega) (by decide)) (fun hP => ?_)
      exact z_vret X d_Wrk_setResult_31 ⟨rfl, rfl, by rw [show nI a * 10 + nI b = nI (a * 10 + b) from by rw [show (10 : Int32) = nI 10 from rfl, pk_mul, nI_add], nI_clamp (by omega)]⟩
theorem d_Wrk_resultOf_0 : decode prog_8_method_13_code 0 = .ok (.iload_n 1, 1) := by decide +kernel
theorem d_Wrk_resultOf_1 : decode prog_8_method_13_code 1 = .ok (.bipush 10, 2) := by decide +kernel
theorem d_Wrk_resultOf_3 : decode prog_8_method_13_code 3 = .ok (.imul, 1) := by decide +kernel
theorem d_Wrk_resultOf_4 : decode prog_8_method_13_code 4 = .ok (.iload_n 2, 1) := by decide +kernel
theorem d_Wrk_resultOf_5 : decode prog_8_method_13_code 5 = .ok (.iadd, 1) := by decide +kernel
theorem d_Wrk_resultOf_6 : decode prog_8_method_13_code 6 = .ok (.istore_n 3, 1) := by decide +kernel
theorem d_Wrk_resultOf_7 : decode prog_8_method_13_code 7 = .ok (.iload_n 1, 1) := by decide +kernel
theorem d_Wrk_resultOf_8 : decode prog_8_method_13_code 8 = .ok (.ifCond .lt 16, 3) := by decide +kernel
theorem d_Wrk_resultOf_11 : decode prog_8_method_13_code 11 = .ok (.iload_n 3, 1) := by decide +kernel
theorem d_Wrk_resultOf_12 : decode prog_8_method_13_code 12 = .ok (.ifCond .lt 12, 3) := by decide +kernel
theorem d_Wrk_resultOf_15 : decode prog_8_method_13_code 15 = .ok (.iload_n 3, 1) := by decide +kernel
theorem d_Wrk_resultOf_16 : decode prog_8_method_13_code 16 = .ok (.aload_n 0, 1) := by decide +kernel
theorem d_Wrk_resultOf_17 : decode prog_8_method_13_code 17 = .ok (.getfield 18, 3) := by decide +kernel
theorem d_Wrk_resultOf_20 : decode prog_8_method_13_code 20 = .ok (.arraylength, 1) := by decide +kernel
theorem d_Wrk_resultOf_21 : decode prog_8_method_13_code 21 = .ok (.if_icmp .lt 6, 3) := by decide +kernel
theorem d_Wrk_resultOf_24 : decode prog_8_method_13_code 24 = .ok (.ldc 96, 2) := by decide +kernel
theorem d_Wrk_resultOf_26 : decode prog_8_method_13_code 26 = .ok (.ireturn, 1) := by decide +kernel
theorem d_Wrk_resultOf_27 : decode prog_8_method_13_code 27 = .ok (.aload_n 0, 1) := by decide +kernel
theorem d_Wrk_resultOf_28 : decode prog_8_method_13_code 28 = .ok (.getfield 18, 3) := by decide +kernel
theorem d_Wrk_resultOf_31 : decode prog_8_method_13_code 31 = .ok (.iload_n 3, 1) := by decide +kernel
theorem d_Wrk_resultOf_32 : decode prog_8_method_13_code 32 = .ok (.iaload, 1) := by decide +kernel
theorem d_Wrk_resultOf_33 : decode prog_8_method_13_code 33 = .ok (.ireturn, 1) := by decide +kernel
set_option maxHeartbeats 4000000 in
set_option maxRecDepth 100000 in
theorem c_Wrk_resultOf_s {wk dc rs : Nat} {lb : Int32} {G : Nat → Int32} (hP : zP b0 N f [(wk, oWrk dc rs lb), (rs, aI ck 400 G)]) {c : Nat} {b : Nat} (hc : c < 40) (hb : b < 10) : zK l D ck ad b0 y_Wrk_resultOf prog_8_method_13_code 4 ((some FieldType.int)) 0 0 0 [.ref wk, .int (nI c), .int (nI b)] N f (fun r N' f' => r = some (.int (G (c * 10 + b))) ∧ N = N' ∧ f = f') := by
  refine zM.of zG_w (by decide) (Nat.le_of_ble_eq_true rfl) ?_
  intro zp ze zst zm zar zbe zme zc X hnm hb0
  refine z_iload_n X d_Wrk_resultOf_0 rfl ?_
  refine z_bipush X d_Wrk_resultOf_1 (v := 10) (by decide) ?_
  refine z_imul X d_Wrk_resultOf_3 ?_
  refine z_iload_n X d_Wrk_resultOf_4 rfl ?_
  refine z_iadd X d_Wrk_resultOf_5 ?_
  refine z_istore_n X d_Wrk_resultOf_6 (by decide) rfl ?_
  refine z_iload_n X d_Wrk_resultOf_7 rfl ?_
  refine z_if_lt X 24 d_Wrk_resultOf_8 (by decide) (fun h8 => ?_) (fun h8 => ?_)
  · skip
    exact absurd h8 (nI_pos (by omega))
  · skip
    refine z_iload_n X d_Wrk_resultOf_11 rfl ?_
    refine z_if_lt X 24 d_Wrk_resultOf_12 (by decide) (fun h12 => ?_) (fun h12 => ?_)
    · skip
      rw [show nI c * 10 + nI b = nI (c * 10 + b) from by rw [show (10 : Int32) = nI 10 from rfl, pk_mul, nI_add]] at h12; exact absurd h12 (nI_pos (by omega))
    · skip
      refine z_iload_n X d_Wrk_resultOf_15 rfl ?_
      refine z_aload_n X d_Wrk_resultOf_16 rfl ?_
      refine z_get X d_Wrk_resultOf_17 (hP.lo 0 rfl) (hP.at 0 rfl) cl_Wrk in_Wrk 1 (by decide) fl_Wrk_18 rfl rfl ?_
      refine z_alen X d_Wrk_resultOf_20 (hP.lo 1 rfl) (hP.at 1 rfl) (t0 := 0) rfl rfl ?_
      refine z_icmp_lt X 27 d_Wrk_resultOf_21 (by decide) (fun h21 => ?_) (fun h21 => ?_)
      · skip
        refine z_aload_n X d_Wrk_resultOf_27 rfl ?_
        refine z_get X d_Wrk_resultOf_28 (hP.lo 0 rfl) (hP.at 0 rfl) cl_Wrk in_Wrk 1 (by decide) fl_Wrk_18 rfl rfl ?_
        refine z_iload_n X d_Wrk_resultOf_31 rfl ?_
        refine z_iald X d_Wrk_resultOf_32 (hP.lo 1 rfl) (hP.at 1 rfl) (t0 := 0) rfl (by rw [show nI c * 10 + nI b = nI (c * 10 + b) from by rw [show (10 : Int32) = nI 10 from rfl, pk_mul, nI_add]]; exact vp_in_nI (by omega) (by decide)) ?_
        exact z_iret X d_Wrk_resultOf_33 ⟨by rw [show nI c * 10 + nI b = nI (c * 10 + b) from by rw [show (10 : Int32) = nI 10 from rfl, pk_mul, nI_add], nI_clamp (by omega)], rfl, rfl⟩
      · skip
        rw [show nI c * 10 + nI b = nI (c * 10 + b) from by rw [show (10 : Int32) = nI 10 from rfl, pk_mul, nI_add]] at h21; exact absurd (nI_lt (b := 400) (by omega) (by decide)) h21
set_option maxHeartbeats 4000000 in
set_option maxRecDepth 100000 in
theorem c_Wrk_resultOf_n {wk dc rs : Nat} {lb : Int32} {G : Nat → Int32} (hP : zP b0 N f [(wk, oWrk dc rs lb), (rs, aI ck 400 G)]) {b : Int32} : zK l D ck ad b0 y_Wrk_resultOf prog_8_method_13_code 4 ((some FieldType.int)) 0 0 0 [.ref wk, .int (-1), .int b] N f (fun r N' f' => r = some (.int (-2147483648)) ∧ N = N' ∧ f = f') := by
  refine zM.of zG_w (by decide) (Nat.le_of_ble_eq_true rfl) ?_
  intro zp ze zst zm zar zbe zme zc X hnm hb0
  refine z_iload_n X d_Wrk_resultOf_0 rfl ?_
  refine z_bipush X d_Wrk_resultOf_1 (v := 10) (by decide) ?_
  refine z_imul X d_Wrk_resultOf_3 ?_
  refine z_iload_n X d_Wrk_resultOf_4 rfl ?_
  refine z_iadd X d_Wrk_resultOf_5 ?_
  refine z_istore_n X d_Wrk_resultOf_6 (by decide) rfl ?_
  refine z_iload_n X d_Wrk_resultOf_7 rfl ?_
  refine z_if_lt X 24 d_Wrk_resultOf_8 (by decide) (fun h8 => ?_) (fun h8 => ?_)
  · skip
    refine z_ldc X d_Wrk_resultOf_24 k_Wrk_96 ?_
    exact z_iret X d_Wrk_resultOf_26 ⟨rfl, rfl, rfl⟩
  · skip
    exact absurd (by decide) h8
theorem c_Wrk_resultOf {wk dc rs : Nat} {lb : Int32} {G : Nat → Int32} (hP : zP b0 N f [(wk, oWrk dc rs lb), (rs, aI ck 400 G)]) {c : Option Nat} {b : Nat} (hc : ∀ q, c = some q → q < 40) (hb : b < 10) : zK l D ck ad b0 y_Wrk_resultOf prog_8_method_13_code 4 ((some FieldType.int)) 0 0 0 [.ref wk, .int (wix c), .int (nI b)] N f (fun r N' f' => r = some (.int (wres G c b)) ∧ N = N' ∧ f = f') := by
  cases c with
  | none => exact c_Wrk_resultOf_n hP
  | some c => exact c_Wrk_resultOf_s hP (hc c rfl) hb
theorem d_Wrk_setOnAllLines_0 : decode prog_8_method_11_code 0 = .ok (.iconst 0, 1) := by decide +kernel
theorem d_Wrk_setOnAllLines_1 : decode prog_8_method_11_code 1 = .ok (.istore_n 3, 1) := by decide +kernel
theorem d_Wrk_setOnAllLines_2 : decode prog_8_method_11_code 2 = .ok (.iload_n 3, 1) := by decide +kernel
theorem d_Wrk_setOnAllLines_3 : decode prog_8_method_11_code 3 = .ok (.bipush 10, 2) := by decide +kernel
theorem d_Wrk_setOnAllLines_5 : decode prog_8_method_11_code 5 = .ok (.if_icmp .ge 16, 3) := by decide +kernel
theorem d_Wrk_setOnAllLines_8 : decode prog_8_method_11_code 8 = .ok (.aload_n 0, 1) := by decide +kernel
theorem d_Wrk_setOnAllLines_9 : decode prog_8_method_11_code 9 = .ok (.iload_n 1, 1) := by decide +kernel
theorem d_Wrk_setOnAllLines_10 : decode prog_8_method_11_code 10 = .ok (.iload_n 3, 1) := by decide +kernel
theorem d_Wrk_setOnAllLines_11 : decode prog_8_method_11_code 11 = .ok (.iload_n 2, 1) := by decide +kernel
theorem d_Wrk_setOnAllLines_12 : decode prog_8_method_11_code 12 = .ok (.invokevirtual 73, 3) := by decide +kernel
theorem d_Wrk_setOnAllLines_15 : decode prog_8_method_11_code 15 = .ok (.iinc 3 1, 3) := by decide +kernel
theorem d_Wrk_setOnAllLines_18 : decode prog_8_method_11_code 18 = .ok (.goto (-16), 3) := by decide +kernel
theorem d_Wrk_setOnAllLines_21 : decode prog_8_method_11_code 21 = .ok (.return_, 1) := by decide +kernel
set_option maxHeartbeats 4000000 in
set_option maxRecDepth 100000 in
theorem c_Wrk_setOnAllLines {wk dc rs : Nat} {lb : Int32} {G : Nat → Int32} (hP : zP b0 N f [(wk, oWrk dc rs lb), (rs, aI ck 400 G)]) {a : Nat} (ha : a < 40) {x : Int32} : zK l D ck ad b0 y_Wrk_setOnAllLines prog_8_method_11_code 4 (none) 1 0 0 [.ref wk, .int (nI a), .int x] N f (fun r N' f' => r = none ∧ N = N' ∧ zP b0 N f' [(wk, oWrk dc rs lb), (rs, aI ck 400 (wsetk G a (fun _ => x) 10))] ∧ zF N f f' [wk, rs]) := by
  refine zM.of zG_w (by decide) (Nat.le_of_ble_eq_true rfl) ?_
  intro zp ze zst zm zar zbe zme zc X hnm hb0
  have L2 : ∀ (nn : Nat) (j : Nat) (f1 : Nat → va_E), (j ≤ 10 ∧ j + nn = 11) → zP b0 N f1 [(wk, oWrk dc rs lb), (rs, aI ck 400 (wsetk G a (fun _ => x) j))] → zF N f f1 [wk, rs] → zW zp l ze (zR 1 0 0) zst zm zar zbe zme zc D zcl b0 4 0 0 (MQ zbe (zQ D zcl b0 (fun r N' f' => r = none ∧ N = N' ∧ zP b0 N f' [(wk, oWrk dc rs lb), (rs, aI ck 400 (wsetk G a (fun _ => x) 10))] ∧ zF N f f' [wk, rs])) zar zst 0 0 (zA b0)) N f1 2 [(0, .ref wk), (1, .int (nI a)), (2, .int x), (3, .int (nI j))] [] := by
    intro nn
    induction nn with
    | zero =>
      intro j f1 hj0 hP hF
      omega
    | succ nn ih =>
      intro j f1 hj0 hP hF
      refine z_iload_n X d_Wrk_setOnAllLines_2 rfl ?_
      refine z_bipush X d_Wrk_setOnAllLines_3 (v := 10) (by decide) ?_
      refine z_icmp_ge X 21 d_Wrk_setOnAllLines_5 (by decide) (fun h5 => ?_) (fun h5 => ?_)
      · skip
        have hj : j = 10 := by have := (nI_leI (a := 10) (b := j) (by decide) (by omega)).mp h5; omega
        subst hj
        exact z_vret X d_Wrk_setOnAllLines_21 ⟨rfl, rfl, hP, hF⟩
      · skip
        have hj : j < 10 := by
          rcases Nat.lt_or_ge j 10 with z | z
          · exact z
          · exact absurd (nI_le (a := 10) (b := j) z (by omega)) h5
        refine z_aload_n X d_Wrk_setOnAllLines_8 rfl ?_
        refine z_iload_n X d_Wrk_setOnAllLines_9 rfl ?_
        refine z_iload_n X d_Wrk_setOnAllLines_10 rfl ?_
        refine z_iload_n X d_Wrk_setOnAllLines_11 rfl ?_
        refine z_callV X zG_ok (c_Wrk_setResult hP ha hj) d_Wrk_setOnAllLines_12 ⟨(z_cb (n := 3) X.2.2.2.2.1 ml_Wrk_73 mc_Wrk_setResult ini_Wrk (by decide +kernel) rfl rfl ⟨Nat.le_of_ble_eq_true rfl, Nat.le_of_ble_eq_true rfl⟩), X.2.2.2.2.1 _ im_Wrk_setResult, X.2.2.2.2.1 _ sel_Wrk_setResult⟩ (hP.lo 0 rfl) (hP.at 0 rfl) cl_Wrk rfl rfl (Nat.le_of_ble_eq_true rfl) ⟨Nat.le_of_ble_eq_true rfl, Nat.le_of_ble_eq_true rfl⟩ (fun r N1 f1 hp hN1 => ?_)
        obtain ⟨rfl, rfl, rfl⟩ := hp
        have hP := hP.put 1 rfl (aI ck 400 (upd (wsetk G a (fun _ => x) j) (a * 10 + j) x))
        have hF := hF.by (by simp) hP
        refine z_iinc X d_Wrk_setOnAllLines_15 rfl (nI_1 _) (by decide) rfl ?_
        refine z_goto X 2 d_Wrk_setOnAllLines_18 (by decide) ?_
        exact ih (j + 1) _ (by omega) (hP.eq (by rw [← wsetk_s G a (fun _ => x) j]; rfl)) hF
  refine z_iconst X d_Wrk_setOnAllLines_0 (v := 0) (by decide) ?_
  refine z_istore_n X d_Wrk_setOnAllLines_1 (by decide) rfl ?_
  exact L2 11 0 f (by omega) (hP.eq (by rw [wsetk_0])) zF.rf
end
