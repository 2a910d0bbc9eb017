section ZPK
variable {p : Program} {l : Launch} {e : Env} {R : Room} {s : State} {m : MethodId} {args : Array Value} {below : List Frame} {meth : Method} {c : Code} {cells slots : Nat} {Q : State → Prop} {D : va_G} {cl : List vw_C} {b0 nL N : Nat} {f : Nat → va_E} {pc : Nat} {lv lv' : List (Nat × Value)} {st : List Value}
/-- fewer locals, by their places -/
theorem zW.pick (is : List Nat) (hs : is.map (fun i => lv[i]?) = lv'.map some) (kk : zW p l e R s m args below meth c D cl b0 nL cells slots Q N f pc lv' st) : zW p l e R s m args below meth c D cl b0 nL cells slots Q N f pc lv st := by
  refine zW.loc (fun q hq => ?_) kk
  obtain ⟨k, hk⟩ := List.getElem?_of_mem hq
  have h1 : (is.map (fun i => lv[i]?))[k]? = some (some q) := by rw [hs, List.getElem?_map, hk]; rfl
  rw [List.getElem?_map] at h1
  cases hi : is[k]? with
  | none => rw [hi] at h1; cases h1
  | some i => rw [hi] at h1; exact List.mem_of_getElem? (Option.some.inj h1)
end ZPK
abbrev oDecl (va : Nat) : va_E := .inr (0, [.ref va])
abbrev zNV : Int32 := -2147483648
/-- Declaration.slotOf -/
def dsl (fd ln : Int32) : Int32 := if fd < 0 then -1 else if 20 ≤ fd then -1 else if ln < 0 then -1 else if ln < 10 then ln * 20 + fd else -1
theorem dsl_nI {a b : Nat} (ha : a < 20) (hb : b < 10) : dsl (nI a) (nI b) = nI (b * 20 + a) := by
  rw [dsl, if_neg (nI_pos (by omega)), if_neg (show ¬ (20 : Int32) ≤ nI a from nI_ge (b := 20) ha (by decide)), if_neg (nI_pos (by omega)), if_pos (show nI b < (10 : Int32) from nI_lt (b := 10) hb (by decide)), show (20 : Int32) = nI 20 from rfl, pk_mul, nI_add]
theorem dsl_cases (fd ln : Int32) : dsl fd ln = -1 ∨ ∃ a b : Nat, a < 20 ∧ b < 10 ∧ fd = nI a ∧ ln = nI b := by
  rcases pk_ix fd (n := 20) (by decide) with h | h | ⟨a, ha, rfl⟩
  · left; rw [dsl, if_pos h]
  · left
    by_cases h0 : fd < 0
    · rw [dsl, if_pos h0]
    · rw [dsl, if_neg h0, if_pos (show (20 : Int32) ≤ fd from h)]
  · rcases pk_ix ln (n := 10) (by decide) with h | h | ⟨b, hb, rfl⟩
    · left
      rw [dsl, if_neg (nI_pos (by omega)), if_neg (show ¬ (20 : Int32) ≤ nI a from nI_ge (b := 20) ha (by decide)), if_pos h]
    · left
      rw [dsl, if_neg (nI_pos (by omega)), if_neg (show ¬ (20 : Int32) ≤ nI a from nI_ge (b := 20) ha (by decide))]
      by_cases h0 : ln < 0
      · rw [if_pos h0]
      · rw [if_neg h0, if_neg (show ¬ ln < (10 : Int32) from Int32.not_lt.mpr h)]
    · right; exact ⟨a, b, ha, hb, rfl, rfl⟩
theorem dsl_in {fd ln : Int32} (h : ¬ dsl fd ln < 0) : vp_in (dsl fd ln) 200 := by
  rcases dsl_cases fd ln with q | ⟨a, b, ha, hb, rfl, rfl⟩
  · rw [q] at h
    exact absurd (by decide) h
  · rw [dsl_nI ha hb]
    exact vp_in_nI (by omega) (by decide)
/-- Declaration.valueOn -/
def dval (v : Nat → Int32) (fd ln : Int32) : Int32 := if dsl fd ln < 0 then (-2147483648 : Int32) else v (dsl fd ln).toNatClampNeg
/-- sums and counts over the lines 1 .. k -/
def dsum (v : Nat → Int32) (fd : Int32) : Nat → Int32
  | 0 => 0
  | k + 1 => dsum v fd k + (if dval v fd (nI (k + 1)) = (-2147483648 : Int32) then 0 else dval v fd (nI (k + 1)))
def dcnt (v : Nat → Int32) (fd : Int32) : Nat → Int32
  | 0 => 0
  | k + 1 => dcnt v fd k + (if dval v fd (nI (k + 1)) = (-2147483648 : Int32) then 0 else 1)
/-- the bit of a line, after its fields 0 .. j - 1 -/
def dbit (v : Nat → Int32) (ln : Nat) (bits : Int32) : Nat → Int32
  | 0 => bits
  | j + 1 => if dval v (nI j) (nI ln) = (-2147483648 : Int32) then dbit v ln bits j else dbit v ln bits j ||| (1 <<< (nI ln &&& 31))
def dbits (v : Nat → Int32) : Nat → Int32
  | 0 => 0
  | k + 1 => dbit v (k + 1) (dbits v k) 20
section
variable {l : Launch} {D : va_G} {ck : Nat → ClassId} {ad : (Nat → Nat) × (Nat → Nat)} {b0 N : Nat} {f : Nat → va_E}
theorem d_Decl_slotOf_0 : decode prog_2_method_2_code 0 = .ok (.iload_n 0, 1) := by decide +kernel
theorem d_Decl_slotOf_1 : decode prog_2_method_2_code 1 = .ok (.ifCond .lt 19, 3) := by decide +kernel
theorem d_Decl_slotOf_4 : decode prog_2_method_2_code 4 = .ok (.iload_n 0, 1) := by decide +kernel
theorem d_Decl_slotOf_5 : decode prog_2_method_2_code 5 = .ok (.bipush 20, 2) := by decide +kernel
theorem d_Decl_slotOf_7 : decode prog_2_method_2_code 7 = .ok (.if_icmp .ge 13, 3) := by decide +kernel
theorem d_Decl_slotOf_10 : decode prog_2_method_2_code 10 = .ok (.iload_n 1, 1) := by decide +kernel
theorem d_Decl_slotOf_11 : decode prog_2_method_2_code 11 = .ok (.ifCond .lt 9, 3) := by decide +kernel
theorem d_Decl_slotOf_14 : decode prog_2_method_2_code 14 = .ok (.iload_n 1, 1) := by decide +kernel
theorem d_Decl_slotOf_15 : decode prog_2_method_2_code 15 = .ok (.bipush 10, 2) := by decide +kernel
theorem d_Decl_slotOf_17 : decode prog_2_method_2_code 17 = .ok (.if_icmp .lt 5, 3) := by decide +kernel
theorem d_Decl_slotOf_20 : decode prog_2_method_2_code 20 = .ok (.iconst (-1), 1) := by decide +kernel
theorem d_Decl_slotOf_21 : decode prog_2_method_2_code 21 = .ok (.ireturn, 1) := by decide +kernel
theorem d_Decl_slotOf_22 : decode prog_2_method_2_code 22 = .ok (.iload_n 1, 1) := by decide +kernel
theorem d_Decl_slotOf_23 : decode prog_2_method_2_code 23 = .ok (.bipush 20, 2) := by decide +kernel
theorem d_Decl_slotOf_25 : decode prog_2_method_2_code 25 = .ok (.imul, 1) := by decide +kernel
theorem d_Decl_slotOf_26 : decode prog_2_method_2_code 26 = .ok (.iload_n 0, 1) := by decide +kernel
theorem d_Decl_slotOf_27 : decode prog_2_method_2_code 27 = .ok (.iadd, 1) := by decide +kernel
theorem d_Decl_slotOf_28 : decode prog_2_method_2_code 28 = .ok (.ireturn, 1) := by decide +kernel
set_option maxHeartbeats 4000000 in
set_option maxRecDepth 100000 in
theorem c_Decl_slotOf {fd ln : Int32} : zK l D ck ad b0 y_Decl_slotOf prog_2_method_2_code 2 ((some FieldType.int)) 0 0 0 [.int fd, .int ln] N f (fun r N' f' => r = some (.int (dsl fd ln)) ∧ N = N' ∧ f = f') := by
  refine zM.of zG_w (by decide) (Nat.le_of_ble_eq_true rfl) ?_
  intro zp ze zst zm zar zbe zme zc X hnm hb0
  refine z_iload_n X d_Decl_slotOf_0 rfl ?_
  refine z_if_lt X 20 d_Decl_slotOf_1 (by decide) (fun h1 => ?_) (fun h1 => ?_)
  · skip
    refine z_iconst X d_Decl_slotOf_20 (v := -1) (by decide) ?_
    exact z_iret X d_Decl_slotOf_21 ⟨by first | rw [dsl, if_pos h1] | rw [dsl, if_neg h1, if_pos h7] | rw [dsl, if_neg h1, if_neg h7, if_pos h11] | rw [dsl, if_neg h1, if_neg h7, if_neg h11, if_neg h17], rfl, rfl⟩
  · skip
    refine z_iload_n X d_Decl_slotOf_4 rfl ?_
    refine z_bipush X d_Decl_slotOf_5 (v := 20) (by decide) ?_
    refine z_icmp_ge X 20 d_Decl_slotOf_7 (by decide) (fun h7 => ?_) (fun h7 => ?_)
    · skip
      refine z_iconst X d_Decl_slotOf_20 (v := -1) (by decide) ?_
      exact z_iret X d_Decl_slotOf_21 ⟨by first | rw [dsl, if_pos h1] | rw [dsl, if_neg h1, if_pos h7] | rw [dsl, if_neg h1, if_neg h7, if_pos h11] | rw [dsl, if_neg h1, if_neg h7, if_neg h11, if_neg h17], rfl, rfl⟩
    · skip
      refine z_iload_n X d_Decl_slotOf_10 rfl ?_
      refine z_if_lt X 20 d_Decl_slotOf_11 (by decide) (fun h11 => ?_) (fun h11 => ?_)
      · skip
        refine z_iconst X d_Decl_slotOf_20 (v := -1) (by decide) ?_
        exact z_iret X d_Decl_slotOf_21 ⟨by first | rw [dsl, if_pos h1] | rw [dsl, if_neg h1, if_pos h7] | rw [dsl, if_neg h1, if_neg h7, if_pos h11] | rw [dsl, if_neg h1, if_neg h7, if_neg h11, if_neg h17], rfl, rfl⟩
      · skip
        refine z_iload_n X d_Decl_slotOf_14 rfl ?_
        refine z_bipush X d_Decl_slotOf_15 (v := 10) (by decide) ?_
        refine z_icmp_lt X 22 d_Decl_slotOf_17 (by decide) (fun h17 => ?_) (fun h17 => ?_)
        · skip
          refine z_iload_n X d_Decl_slotOf_22 rfl ?_
          refine z_bipush X d_Decl_slotOf_23 (v := 20) (by decide) ?_
          refine z_imul X d_Decl_slotOf_25 ?_
          refine z_iload_n X d_Decl_slotOf_26 rfl ?_
          refine z_iadd X d_Decl_slotOf_27 ?_
          exact z_iret X d_Decl_slotOf_28 ⟨by rw [dsl, if_neg h1, if_neg h7, if_neg h11, if_pos h17], rfl, rfl⟩
        · skip
          refine z_iconst X d_Decl_slotOf_20 (v := -1) (by decide) ?_
          exact z_iret X d_Decl_slotOf_21 ⟨by first | rw [dsl, if_pos h1] | rw [dsl, if_neg h1, if_pos h7] | rw [dsl, if_neg h1, if_neg h7, if_pos h11] | rw [dsl, if_neg h1, if_neg h7, if_neg h11, if_neg h17], rfl, rfl⟩
theorem d_Decl_valueOn_0 : decode prog_2_method_4_code 0 = .ok (.iload_n 1, 1) := by decide +kernel
theorem d_Decl_valueOn_1 : decode prog_2_method_4_code 1 = .ok (.iload_n 2, 1) := by decide +kernel
theorem d_Decl_valueOn_2 : decode prog_2_method_4_code 2 = .ok (.invokestatic 22, 3) := by decide +kernel
theorem d_Decl_valueOn_5 : decode prog_2_method_4_code 5 = .ok (.istore_n 3, 1) := by decide +kernel
theorem d_Decl_valueOn_6 : decode prog_2_method_4_code 6 = .ok (.iload_n 3, 1) := by decide +kernel
theorem d_Decl_valueOn_7 : decode prog_2_method_4_code 7 = .ok (.ifCond .lt 12, 3) := by decide +kernel
theorem d_Decl_valueOn_10 : decode prog_2_method_4_code 10 = .ok (.iload_n 3, 1) := by decide +kernel
theorem d_Decl_valueOn_11 : decode prog_2_method_4_code 11 = .ok (.aload_n 0, 1) := by decide +kernel
theorem d_Decl_valueOn_12 : decode prog_2_method_4_code 12 = .ok (.getfield 9, 3) := by decide +kernel
theorem d_Decl_valueOn_15 : decode prog_2_method_4_code 15 = .ok (.arraylength, 1) := by decide +kernel
theorem d_Decl_valueOn_16 : decode prog_2_method_4_code 16 = .ok (.if_icmp .lt 6, 3) := by decide +kernel
theorem d_Decl_valueOn_19 : decode prog_2_method_4_code 19 = .ok (.ldc 15, 2) := by decide +kernel
theorem d_Decl_valueOn_21 : decode prog_2_method_4_code 21 = .ok (.ireturn, 1) := by decide +kernel
theorem d_Decl_valueOn_22 : decode prog_2_method_4_code 22 = .ok (.aload_n 0, 1) := by decide +kernel
theorem d_Decl_valueOn_23 : decode prog_2_method_4_code 23 = .ok (.getfield 9, 3) := by decide +kernel
theorem d_Decl_valueOn_26 : decode prog_2_method_4_code 26 = .ok (.iload_n 3, 1) := by decide +kernel
theorem d_Decl_valueOn_27 : decode prog_2_method_4_code 27 = .ok (.iaload, 1) := by decide +kernel
theorem d_Decl_valueOn_28 : decode prog_2_method_4_code 28 = .ok (.ireturn, 1) := by decide +kernel
set_option maxHeartbeats 4000000 in
set_option maxRecDepth 100000 in
theorem c_Decl_valueOn {dc va : Nat} {v : Nat → Int32} (hP : zP b0 N f [(dc, oDecl va), (va, aI ck 200 v)]) {fd ln : Int32} : zK l D ck ad b0 y_Decl_valueOn prog_2_method_4_code 4 ((some FieldType.int)) 1 0 0 [.ref dc, .int fd, .int ln] N f (fun r N' f' => r = some (.int (dval v fd ln)) ∧ N = N' ∧ f = f') := by
  refine zM.of zG_w (by decide) (Nat.le_of_ble_eq_true rfl) ?_
  intro zp ze zst zm zar zbe zme zc X hnm hb0
  refine z_iload_n X d_Decl_valueOn_0 rfl ?_
  refine z_iload_n X d_Decl_valueOn_1 rfl ?_
  refine z_callS X zG_ok (c_Decl_slotOf (f := f)) d_Decl_valueOn_2 ⟨(z_cb (n := 2) X.2.2.2.2.1 ml_Decl_22 mc_Decl_slotOf ini_Decl (by decide +kernel) rfl rfl ⟨Nat.le_of_ble_eq_true rfl, Nat.le_of_ble_eq_true rfl⟩), X.2.2.2.2.1 _ st_Decl_slotOf⟩ rfl rfl (Nat.le_of_ble_eq_true rfl) ⟨Nat.le_of_ble_eq_true rfl, Nat.le_of_ble_eq_true rfl⟩ (fun r N1 f1 hp hN1 => ?_)
  obtain ⟨rfl, rfl, rfl⟩ := hp
  refine z_istore_n X d_Decl_valueOn_5 (by decide) rfl ?_
  refine z_iload_n X d_Decl_valueOn_6 rfl ?_
  refine z_if_lt X 19 d_Decl_valueOn_7 (by decide) (fun h7 => ?_) (fun h7 => ?_)
  · skip
    refine z_ldc X d_Decl_valueOn_19 k_Decl_15 ?_
    exact z_iret X d_Decl_valueOn_21 ⟨by rw [dval, if_pos h7], rfl, rfl⟩
  · skip
    refine z_iload_n X d_Decl_valueOn_10 rfl ?_
    refine z_aload_n X d_Decl_valueOn_11 rfl ?_
    refine z_get X d_Decl_valueOn_12 (hP.lo 0 rfl) (hP.at 0 rfl) cl_Decl in_Decl 0 (by decide) fl_Decl_9 rfl rfl ?_
    refine z_alen X d_Decl_valueOn_15 (hP.lo 1 rfl) (hP.at 1 rfl) (t0 := 0) rfl rfl ?_
    refine z_icmp_lt X 22 d_Decl_valueOn_16 (by decide) (fun h16 => ?_) (fun h16 => ?_)
    · skip
      refine z_aload_n X d_Decl_valueOn_22 rfl ?_
      refine z_get X d_Decl_valueOn_23 (hP.lo 0 rfl) (hP.at 0 rfl) cl_Decl in_Decl 0 (by decide) fl_Decl_9 rfl rfl ?_
      refine z_iload_n X d_Decl_valueOn_26 rfl ?_
      refine z_iald X d_Decl_valueOn_27 (hP.lo 1 rfl) (hP.at 1 rfl) (t0 := 0) rfl (dsl_in h7) ?_
      exact z_iret X d_Decl_valueOn_28 ⟨by rw [dval, if_neg h7], rfl, rfl⟩
    · skip
      exact absurd (by have q := vp_in_iff.mp (dsl_in h7); rw [Int32.lt_iff_toInt_lt]; exact q.2) h16
theorem d_Decl_put_0 : decode prog_2_method_3_code 0 = .ok (.iload_n 1, 1) := by decide +kernel
theorem d_Decl_put_1 : decode prog_2_method_3_code 1 = .ok (.iload_n 2, 1) := by decide +kernel
theorem d_Decl_put_2 : decode prog_2_method_3_code 2 = .ok (.invokestatic 22, 3) := by decide +kernel
theorem d_Decl_put_5 : decode prog_2_method_3_code 5 = .ok (.istore 4, 2) := by decide +kernel
theorem d_Decl_put_7 : decode prog_2_method_3_code 7 = .ok (.iload 4, 2) := by decide +kernel
theorem d_Decl_put_9 : decode prog_2_method_3_code 9 = .ok (.ifCond .lt 13, 3) := by decide +kernel
theorem d_Decl_put_12 : decode prog_2_method_3_code 12 = .ok (.iload 4, 2) := by decide +kernel
theorem d_Decl_put_14 : decode prog_2_method_3_code 14 = .ok (.aload_n 0, 1) := by decide +kernel
theorem d_Decl_put_15 : decode prog_2_method_3_code 15 = .ok (.getfield 9, 3) := by decide +kernel
theorem d_Decl_put_18 : decode prog_2_method_3_code 18 = .ok (.arraylength, 1) := by decide +kernel
theorem d_Decl_put_19 : decode prog_2_method_3_code 19 = .ok (.if_icmp .lt 5, 3) := by decide +kernel
theorem d_Decl_put_22 : decode prog_2_method_3_code 22 = .ok (.iconst 0, 1) := by decide +kernel
theorem d_Decl_put_23 : decode prog_2_method_3_code 23 = .ok (.ireturn, 1) := by decide +kernel
theorem d_Decl_put_24 : decode prog_2_method_3_code 24 = .ok (.aload_n 0, 1) := by decide +kernel
theorem d_Decl_put_25 : decode prog_2_method_3_code 25 = .ok (.getfield 9, 3) := by decide +kernel
theorem d_Decl_put_28 : decode prog_2_method_3_code 28 = .ok (.iload 4, 2) := by decide +kernel
theorem d_Decl_put_30 : decode prog_2_method_3_code 30 = .ok (.iload_n 3, 1) := by decide +kernel
theorem d_Decl_put_31 : decode prog_2_method_3_code 31 = .ok (.iastore, 1) := by decide +kernel
theorem d_Decl_put_32 : decode prog_2_method_3_code 32 = .ok (.iconst 1, 1) := by decide +kernel
theorem d_Decl_put_33 : decode prog_2_method_3_code 33 = .ok (.ireturn, 1) := by decide +kernel
set_option maxHeartbeats 4000000 in
set_option maxRecDepth 100000 in
theorem c_Decl_put {dc va : Nat} {v : Nat → Int32} (hP : zP b0 N f [(dc, oDecl va), (va, aI ck 200 v)]) {fd ln x : Int32} : zK l D ck ad b0 y_Decl_put prog_2_method_3_code 5 ((some FieldType.boolean)) 1 0 0 [.ref dc, .int fd, .int ln, .int x] N f (fun r N' f' => if dsl fd ln < 0 then (r = some (.int 0) ∧ N = N' ∧ f = f') else (r = some (.int 1) ∧ N = N' ∧ f' = va_up f va (aI ck 200 (upd v (dsl fd ln).toNatClampNeg x)))) := by
  refine zM.of zG_w (by decide) (Nat.le_of_ble_eq_true rfl) ?_
  intro zp ze zst zm zar zbe zme zc X hnm hb0
  refine z_iload_n X d_Decl_put_0 rfl ?_
  refine z_iload_n X d_Decl_put_1 rfl ?_
  refine z_callS X zG_ok (c_Decl_slotOf (f := f)) d_Decl_put_2 ⟨(z_cb (n := 2) X.2.2.2.2.1 ml_Decl_22 mc_Decl_slotOf ini_Decl (by decide +kernel) rfl rfl ⟨Nat.le_of_ble_eq_true rfl, Nat.le_of_ble_eq_true rfl⟩), X.2.2.2.2.1 _ st_Decl_slotOf⟩ rfl rfl (Nat.le_of_ble_eq_true rfl) ⟨Nat.le_of_ble_eq_true rfl, Nat.le_of_ble_eq_true rfl⟩ (fun r N1 f1 hp hN1 => ?_)
  obtain ⟨rfl, rfl, rfl⟩ := hp
  refine z_istore X d_Decl_put_5 (by decide) rfl ?_
  refine z_iload X d_Decl_put_7 rfl ?_
  refine z_if_lt X 22 d_Decl_put_9 (by decide) (fun h9 => ?_) (fun h9 => ?_)
  · skip
    refine z_iconst X d_Decl_put_22 (v := 0) (by decide) ?_
    exact z_zret X d_Decl_put_23 rfl (by rw [if_pos h9]; exact ⟨rfl, rfl, rfl⟩)
  · skip
    refine z_iload X d_Decl_put_12 rfl ?_
    refine z_aload_n X d_Decl_put_14 rfl ?_
    refine z_get X d_Decl_put_15 (hP.lo 0 rfl) (hP.at 0 rfl) cl_Decl in_Decl 0 (by decide) fl_Decl_9 rfl rfl ?_
    refine z_alen X d_Decl_put_18 (hP.lo 1 rfl) (hP.at 1 rfl) (t0 := 0) rfl rfl ?_
    refine z_icmp_lt X 24 d_Decl_put_19 (by decide) (fun h19 => ?_) (fun h19 => ?_)
    · skip
      refine z_aload_n X d_Decl_put_24 rfl ?_
      refine z_get X d_Decl_put_25 (hP.lo 0 rfl) (hP.at 0 rfl) cl_Decl in_Decl 0 (by decide) fl_Decl_9 rfl rfl ?_
      refine z_iload X d_Decl_put_28 rfl ?_
      refine z_iload_n X d_Decl_put_30 rfl ?_
      refine z_iastP X d_Decl_put_31 hP 1 rfl (t0 := 0) rfl (dsl_in h9) (fun hP => ?_)
      refine z_iconst X d_Decl_put_32 (v := 1) (by decide) ?_
      exact z_zret X d_Decl_put_33 rfl (by rw [if_neg h9]; exact ⟨rfl, rfl, rfl⟩)
    · skip
      exact absurd (by have q := vp_in_iff.mp (dsl_in h9); rw [Int32.lt_iff_toInt_lt]; exact q.2) h19
theorem d_Decl_sumOf_0 : decode prog_2_method_5_code 0 = .ok (.iconst 0, 1) := by decide +kernel
theorem d_Decl_sumOf_1 : decode prog_2_method_5_code 1 = .ok (.istore_n 2, 1) := by decide +kernel
theorem d_Decl_sumOf_2 : decode prog_2_method_5_code 2 = .ok (.iconst 1, 1) := by decide +kernel
theorem d_Decl_sumOf_3 : decode prog_2_method_5_code 3 = .ok (.istore_n 3, 1) := by decide +kernel
theorem d_Decl_sumOf_4 : decode prog_2_method_5_code 4 = .ok (.iload_n 3, 1) := by decide +kernel
theorem d_Decl_sumOf_5 : decode prog_2_method_5_code 5 = .ok (.bipush 10, 2) := by decide +kernel
theorem d_Decl_sumOf_7 : decode prog_2_method_5_code 7 = .ok (.if_icmp .ge 33, 3) := by decide +kernel
theorem d_Decl_sumOf_10 : decode prog_2_method_5_code 10 = .ok (.aload_n 0, 1) := by decide +kernel
theorem d_Decl_sumOf_11 : decode prog_2_method_5_code 11 = .ok (.iload_n 1, 1) := by decide +kernel
theorem d_Decl_sumOf_12 : decode prog_2_method_5_code 12 = .ok (.iload_n 3, 1) := by decide +kernel
theorem d_Decl_sumOf_13 : decode prog_2_method_5_code 13 = .ok (.invokevirtual 26, 3) := by decide +kernel
theorem d_Decl_sumOf_16 : decode prog_2_method_5_code 16 = .ok (.istore 4, 2) := by decide +kernel
theorem d_Decl_sumOf_18 : decode prog_2_method_5_code 18 = .ok (.iload_n 2, 1) := by decide +kernel
theorem d_Decl_sumOf_19 : decode prog_2_method_5_code 19 = .ok (.iload 4, 2) := by decide +kernel
theorem d_Decl_sumOf_21 : decode prog_2_method_5_code 21 = .ok (.ldc 15, 2) := by decide +kernel
theorem d_Decl_sumOf_23 : decode prog_2_method_5_code 23 = .ok (.if_icmp .ne 7, 3) := by decide +kernel
theorem d_Decl_sumOf_26 : decode prog_2_method_5_code 26 = .ok (.iconst 0, 1) := by decide +kernel
theorem d_Decl_sumOf_27 : decode prog_2_method_5_code 27 = .ok (.goto 5, 3) := by decide +kernel
theorem d_Decl_sumOf_30 : decode prog_2_method_5_code 30 = .ok (.iload 4, 2) := by decide +kernel
theorem d_Decl_sumOf_32 : decode prog_2_method_5_code 32 = .ok (.iadd, 1) := by decide +kernel
theorem d_Decl_sumOf_33 : decode prog_2_method_5_code 33 = .ok (.istore_n 2, 1) := by decide +kernel
theorem d_Decl_sumOf_34 : decode prog_2_method_5_code 34 = .ok (.iinc 3 1, 3) := by decide +kernel
theorem d_Decl_sumOf_37 : decode prog_2_method_5_code 37 = .ok (.goto (-33), 3) := by decide +kernel
theorem d_Decl_sumOf_40 : decode prog_2_method_5_code 40 = .ok (.iload_n 2, 1) := by decide +kernel
theorem d_Decl_sumOf_41 : decode prog_2_method_5_code 41 = .ok (.ireturn, 1) := by decide +kernel
set_option maxHeartbeats 4000000 in
set_option maxRecDepth 100000 in
theorem c_Decl_sumOf {dc va : Nat} {v : Nat → Int32} (hP : zP b0 N f [(dc, oDecl va), (va, aI ck 200 v)]) {fd : Int32} : zK l D ck ad b0 y_Decl_sumOf prog_2_method_5_code 5 ((some FieldType.int)) 2 0 0 [.ref dc, .int fd] N f (fun r N' f' => r = some (.int (dsum v fd 9)) ∧ N = N' ∧ f = f') := by
  refine zM.of zG_w (by decide) (Nat.le_of_ble_eq_true rfl) ?_
  intro zp ze zst zm zar zbe zme zc X hnm hb0
  have L4 : ∀ (nn : Nat) (k : Nat), (k ≤ 9 ∧ k + nn = 10) → zW zp l ze (zR 2 0 0) zst zm zar zbe zme zc D zcl b0 5 0 0 (MQ zbe (zQ D zcl b0 (fun r N' f' => r = some (.int (dsum v fd 9)) ∧ N = N' ∧ f = f')) zar zst 0 0 (zA b0)) N f 4 [(0, .ref dc), (1, .int fd), (2, .int (dsum v fd k)), (3, .int (nI (k + 1)))] [] := by
    intro nn
    induction nn with
    | zero =>
      intro k hk
      omega
    | succ nn ih =>
      intro k hk
      refine z_iload_n X d_Decl_sumOf_4 rfl ?_
      refine z_bipush X d_Decl_sumOf_5 (v := 10) (by decide) ?_
      refine z_icmp_ge X 40 d_Decl_sumOf_7 (by decide) (fun h7 => ?_) (fun h7 => ?_)
      · skip
        have hk9 : k = 9 := by have := (nI_leI (a := 10) (b := k + 1) (by decide) (by omega)).mp h7; omega
        subst hk9
        refine z_iload_n X d_Decl_sumOf_40 rfl ?_
        exact z_iret X d_Decl_sumOf_41 ⟨rfl, rfl, rfl⟩
      · skip
        have hk9 : k < 9 := by
          rcases Nat.lt_or_ge k 9 with q | q
          · exact q
          · exact absurd (nI_le (a := 10) (b := k + 1) (by omega) (by omega)) h7
        refine z_aload_n X d_Decl_sumOf_10 rfl ?_
        refine z_iload_n X d_Decl_sumOf_11 rfl ?_
        refine z_iload_n X d_Decl_sumOf_12 rfl ?_
        refine z_callV X zG_ok (c_Decl_valueOn hP) d_Decl_sumOf_13 ⟨(z_cb (n := 2) X.2.2.2.2.1 ml_Decl_26 mc_Decl_valueOn ini_Decl (by decide +kernel) rfl rfl ⟨Nat.le_of_ble_eq_true rfl, Nat.le_of_ble_eq_true rfl⟩), X.2.2.2.2.1 _ im_Decl_valueOn, X.2.2.2.2.1 _ sel_Decl_valueOn⟩ (hP.lo 0 rfl) (hP.at 0 rfl) cl_Decl rfl rfl (Nat.le_of_ble_eq_true rfl) ⟨Nat.le_of_ble_eq_true rfl, Nat.le_of_ble_eq_true rfl⟩ (fun r N1 f1 hp hN1 => ?_)
        obtain ⟨rfl, rfl, rfl⟩ := hp
        refine z_istore X d_Decl_sumOf_16 (by decide) rfl ?_
        refine z_iload_n X d_Decl_sumOf_18 rfl ?_
        refine z_iload X d_Decl_sumOf_19 rfl ?_
        refine z_ldc X d_Decl_sumOf_21 k_Decl_15 ?_
        refine z_icmp_ne X 30 d_Decl_sumOf_23 (by decide) (fun h23 => ?_) (fun h23 => ?_)
        · skip
          refine z_iload X d_Decl_sumOf_30 rfl ?_
          refine z_iadd X d_Decl_sumOf_32 ?_
          refine z_istore_n X d_Decl_sumOf_33 (by decide) rfl ?_
          refine z_iinc X d_Decl_sumOf_34 rfl (nI_1 _) (by decide) rfl ?_
          refine z_goto X 4 d_Decl_sumOf_37 (by decide) ?_
          refine zW.pick [0, 1, 2, 3] (lv' := [(0, .ref dc), (1, .int fd), (2, .int (dsum v fd (k + 1))), (3, .int (nI (k + 2)))]) (by first | (rw [dsum, if_pos h23]; rfl) | (rw [dsum, if_neg h23]; rfl)) ?_
          exact ih (k + 1) (by omega)
        · skip
          refine z_iconst X d_Decl_sumOf_26 (v := 0) (by decide) ?_
          refine z_goto X 32 d_Decl_sumOf_27 (by decide) ?_
          refine z_iadd X d_Decl_sumOf_32 ?_
          refine z_istore_n X d_Decl_sumOf_33 (by decide) rfl ?_
          refine z_iinc X d_Decl_sumOf_34 rfl (nI_1 _) (by decide) rfl ?_
          refine z_goto X 4 d_Decl_sumOf_37 (by decide) ?_
          refine zW.pick [0, 1, 2, 3] (lv' := [(0, .ref dc), (1, .int fd), (2, .int (dsum v fd (k + 1))), (3, .int (nI (k + 2)))]) (by first | (rw [dsum, if_pos h23]; rfl) | (rw [dsum, if_neg h23]; rfl)) ?_
          exact ih (k + 1) (by omega)
  refine z_iconst X d_Decl_sumOf_0 (v := 0) (by decide) ?_
  refine z_istore_n X d_Decl_sumOf_1 (by decide) rfl ?_
  refine z_iconst X d_Decl_sumOf_2 (v := 1) (by decide) ?_
  refine z_istore_n X d_Decl_sumOf_3 (by decide) rfl ?_
  exact L4 10 0 (by omega)
theorem d_Decl_countOf_0 : decode prog_2_method_6_code 0 = .ok (.iconst 0, 1) := by decide +kernel
theorem d_Decl_countOf_1 : decode prog_2_method_6_code 1 = .ok (.istore_n 2, 1) := by decide +kernel
theorem d_Decl_countOf_2 : decode prog_2_method_6_code 2 = .ok (.iconst 1, 1) := by decide +kernel
theorem d_Decl_countOf_3 : decode prog_2_method_6_code 3 = .ok (.istore_n 3, 1) := by decide +kernel
theorem d_Decl_countOf_4 : decode prog_2_method_6_code 4 = .ok (.iload_n 3, 1) := by decide +kernel
theorem d_Decl_countOf_5 : decode prog_2_method_6_code 5 = .ok (.bipush 10, 2) := by decide +kernel
theorem d_Decl_countOf_7 : decode prog_2_method_6_code 7 = .ok (.if_icmp .ge 28, 3) := by decide +kernel
theorem d_Decl_countOf_10 : decode prog_2_method_6_code 10 = .ok (.iload_n 2, 1) := by decide +kernel
theorem d_Decl_countOf_11 : decode prog_2_method_6_code 11 = .ok (.aload_n 0, 1) := by decide +kernel
theorem d_Decl_countOf_12 : decode prog_2_method_6_code 12 = .ok (.iload_n 1, 1) := by decide +kernel
theorem d_Decl_countOf_13 : decode prog_2_method_6_code 13 = .ok (.iload_n 3, 1) := by decide +kernel
theorem d_Decl_countOf_14 : decode prog_2_method_6_code 14 = .ok (.invokevirtual 26, 3) := by decide +kernel
theorem d_Decl_countOf_17 : decode prog_2_method_6_code 17 = .ok (.ldc 15, 2) := by decide +kernel
theorem d_Decl_countOf_19 : decode prog_2_method_6_code 19 = .ok (.if_icmp .ne 7, 3) := by decide +kernel
theorem d_Decl_countOf_22 : decode prog_2_method_6_code 22 = .ok (.iconst 0, 1) := by decide +kernel
theorem d_Decl_countOf_23 : decode prog_2_method_6_code 23 = .ok (.goto 4, 3) := by decide +kernel
theorem d_Decl_countOf_26 : decode prog_2_method_6_code 26 = .ok (.iconst 1, 1) := by decide +kernel
theorem d_Decl_countOf_27 : decode prog_2_method_6_code 27 = .ok (.iadd, 1) := by decide +kernel
theorem d_Decl_countOf_28 : decode prog_2_method_6_code 28 = .ok (.istore_n 2, 1) := by decide +kernel
theorem d_Decl_countOf_29 : decode prog_2_method_6_code 29 = .ok (.iinc 3 1, 3) := by decide +kernel
theorem d_Decl_countOf_32 : decode prog_2_method_6_code 32 = .ok (.goto (-28), 3) := by decide +kernel
theorem d_Decl_countOf_35 : decode prog_2_method_6_code 35 = .ok (.iload_n 2, 1) := by decide +kernel
theorem d_Decl_countOf_36 : decode prog_2_method_6_code 36 = .ok (.ireturn, 1) := by decide +kernel
set_option maxHeartbeats 4000000 in
set_option maxRecDepth 100000 in
theorem c_Decl_countOf {dc va : Nat} {v : Nat → Int32} (hP : zP b0 N f [(dc, oDecl va), (va, aI ck 200 v)]) {fd : Int32} : zK l D ck ad b0 y_Decl_countOf prog_2_method_6_code 4 ((some FieldType.int)) 2 0 0 [.ref dc, .int fd] N f (fun r N' f' => r = some (.int (dcnt v fd 9)) ∧ N = N' ∧ f = f') := by
  refine zM.of zG_w (by decide) (Nat.le_of_ble_eq_true rfl) ?_
  intro zp ze zst zm zar zbe zme zc X hnm hb0
  have L4 : ∀ (nn : Nat) (k : Nat), (k ≤ 9 ∧ k + nn = 10) → zW zp l ze (zR 2 0 0) zst zm zar zbe zme zc D zcl b0 4 0 0 (MQ zbe (zQ D zcl b0 (fun r N' f' => r = some (.int (dcnt v fd 9)) ∧ N = N' ∧ f = f')) zar zst 0 0 (zA b0)) N f 4 [(0, .ref dc), (1, .int fd), (2, .int (dcnt v fd k)), (3, .int (nI (k + 1)))] [] := by
    intro nn
    induction nn with
    | zero =>
      intro k hk
      omega
    | succ nn ih =>
      intro k hk
      refine z_iload_n X d_Decl_countOf_4 rfl ?_
      refine z_bipush X d_Decl_countOf_5 (v := 10) (by decide) ?_
      refine z_icmp_ge X 35 d_Decl_countOf_7 (by decide) (fun h7 => ?_) (fun h7 => ?_)
      · skip
        have hk9 : k = 9 := by have := (nI_leI (a := 10) (b := k + 1) (by decide) (by omega)).mp h7; omega
        subst hk9
        refine z_iload_n X d_Decl_countOf_35 rfl ?_
        exact z_iret X d_Decl_countOf_36 ⟨rfl, rfl, rfl⟩
      · skip
        have hk9 : k < 9 := by
          rcases Nat.lt_or_ge k 9 with q | q
          · exact q
          · exact absurd (nI_le (a := 10) (b := k + 1) (by omega) (by omega)) h7
        refine z_iload_n X d_Decl_countOf_10 rfl ?_
        refine z_aload_n X d_Decl_countOf_11 rfl ?_
        refine z_iload_n X d_Decl_countOf_12 rfl ?_
        refine z_iload_n X d_Decl_countOf_13 rfl ?_
        refine z_callV X zG_ok (c_Decl_valueOn hP) d_Decl_countOf_14 ⟨(z_cb (n := 2) X.2.2.2.2.1 ml_Decl_26 mc_Decl_valueOn ini_Decl (by decide +kernel) rfl rfl ⟨Nat.le_of_ble_eq_true rfl, Nat.le_of_ble_eq_true rfl⟩), X.2.2.2.2.1 _ im_Decl_valueOn, X.2.2.2.2.1 _ sel_Decl_valueOn⟩ (hP.lo 0 rfl) (hP.at 0 rfl) cl_Decl rfl rfl (Nat.le_of_ble_eq_true rfl) ⟨Nat.le_of_ble_eq_true rfl, Nat.le_of_ble_eq_true rfl⟩ (fun r N1 f1 hp hN1 => ?_)
        obtain ⟨rfl, rfl, rfl⟩ := hp
        refine z_ldc X d_Decl_countOf_17 k_Decl_15 ?_
        refine z_icmp_ne X 26 d_Decl_countOf_19 (by decide) (fun h19 => ?_) (fun h19 => ?_)
        · skip
          refine z_iconst X d_Decl_countOf_26 (v := 1) (by decide) ?_
          refine z_iadd X d_Decl_countOf_27 ?_
          refine z_istore_n X d_Decl_countOf_28 (by decide) rfl ?_
          refine z_iinc X d_Decl_countOf_29 rfl (nI_1 _) (by decide) rfl ?_
          refine z_goto X 4 d_Decl_countOf_32 (by decide) ?_
          refine zW.pick [0, 1, 2, 3] (lv' := [(0, .ref dc), (1, .int fd), (2, .int (dcnt v fd (k + 1))), (3, .int (nI (k + 2)))]) (by first | (rw [dcnt, if_pos h19]; rfl) | (rw [dcnt, if_neg h19]; rfl)) ?_
          exact ih (k + 1) (by omega)
        · skip
          refine z_iconst X d_Decl_countOf_22 (v := 0) (by decide) ?_
          refine z_goto X 27 d_Decl_countOf_23 (by decide) ?_
          refine z_iadd X d_Decl_countOf_27 ?_
          refine z_istore_n X d_Decl_countOf_28 (by decide) rfl ?_
          refine z_iinc X d_Decl_countOf_29 rfl (nI_1 _) (by decide) rfl ?_
          refine z_goto X 4 d_Decl_countOf_32 (by decide) ?_
          refine zW.pick [0, 1, 2, 3] (lv' := [(0, .ref dc), (1, .int fd), (2, .int (dcnt v fd (k + 1))), (3, .int (nI (k + 2)))]) (by first | (rw [dcnt, if_pos h19]; rfl) | (rw [dcnt, if_neg h19]; rfl)) ?_
          exact ih (k + 1) (by omega)
  refine z_iconst X d_Decl_countOf_0 (v := 0) (by decide) ?_
  refine z_istore_n X d_Decl_countOf_1 (by decide) rfl ?_
  refine z_iconst X d_Decl_countOf_2 (v := 1) (by decide) ?_
  refine z_istore_n X d_Decl_countOf_3 (by decide) rfl ?_
  exact L4 10 0 (by omega)
theorem d_Decl_lineBits_0 : decode prog_2_method_7_code 0 = .ok (.iconst 0, 1) := by decide +kernel
theorem d_Decl_lineBits_1 : decode prog_2_method_7_code 1 = .ok (.istore_n 1, 1) := by decide +kernel
theorem d_Decl_lineBits_2 : decode prog_2_method_7_code 2 = .ok (.iconst 1, 1) := by decide +kernel
theorem d_Decl_lineBits_3 : decode prog_2_method_7_code 3 = .ok (.istore_n 2, 1) := by decide +kernel
theorem d_Decl_lineBits_4 : decode prog_2_method_7_code 4 = .ok (.iload_n 2, 1) := by decide +kernel
theorem d_Decl_lineBits_5 : decode prog_2_method_7_code 5 = .ok (.bipush 10, 2) := by decide +kernel
theorem d_Decl_lineBits_7 : decode prog_2_method_7_code 7 = .ok (.if_icmp .ge 40, 3) := by decide +kernel
theorem d_Decl_lineBits_10 : decode prog_2_method_7_code 10 = .ok (.iconst 0, 1) := by decide +kernel
theorem d_Decl_lineBits_11 : decode prog_2_method_7_code 11 = .ok (.istore_n 3, 1) := by decide +kernel
theorem d_Decl_lineBits_12 : decode prog_2_method_7_code 12 = .ok (.iload_n 3, 1) := by decide +kernel
theorem d_Decl_lineBits_13 : decode prog_2_method_7_code 13 = .ok (.bipush 20, 2) := by decide +kernel
theorem d_Decl_lineBits_15 : decode prog_2_method_7_code 15 = .ok (.if_icmp .ge 26, 3) := by decide +kernel
theorem d_Decl_lineBits_18 : decode prog_2_method_7_code 18 = .ok (.aload_n 0, 1) := by decide +kernel
theorem d_Decl_lineBits_19 : decode prog_2_method_7_code 19 = .ok (.iload_n 3, 1) := by decide +kernel
theorem d_Decl_lineBits_20 : decode prog_2_method_7_code 20 = .ok (.iload_n 2, 1) := by decide +kernel
theorem d_Decl_lineBits_21 : decode prog_2_method_7_code 21 = .ok (.invokevirtual 26, 3) := by decide +kernel
theorem d_Decl_lineBits_24 : decode prog_2_method_7_code 24 = .ok (.ldc 15, 2) := by decide +kernel
theorem d_Decl_lineBits_26 : decode prog_2_method_7_code 26 = .ok (.if_icmp .eq 9, 3) := by decide +kernel
theorem d_Decl_lineBits_29 : decode prog_2_method_7_code 29 = .ok (.iload_n 1, 1) := by decide +kernel
theorem d_Decl_lineBits_30 : decode prog_2_method_7_code 30 = .ok (.iconst 1, 1) := by decide +kernel
theorem d_Decl_lineBits_31 : decode prog_2_method_7_code 31 = .ok (.iload_n 2, 1) := by decide +kernel
theorem d_Decl_lineBits_32 : decode prog_2_method_7_code 32 = .ok (.ishl, 1) := by decide +kernel
theorem d_Decl_lineBits_33 : decode prog_2_method_7_code 33 = .ok (.ior, 1) := by decide +kernel
theorem d_Decl_lineBits_34 : decode prog_2_method_7_code 34 = .ok (.istore_n 1, 1) := by decide +kernel
theorem d_Decl_lineBits_35 : decode prog_2_method_7_code 35 = .ok (.iinc 3 1, 3) := by decide +kernel
theorem d_Decl_lineBits_38 : decode prog_2_method_7_code 38 = .ok (.goto (-26), 3) := by decide +kernel
theorem d_Decl_lineBits_41 : decode prog_2_method_7_code 41 = .ok (.iinc 2 1, 3) := by decide +kernel
theorem d_Decl_lineBits_44 : decode prog_2_method_7_code 44 = .ok (.goto (-40), 3) := by decide +kernel
theorem d_Decl_lineBits_47 : decode prog_2_method_7_code 47 = .ok (.iload_n 1, 1) := by decide +kernel
theorem d_Decl_lineBits_48 : decode prog_2_method_7_code 48 = .ok (.ireturn, 1) := by decide +kernel
set_option maxHeartbeats 4000000 in
set_option maxRecDepth 100000 in
theorem c_Decl_lineBits {dc va : Nat} {v : Nat → Int32} (hP : zP b0 N f [(dc, oDecl va), (va, aI ck 200 v)]) : zK l D ck ad b0 y_Decl_lineBits prog_2_method_7_code 4 ((some FieldType.int)) 2 0 0 [.ref dc] N f (fun r N' f' => r = some (.int (dbits v 9)) ∧ N = N' ∧ f = f') := by
  refine zM.of zG_w (by decide) (Nat.le_of_ble_eq_true rfl) ?_
  intro zp ze zst zm zar zbe zme zc X hnm hb0
  have L12 : ∀ (nn : Nat) (j ln : Nat) (bits : Int32), (j ≤ 20 ∧ j + nn = 21) → (zW zp l ze (zR 2 0 0) zst zm zar zbe zme zc D zcl b0 4 0 0 (MQ zbe (zQ D zcl b0 (fun r N' f' => r = some (.int (dbits v 9)) ∧ N = N' ∧ f = f')) zar zst 0 0 (zA b0)) N f 41 [(0, .ref dc), (1, .int (dbit v ln bits 20)), (2, .int (nI ln)), (3, .int (nI 20))] []) → zW zp l ze (zR 2 0 0) zst zm zar zbe zme zc D zcl b0 4 0 0 (MQ zbe (zQ D zcl b0 (fun r N' f' => r = some (.int (dbits v 9)) ∧ N = N' ∧ f = f')) zar zst 0 0 (zA b0)) N f 12 [(0, .ref dc), (1, .int (dbit v ln bits j)), (2, .int (nI ln)), (3, .int (nI j))] [] := by
    intro nn
    induction nn with
    | zero =>
      intro j ln bits hj0 hex
      omega
    | succ nn ih =>
      intro j ln bits hj0 hex
      refine z_iload_n X d_Decl_lineBits_12 rfl ?_
      refine z_bipush X d_Decl_lineBits_13 (v := 20) (by decide) ?_
      refine z_icmp_ge X 41 d_Decl_lineBits_15 (by decide) (fun h15 => ?_) (fun h15 => ?_)
      · skip
        have hj : j = 20 := by have := (nI_leI (a := 20) (b := j) (by decide) (by omega)).mp h15; omega
        subst hj
        exact hex
      · skip
        have hj : j < 20 := by
          rcases Nat.lt_or_ge j 20 with q | q
          · exact q
          · exact absurd (nI_le (a := 20) (b := j) (by omega) (by omega)) h15
        refine z_aload_n X d_Decl_lineBits_18 rfl ?_
        refine z_iload_n X d_Decl_lineBits_19 rfl ?_
        refine z_iload_n X d_Decl_lineBits_20 rfl ?_
        refine z_callV X zG_ok (c_Decl_valueOn hP) d_Decl_lineBits_21 ⟨(z_cb (n := 2) X.2.2.2.2.1 ml_Decl_26 mc_Decl_valueOn ini_Decl (by decide +kernel) rfl rfl ⟨Nat.le_of_ble_eq_true rfl, Nat.le_of_ble_eq_true rfl⟩), X.2.2.2.2.1 _ im_Decl_valueOn, X.2.2.2.2.1 _ sel_Decl_valueOn⟩ (hP.lo 0 rfl) (hP.at 0 rfl) cl_Decl rfl rfl (Nat.le_of_ble_eq_true rfl) ⟨Nat.le_of_ble_eq_true rfl, Nat.le_of_ble_eq_true rfl⟩ (fun r N1 f1 hp hN1 => ?_)
        obtain ⟨rfl, rfl, rfl⟩ := hp
        refine z_ldc X d_Decl_lineBits_24 k_Decl_15 ?_
        refine z_icmp_eq X 35 d_Decl_lineBits_26 (by decide) (fun h26 => ?_) (fun h26 => ?_)
        · skip
          refine z_iinc X d_Decl_lineBits_35 rfl (nI_1 _) (by decide) rfl ?_
          refine z_goto X 12 d_Decl_lineBits_38 (by decide) ?_
          refine zW.pick [0, 1, 2, 3] (lv' := [(0, .ref dc), (1, .int (dbit v ln bits (j + 1))), (2, .int (nI ln)), (3, .int (nI (j + 1)))]) (by first | (rw [dbit, if_pos h26]; rfl) | (rw [dbit, if_neg h26]; rfl)) ?_
          exact ih (j + 1) ln bits (by omega) hex
        · skip
          refine z_iload_n X d_Decl_lineBits_29 rfl ?_
          refine z_iconst X d_Decl_lineBits_30 (v := 1) (by decide) ?_
          refine z_iload_n X d_Decl_lineBits_31 rfl ?_
          refine z_ishl X d_Decl_lineBits_32 ?_
          refine z_ior X d_Decl_lineBits_33 ?_
          refine z_istore_n X d_Decl_lineBits_34 (by decide) rfl ?_
          refine z_iinc X d_Decl_lineBits_35 rfl (nI_1 _) (by decide) rfl ?_
          refine z_goto X 12 d_Decl_lineBits_38 (by decide) ?_
          refine zW.pick [0, 1, 2, 3] (lv' := [(0, .ref dc), (1, .int (dbit v ln bits (j + 1))), (2, .int (nI ln)), (3, .int (nI (j + 1)))]) (by first | (rw [dbit, if_pos h26]; rfl) | (rw [dbit, if_neg h26]; rfl)) ?_
          exact ih (j + 1) ln bits (by omega) hex
  have L4 : ∀ (nn : Nat) (k : Nat), (k ≤ 9 ∧ k + nn = 10) → zW zp l ze (zR 2 0 0) zst zm zar zbe zme zc D zcl b0 4 0 0 (MQ zbe (zQ D zcl b0 (fun r N' f' => r = some (.int (dbits v 9)) ∧ N = N' ∧ f = f')) zar zst 0 0 (zA b0)) N f 4 [(0, .ref dc), (1, .int (dbits v k)), (2, .int (nI (k + 1)))] [] := by
    intro nn
    induction nn with
    | zero =>
      intro k hk
      omega
    | succ nn ih =>
      intro k hk
      refine z_iload_n X d_Decl_lineBits_4 rfl ?_
      refine z_bipush X d_Decl_lineBits_5 (v := 10) (by decide) ?_
      refine z_icmp_ge X 47 d_Decl_lineBits_7 (by decide) (fun h7 => ?_) (fun h7 => ?_)
      · skip
        have hk9 : k = 9 := by have := (nI_leI (a := 10) (b := k + 1) (by decide) (by omega)).mp h7; omega
        subst hk9
        refine z_iload_n X d_Decl_lineBits_47 rfl ?_
        exact z_iret X d_Decl_lineBits_48 ⟨rfl, rfl, rfl⟩
      · skip
        have hk9 : k < 9 := by
          rcases Nat.lt_or_ge k 9 with q | q
          · exact q
          · exact absurd (nI_le (a := 10) (b := k + 1) (by omega) (by omega)) h7
        refine z_iconst X d_Decl_lineBits_10 (v := 0) (by decide) ?_
        refine z_istore_n X d_Decl_lineBits_11 (by decide) rfl ?_
        refine L12 21 0 (k + 1) (dbits v k) (by omega) ?_
        refine z_iinc X d_Decl_lineBits_41 rfl (nI_1 _) (by decide) rfl ?_
        refine z_goto X 4 d_Decl_lineBits_44 (by decide) ?_
        refine zW.pick [0, 1, 2] (lv' := [(0, .ref dc), (1, .int (dbits v (k + 1))), (2, .int (nI (k + 2)))]) rfl ?_
        exact ih (k + 1) (by omega)
  refine z_iconst X d_Decl_lineBits_0 (v := 0) (by decide) ?_
  refine z_istore_n X d_Decl_lineBits_1 (by decide) rfl ?_
  refine z_iconst X d_Decl_lineBits_2 (v := 1) (by decide) ?_
  refine z_istore_n X d_Decl_lineBits_3 (by decide) rfl ?_
  exact L4 10 0 (by omega)
end
