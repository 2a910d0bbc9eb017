section ZMX
variable {p : Program} {l : Launch} {e : Env} {R : Room} {s : State} {m : MethodId} {args : Array Value} {below : List Frame} {meth : Method} {c : Code} {cells slots : Nat} {Q : State → Prop} {D : va_G} {cl : List vw_C} {tys : List (ClassId × FieldType)} {b0 : Nat} {G : State → Prop} {cc : ByteArray} {nL : Nat} {own : String} {Ts : List Cond} {ret : Option FieldType} {N : Nat} {f : Nat → va_E} {pc : Nat} {lv : List (Nat × Value)} {st : List Value}
theorem z_mmax (X : zX p s m args meth c D cl tys b0 G cc nL own Ts ret) {index : Nat} {x y : Int32} (hdg : decode cc pc = .ok (.invokestatic index, 3)) (h1 : Cond.methodLink own index Lib.Math.max.name ∈ Ts) (h2 : Cond.static Lib.Math.max.name ∈ Ts) (h3 : Cond.initialized "java/lang/Math" ∈ Ts) (h4 : Cond.code Lib.Math.max.name Lib.Math.max.code 2 (some .int) ∈ Ts) (hfr : 1 ≤ R.frames) (hlo : (st.map fun v => v.category).sum + 13 ≤ R.locals) (hc : cells ≤ R.cells) (hs : slots ≤ R.slots)
    (kk : zW p l e R s m args below meth c D cl b0 nL cells slots Q N f (pc + 3) lv (.int (if x < y then y else x) :: st)) : zW p l e R s m args below meth c D cl b0 nL cells slots Q N f pc lv (.int y :: .int x :: st) := fun H locs ls hH hS hL => va_mmax X.1 X.2.1 (by rw [X.2.2.1]; exact hL.1.symm) X.2.2.2.1 (X.2.2.2.2.1 _ h1) (X.2.2.2.2.1 _ h2) (X.2.2.2.2.1 _ h3) (X.2.2.2.2.1 _ h4) hfr hlo hc hs hdg (kk H locs ls hH hS hL)
end ZMX
/-- indexOf on what is left of a text, from place k on -/
def zix (c : Int32) : List Int32 → Nat → Int32
  | [], _ => -1
  | b :: l, k => if b = c then nI k else zix c l (k + 1)
theorem zix_none {c : Int32} : ∀ {l : List Int32} {k : Nat}, (∀ b ∈ l, ¬ b = c) → zix c l k = -1
  | [], _, _ => rfl
  | b :: l, k, h => by
    rw [zix, if_neg (h b List.mem_cons_self)]
    exact zix_none (fun b hb => h b (List.mem_cons_of_mem _ hb))
theorem zdrop {l : List Int32} {k : Nat} (h : k < l.length) : l.drop k = l.getD k 0 :: l.drop (k + 1) := by
  rw [List.drop_eq_getElem_cons h, List.getD_eq_getElem?_getD, List.getElem?_eq_getElem h]
  rfl
/-- bytes of literals are below 128 -/
theorem zSb_lo : ∀ j, j < 16 → ∀ b ∈ zSb j, 0 ≤ b.toInt ∧ b.toInt < 128 := by decide +kernel
theorem zSb_pos : ∀ j, j < 16 → 0 < (zSb j).length := by decide +kernel
theorem zix_out {j : Nat} (hj : j < 16) {x : Int32} (h : x < 0 ∨ 255 < x) : zix x (zSb j) 0 = -1 := by
  refine zix_none (fun b hb e => ?_)
  obtain ⟨a1, a2⟩ := zSb_lo j hj b hb
  rw [e] at a1 a2
  rcases h with z | z
  · rw [Int32.lt_iff_toInt_lt] at z
    simp at z
    omega
  · rw [Int32.lt_iff_toInt_lt] at z
    have h9 : (255 : Int32).toInt = 255 := rfl
    omega
theorem zch : ∀ n, n < 256 → ∀ m, m < 128 → ((nI n).toInt8.toInt32 = nI m ↔ n = m) := by decide +kernel
section
variable {l : Launch} {D : va_G} {ck : Nat → ClassId} {ad : (Nat → Nat) × (Nat → Nat)} {b0 N : Nat} {f : Nat → va_E}
variable {j : Nat}
theorem d_String_isLatin1_0 : decode prog_19_method_154_code 0 = .ok (.getstatic 38, 3) := by decide +kernel
theorem d_String_isLatin1_3 : decode prog_19_method_154_code 3 = .ok (.ifCond .eq 14, 3) := by decide +kernel
theorem d_String_isLatin1_6 : decode prog_19_method_154_code 6 = .ok (.aload_n 0, 1) := by decide +kernel
theorem d_String_isLatin1_7 : decode prog_19_method_154_code 7 = .ok (.getfield 15, 3) := by decide +kernel
theorem d_String_isLatin1_10 : decode prog_19_method_154_code 10 = .ok (.ifCond .ne 7, 3) := by decide +kernel
theorem d_String_isLatin1_13 : decode prog_19_method_154_code 13 = .ok (.iconst 1, 1) := by decide +kernel
theorem d_String_isLatin1_14 : decode prog_19_method_154_code 14 = .ok (.goto 4, 3) := by decide +kernel
theorem d_String_isLatin1_17 : decode prog_19_method_154_code 17 = .ok (.iconst 0, 1) := by decide +kernel
theorem d_String_isLatin1_18 : decode prog_19_method_154_code 18 = .ok (.ireturn, 1) := by decide +kernel
set_option maxHeartbeats 4000000 in
set_option maxRecDepth 100000 in
theorem c_String_isLatin1 (hj : j < 16) : zK l D ck ad b0 y_String_isLatin1 prog_19_method_154_code 1 ((some FieldType.boolean)) 0 0 0 [.ref (ad.1 j)] N f (fun r N' f' => r = some (.int (1)) ∧ N = N' ∧ f = f') := by
  refine zM.ofF zG_w (by decide +kernel) (Nat.le_of_ble_eq_true rfl) ?_
  intro zp ze zst zm zar zbe zme zc X hnm hb0
  refine z_gets X d_String_isLatin1_0 X.2.2.2.2.2.1.2.2.2.2.1 fl_String_38 rfl ?_
  refine z_if_eq X 17 d_String_isLatin1_3 (by decide) (fun h3 => ?_) (fun h3 => ?_)
  · skip
    exact absurd h3 (by decide)
  · skip
    refine z_aload_n X d_String_isLatin1_6 rfl ?_
    refine z_getK X d_String_isLatin1_7 (zG_scoder X.2.2.2.2.2.1 hj) fl_String_15 rfl ?_
    refine z_if_ne X 17 d_String_isLatin1_10 (by decide) (fun h10 => ?_) (fun h10 => ?_)
    · skip
      exact absurd rfl h10
    · skip
      refine z_iconst X d_String_isLatin1_13 (v := 1) (by decide) ?_
      refine z_goto X 18 d_String_isLatin1_14 (by decide) ?_
      exact z_zret X d_String_isLatin1_18 rfl ⟨rfl, rfl, rfl⟩
theorem d_String_coder_0 : decode prog_19_method_152_code 0 = .ok (.getstatic 38, 3) := by decide +kernel
theorem d_String_coder_3 : decode prog_19_method_152_code 3 = .ok (.ifCond .eq 10, 3) := by decide +kernel
theorem d_String_coder_6 : decode prog_19_method_152_code 6 = .ok (.aload_n 0, 1) := by decide +kernel
theorem d_String_coder_7 : decode prog_19_method_152_code 7 = .ok (.getfield 15, 3) := by decide +kernel
theorem d_String_coder_10 : decode prog_19_method_152_code 10 = .ok (.goto 4, 3) := by decide +kernel
theorem d_String_coder_13 : decode prog_19_method_152_code 13 = .ok (.iconst 1, 1) := by decide +kernel
theorem d_String_coder_14 : decode prog_19_method_152_code 14 = .ok (.ireturn, 1) := by decide +kernel
set_option maxHeartbeats 4000000 in
set_option maxRecDepth 100000 in
theorem c_String_coder (hj : j < 16) : zK l D ck ad b0 y_String_coder prog_19_method_152_code 1 ((some FieldType.byte)) 0 0 0 [.ref (ad.1 j)] N f (fun r N' f' => r = some (.int (0)) ∧ N = N' ∧ f = f') := by
  refine zM.ofF zG_w (by decide +kernel) (Nat.le_of_ble_eq_true rfl) ?_
  intro zp ze zst zm zar zbe zme zc X hnm hb0
  refine z_gets X d_String_coder_0 X.2.2.2.2.2.1.2.2.2.2.1 fl_String_38 rfl ?_
  refine z_if_eq X 13 d_String_coder_3 (by decide) (fun h3 => ?_) (fun h3 => ?_)
  · skip
    exact absurd h3 (by decide)
  · skip
    refine z_aload_n X d_String_coder_6 rfl ?_
    refine z_getK X d_String_coder_7 (zG_scoder X.2.2.2.2.2.1 hj) fl_String_15 rfl ?_
    refine z_goto X 14 d_String_coder_10 (by decide) ?_
    exact z_nret X d_String_coder_14 rfl ⟨rfl, rfl, rfl⟩
theorem d_String_length_0 : decode prog_19_method_54_code 0 = .ok (.aload_n 0, 1) := by decide +kernel
theorem d_String_length_1 : decode prog_19_method_54_code 1 = .ok (.getfield 9, 3) := by decide +kernel
theorem d_String_length_4 : decode prog_19_method_54_code 4 = .ok (.arraylength, 1) := by decide +kernel
theorem d_String_length_5 : decode prog_19_method_54_code 5 = .ok (.aload_n 0, 1) := by decide +kernel
theorem d_String_length_6 : decode prog_19_method_54_code 6 = .ok (.invokevirtual 335, 3) := by decide +kernel
theorem d_String_length_9 : decode prog_19_method_54_code 9 = .ok (.ishr, 1) := by decide +kernel
theorem d_String_length_10 : decode prog_19_method_54_code 10 = .ok (.ireturn, 1) := by decide +kernel
set_option maxHeartbeats 4000000 in
set_option maxRecDepth 100000 in
theorem c_String_length (hj : j < 16) : zK l D ck ad b0 y_String_length prog_19_method_54_code 1 ((some FieldType.int)) 1 0 0 [.ref (ad.1 j)] N f (fun r N' f' => r = some (.int (nI (zSb j).length)) ∧ N = N' ∧ f = f') := by
  refine zM.ofF zG_w (by decide +kernel) (Nat.le_of_ble_eq_true rfl) ?_
  intro zp ze zst zm zar zbe zme zc X hnm hb0
  refine z_aload_n X d_String_length_0 rfl ?_
  refine z_getK X d_String_length_1 (zG_svalue X.2.2.2.2.2.1 hj) fl_String_9 rfl ?_
  refine z_tlen X d_String_length_4 (zG_sb X.2.2.2.2.2.1 hj) rfl ?_
  refine z_aload_n X d_String_length_5 rfl ?_
  refine z_callVK X zG_ok (c_String_coder hj) d_String_length_6 ⟨(z_cb (n := 0) X.2.2.2.2.1 ml_String_335 mc_String_coder ini_String (by decide +kernel) rfl rfl ⟨Nat.le_of_ble_eq_true rfl, Nat.le_of_ble_eq_true rfl⟩), X.2.2.2.2.1 _ im_String_coder, X.2.2.2.2.1 _ sel_String_coder⟩ (zG_so X.2.2.2.2.2.1 hj) rfl rfl (Nat.le_of_ble_eq_true rfl) ⟨Nat.le_of_ble_eq_true rfl, Nat.le_of_ble_eq_true rfl⟩ (fun r N1 f1 hp hN1 => ?_)
  obtain ⟨rfl, rfl, rfl⟩ := hp
  refine z_ishr X d_String_length_9 ?_
  exact z_iret X d_String_length_10 ⟨by rw [show Int32.ofNat (zSb j).length >>> ((0 : Int32) &&& 31) = nI (zSb j).length from sc_shr0 (by have := (zSb_ok j hj).1; omega)], rfl, rfl⟩
theorem d_Preconditions_checkIndex_0 : decode prog_25_method_11_code 0 = .ok (.iload_n 0, 1) := by decide +kernel
theorem d_Preconditions_checkIndex_1 : decode prog_25_method_11_code 1 = .ok (.ifCond .lt 8, 3) := by decide +kernel
theorem d_Preconditions_checkIndex_4 : decode prog_25_method_11_code 4 = .ok (.iload_n 0, 1) := by decide +kernel
theorem d_Preconditions_checkIndex_5 : decode prog_25_method_11_code 5 = .ok (.iload_n 1, 1) := by decide +kernel
theorem d_Preconditions_checkIndex_6 : decode prog_25_method_11_code 6 = .ok (.if_icmp .lt 10, 3) := by decide +kernel
theorem d_Preconditions_checkIndex_9 : decode prog_25_method_11_code 9 = .ok (.aload_n 2, 1) := by decide +kernel
theorem d_Preconditions_checkIndex_10 : decode prog_25_method_11_code 10 = .ok (.iload_n 0, 1) := by decide +kernel
theorem d_Preconditions_checkIndex_11 : decode prog_25_method_11_code 11 = .ok (.iload_n 1, 1) := by decide +kernel
theorem d_Preconditions_checkIndex_12 : decode prog_25_method_11_code 12 = .ok (.invokestatic 95, 3) := by decide +kernel
theorem d_Preconditions_checkIndex_15 : decode prog_25_method_11_code 15 = .ok (.athrow, 1) := by decide +kernel
theorem d_Preconditions_checkIndex_16 : decode prog_25_method_11_code 16 = .ok (.iload_n 0, 1) := by decide +kernel
theorem d_Preconditions_checkIndex_17 : decode prog_25_method_11_code 17 = .ok (.ireturn, 1) := by decide +kernel
set_option maxHeartbeats 4000000 in
set_option maxRecDepth 100000 in
theorem c_Pre_ci_n {k n : Nat} (hk : k < n) (hn : n < 2 ^ 31) : zK l D ck ad b0 y_Preconditions_checkIndex prog_25_method_11_code 3 ((some FieldType.int)) 0 0 0 [.int (nI k), .int (nI n), .null] N f (fun r N' f' => r = some (.int (nI k)) ∧ N = N' ∧ f = f') := by
  refine zM.ofF zG_w (by decide +kernel) (Nat.le_of_ble_eq_true rfl) ?_
  intro zp ze zst zm zar zbe zme zc X hnm hb0
  refine z_iload_n X d_Preconditions_checkIndex_0 rfl ?_
  refine z_if_lt X 9 d_Preconditions_checkIndex_1 (by decide) (fun h1 => ?_) (fun h1 => ?_)
  · skip
    exact absurd h1 (nI_pos (by omega))
  · skip
    refine z_iload_n X d_Preconditions_checkIndex_4 rfl ?_
    refine z_iload_n X d_Preconditions_checkIndex_5 rfl ?_
    refine z_icmp_lt X 16 d_Preconditions_checkIndex_6 (by decide) (fun h6 => ?_) (fun h6 => ?_)
    · skip
      refine z_iload_n X d_Preconditions_checkIndex_16 rfl ?_
      exact z_iret X d_Preconditions_checkIndex_17 ⟨rfl, rfl, rfl⟩
    · skip
      exact absurd (nI_lt hk hn) h6
set_option maxHeartbeats 4000000 in
set_option maxRecDepth 100000 in
theorem c_Pre_ci_s {k n tq : Nat} (hk : k < n) (hn : n < 2 ^ 31) : zK l D ck ad b0 y_Preconditions_checkIndex prog_25_method_11_code 3 ((some FieldType.int)) 0 0 0 [.int (nI k), .int (nI n), .ref tq] N f (fun r N' f' => r = some (.int (nI k)) ∧ N = N' ∧ f = f') := by
  refine zM.ofF zG_w (by decide +kernel) (Nat.le_of_ble_eq_true rfl) ?_
  intro zp ze zst zm zar zbe zme zc X hnm hb0
  refine z_iload_n X d_Preconditions_checkIndex_0 rfl ?_
  refine z_if_lt X 9 d_Preconditions_checkIndex_1 (by decide) (fun h1 => ?_) (fun h1 => ?_)
  · skip
    exact absurd h1 (nI_pos (by omega))
  · skip
    refine z_iload_n X d_Preconditions_checkIndex_4 rfl ?_
    refine z_iload_n X d_Preconditions_checkIndex_5 rfl ?_
    refine z_icmp_lt X 16 d_Preconditions_checkIndex_6 (by decide) (fun h6 => ?_) (fun h6 => ?_)
    · skip
      refine z_iload_n X d_Preconditions_checkIndex_16 rfl ?_
      exact z_iret X d_Preconditions_checkIndex_17 ⟨rfl, rfl, rfl⟩
    · skip
      exact absurd (nI_lt hk hn) h6
theorem d_String_checkIndex_0 : decode prog_19_method_155_code 0 = .ok (.iload_n 0, 1) := by decide +kernel
theorem d_String_checkIndex_1 : decode prog_19_method_155_code 1 = .ok (.iload_n 1, 1) := by decide +kernel
theorem d_String_checkIndex_2 : decode prog_19_method_155_code 2 = .ok (.getstatic 1053, 3) := by decide +kernel
theorem d_String_checkIndex_5 : decode prog_19_method_155_code 5 = .ok (.invokestatic 1059, 3) := by decide +kernel
theorem d_String_checkIndex_8 : decode prog_19_method_155_code 8 = .ok (.pop, 1) := by decide +kernel
theorem d_String_checkIndex_9 : decode prog_19_method_155_code 9 = .ok (.return_, 1) := by decide +kernel
set_option maxHeartbeats 4000000 in
set_option maxRecDepth 100000 in
theorem c_String_checkIndex {k n : Nat} (hk : k < n) (hn : n < 2 ^ 31) : zK l D ck ad b0 y_String_checkIndex prog_19_method_155_code 2 (none) 1 0 0 [.int (nI k), .int (nI n)] N f (fun r N' f' => r = none ∧ N = N' ∧ f = f') := by
  refine zM.ofF zG_w (by decide +kernel) (Nat.le_of_ble_eq_true rfl) ?_
  intro zp ze zst zm zar zbe zme zc X hnm hb0
  refine z_iload_n X d_String_checkIndex_0 rfl ?_
  refine z_iload_n X d_String_checkIndex_1 rfl ?_
  refine z_getsq X d_String_checkIndex_2 X.2.2.2.2.2.1.2.2.2.2.2.2.2 fl_String_1053 rfl (fun vq hvq => ?_)
  rcases vq with _ | tq
  · skip
    refine z_callS X zG_ok (c_Pre_ci_n hk hn) d_String_checkIndex_5 ⟨(z_cb (n := 3) X.2.2.2.2.1 ml_String_1059 mc_Preconditions_checkIndex ini_Preconditions (by decide +kernel) rfl rfl ⟨Nat.le_of_ble_eq_true rfl, Nat.le_of_ble_eq_true rfl⟩), X.2.2.2.2.1 _ st_Preconditions_checkIndex⟩ rfl rfl (Nat.le_of_ble_eq_true rfl) ⟨Nat.le_of_ble_eq_true rfl, Nat.le_of_ble_eq_true rfl⟩ (fun r N1 f1 hp hN1 => ?_)
    obtain ⟨rfl, rfl, rfl⟩ := hp
    refine z_pop X d_String_checkIndex_8 rfl ?_
    exact z_vret X d_String_checkIndex_9 ⟨rfl, rfl, rfl⟩
  · skip
    refine z_callS X zG_ok (c_Pre_ci_s hk hn) d_String_checkIndex_5 ⟨(z_cb (n := 3) X.2.2.2.2.1 ml_String_1059 mc_Preconditions_checkIndex ini_Preconditions (by decide +kernel) rfl rfl ⟨Nat.le_of_ble_eq_true rfl, Nat.le_of_ble_eq_true rfl⟩), X.2.2.2.2.1 _ st_Preconditions_checkIndex⟩ rfl rfl (Nat.le_of_ble_eq_true rfl) ⟨Nat.le_of_ble_eq_true rfl, Nat.le_of_ble_eq_true rfl⟩ (fun r N1 f1 hp hN1 => ?_)
    obtain ⟨rfl, rfl, rfl⟩ := hp
    refine z_pop X d_String_checkIndex_8 rfl ?_
    exact z_vret X d_String_checkIndex_9 ⟨rfl, rfl, rfl⟩
theorem d_StringLatin1_charAt_0 : decode prog_20_method_2_code 0 = .ok (.iload_n 1, 1) := by decide +kernel
theorem d_StringLatin1_charAt_1 : decode prog_20_method_2_code 1 = .ok (.aload_n 0, 1) := by decide +kernel
theorem d_StringLatin1_charAt_2 : decode prog_20_method_2_code 2 = .ok (.arraylength, 1) := by decide +kernel
theorem d_StringLatin1_charAt_3 : decode prog_20_method_2_code 3 = .ok (.invokestatic 9, 3) := by decide +kernel
theorem d_StringLatin1_charAt_6 : decode prog_20_method_2_code 6 = .ok (.aload_n 0, 1) := by decide +kernel
theorem d_StringLatin1_charAt_7 : decode prog_20_method_2_code 7 = .ok (.iload_n 1, 1) := by decide +kernel
theorem d_StringLatin1_charAt_8 : decode prog_20_method_2_code 8 = .ok (.baload, 1) := by decide +kernel
theorem d_StringLatin1_charAt_9 : decode prog_20_method_2_code 9 = .ok (.sipush 255, 3) := by decide +kernel
theorem d_StringLatin1_charAt_12 : decode prog_20_method_2_code 12 = .ok (.iand, 1) := by decide +kernel
theorem d_StringLatin1_charAt_13 : decode prog_20_method_2_code 13 = .ok (.i2c, 1) := by decide +kernel
theorem d_StringLatin1_charAt_14 : decode prog_20_method_2_code 14 = .ok (.ireturn, 1) := by decide +kernel
set_option maxHeartbeats 4000000 in
set_option maxRecDepth 100000 in
theorem c_StringLatin1_charAt (hj : j < 16) {k : Nat} (hk : k < (zSb j).length) : zK l D ck ad b0 y_StringLatin1_charAt prog_20_method_2_code 2 ((some FieldType.char)) 2 0 0 [.ref (ad.2 j), .int (nI k)] N f (fun r N' f' => r = some (.int ((zSb j).getD k 0)) ∧ N = N' ∧ f = f') := by
  refine zM.ofF zG_w (by decide +kernel) (Nat.le_of_ble_eq_true rfl) ?_
  intro zp ze zst zm zar zbe zme zc X hnm hb0
  refine z_iload_n X d_StringLatin1_charAt_0 rfl ?_
  refine z_aload_n X d_StringLatin1_charAt_1 rfl ?_
  refine z_tlen X d_StringLatin1_charAt_2 (zG_sb X.2.2.2.2.2.1 hj) rfl ?_
  refine z_callS X zG_ok (c_String_checkIndex hk (by have := (zSb_ok j hj).1; omega)) d_StringLatin1_charAt_3 ⟨(z_cb (n := 2) X.2.2.2.2.1 ml_StringLatin1_9 mc_String_checkIndex ini_String (by decide +kernel) rfl rfl ⟨Nat.le_of_ble_eq_true rfl, Nat.le_of_ble_eq_true rfl⟩), X.2.2.2.2.1 _ st_String_checkIndex⟩ rfl rfl (Nat.le_of_ble_eq_true rfl) ⟨Nat.le_of_ble_eq_true rfl, Nat.le_of_ble_eq_true rfl⟩ (fun r N1 f1 hp hN1 => ?_)
  obtain ⟨rfl, rfl, rfl⟩ := hp
  refine z_aload_n X d_StringLatin1_charAt_6 rfl ?_
  refine z_iload_n X d_StringLatin1_charAt_7 rfl ?_
  refine z_tb X d_StringLatin1_charAt_8 (zG_sb X.2.2.2.2.2.1 hj) (vp_in_nI hk (by have := (zSb_ok j hj).1; omega)) rfl ?_
  refine z_sipush X d_StringLatin1_charAt_9 (v := 255) (by decide) ?_
  refine z_iand X d_StringLatin1_charAt_12 ?_
  refine z_i2c X d_StringLatin1_charAt_13 rfl ?_
  exact z_nret X d_StringLatin1_charAt_14 (by rw [nI_clamp (by have := (zSb_ok j hj).1; omega), ((zSb_ok j hj).2 k hk).2.1, ((zSb_ok j hj).2 k hk).2.2.1]; have e := ((zSb_ok j hj).2 k hk).2.2.2; rw [vp_nar_char] at e; exact congrArg Value.int e) ⟨by rw [nI_clamp (by have := (zSb_ok j hj).1; omega), ((zSb_ok j hj).2 k hk).2.1, ((zSb_ok j hj).2 k hk).2.2.1], rfl, rfl⟩
theorem d_String_charAt_0 : decode prog_19_method_56_code 0 = .ok (.aload_n 0, 1) := by decide +kernel
theorem d_String_charAt_1 : decode prog_19_method_56_code 1 = .ok (.invokevirtual 492, 3) := by decide +kernel
theorem d_String_charAt_4 : decode prog_19_method_56_code 4 = .ok (.ifCond .eq 12, 3) := by decide +kernel
theorem d_String_charAt_7 : decode prog_19_method_56_code 7 = .ok (.aload_n 0, 1) := by decide +kernel
theorem d_String_charAt_8 : decode prog_19_method_56_code 8 = .ok (.getfield 9, 3) := by decide +kernel
theorem d_String_charAt_11 : decode prog_19_method_56_code 11 = .ok (.iload_n 1, 1) := by decide +kernel
theorem d_String_charAt_12 : decode prog_19_method_56_code 12 = .ok (.invokestatic 495, 3) := by decide +kernel
theorem d_String_charAt_15 : decode prog_19_method_56_code 15 = .ok (.ireturn, 1) := by decide +kernel
theorem d_String_charAt_16 : decode prog_19_method_56_code 16 = .ok (.aload_n 0, 1) := by decide +kernel
theorem d_String_charAt_17 : decode prog_19_method_56_code 17 = .ok (.getfield 9, 3) := by decide +kernel
theorem d_String_charAt_20 : decode prog_19_method_56_code 20 = .ok (.iload_n 1, 1) := by decide +kernel
theorem d_String_charAt_21 : decode prog_19_method_56_code 21 = .ok (.invokestatic 498, 3) := by decide +kernel
theorem d_String_charAt_24 : decode prog_19_method_56_code 24 = .ok (.ireturn, 1) := by decide +kernel
set_option maxHeartbeats 4000000 in
set_option maxRecDepth 100000 in
theorem c_String_charAt (hj : j < 16) {k : Nat} (hk : k < (zSb j).length) : zK l D ck ad b0 y_String_charAt prog_19_method_56_code 2 ((some FieldType.char)) 3 0 0 [.ref (ad.1 j), .int (nI k)] N f (fun r N' f' => r = some (.int ((zSb j).getD k 0)) ∧ N = N' ∧ f = f') := by
  refine zM.ofF zG_w (by decide +kernel) (Nat.le_of_ble_eq_true rfl) ?_
  intro zp ze zst zm zar zbe zme zc X hnm hb0
  refine z_aload_n X d_String_charAt_0 rfl ?_
  refine z_callVK X zG_ok (c_String_isLatin1 hj) d_String_charAt_1 ⟨(z_cb (n := 0) X.2.2.2.2.1 ml_String_492 mc_String_isLatin1 ini_String (by decide +kernel) rfl rfl ⟨Nat.le_of_ble_eq_true rfl, Nat.le_of_ble_eq_true rfl⟩), X.2.2.2.2.1 _ im_String_isLatin1, X.2.2.2.2.1 _ sel_String_isLatin1⟩ (zG_so X.2.2.2.2.2.1 hj) rfl rfl (Nat.le_of_ble_eq_true rfl) ⟨Nat.le_of_ble_eq_true rfl, Nat.le_of_ble_eq_true rfl⟩ (fun r N1 f1 hp hN1 => ?_)
  obtain ⟨rfl, rfl, rfl⟩ := hp
  refine z_if_eq X 16 d_String_charAt_4 (by decide) (fun h4 => ?_) (fun h4 => ?_)
  · skip
    exact absurd h4 (by decide)
  · skip
    refine z_aload_n X d_String_charAt_7 rfl ?_
    refine z_getK X d_String_charAt_8 (zG_svalue X.2.2.2.2.2.1 hj) fl_String_9 rfl ?_
    refine z_iload_n X d_String_charAt_11 rfl ?_
    refine z_callS X zG_ok (c_StringLatin1_charAt hj hk) d_String_charAt_12 ⟨(z_cb (n := 2) X.2.2.2.2.1 ml_String_495 mc_StringLatin1_charAt ini_StringLatin1 (by decide +kernel) rfl rfl ⟨Nat.le_of_ble_eq_true rfl, Nat.le_of_ble_eq_true rfl⟩), X.2.2.2.2.1 _ st_StringLatin1_charAt⟩ rfl rfl (Nat.le_of_ble_eq_true rfl) ⟨Nat.le_of_ble_eq_true rfl, Nat.le_of_ble_eq_true rfl⟩ (fun r N1 f1 hp hN1 => ?_)
    obtain ⟨rfl, rfl, rfl⟩ := hp
    exact z_nret X d_String_charAt_15 (by have e := ((zSb_ok j hj).2 k hk).2.2.2; rw [vp_nar_char] at e; exact congrArg Value.int e) ⟨rfl, rfl, rfl⟩
theorem d_StringLatin1_canEncode_0 : decode prog_20_method_4_code 0 = .ok (.iload_n 0, 1) := by decide +kernel
theorem d_StringLatin1_canEncode_1 : decode prog_20_method_4_code 1 = .ok (.ifCond .lt 14, 3) := by decide +kernel
theorem d_StringLatin1_canEncode_4 : decode prog_20_method_4_code 4 = .ok (.iload_n 0, 1) := by decide +kernel
theorem d_StringLatin1_canEncode_5 : decode prog_20_method_4_code 5 = .ok (.sipush 255, 3) := by decide +kernel
theorem d_StringLatin1_canEncode_8 : decode prog_20_method_4_code 8 = .ok (.if_icmp .gt 7, 3) := by decide +kernel
theorem d_StringLatin1_canEncode_11 : decode prog_20_method_4_code 11 = .ok (.iconst 1, 1) := by decide +kernel
theorem d_StringLatin1_canEncode_12 : decode prog_20_method_4_code 12 = .ok (.goto 4, 3) := by decide +kernel
theorem d_StringLatin1_canEncode_15 : decode prog_20_method_4_code 15 = .ok (.iconst 0, 1) := by decide +kernel
theorem d_StringLatin1_canEncode_16 : decode prog_20_method_4_code 16 = .ok (.ireturn, 1) := by decide +kernel
set_option maxHeartbeats 4000000 in
set_option maxRecDepth 100000 in
theorem c_StringLatin1_canEncode {x : Int32} : zK l D ck ad b0 y_StringLatin1_canEncode prog_20_method_4_code 1 ((some FieldType.boolean)) 0 0 0 [.int x] N f (fun r N' f' => r = some (.int (if x < 0 ∨ 255 < x then 0 else 1)) ∧ N = N' ∧ f = f') := by
  refine zM.ofF zG_w (by decide +kernel) (Nat.le_of_ble_eq_true rfl) ?_
  intro zp ze zst zm zar zbe zme zc X hnm hb0
  refine z_iload_n X d_StringLatin1_canEncode_0 rfl ?_
  refine z_if_lt X 15 d_StringLatin1_canEncode_1 (by decide) (fun h1 => ?_) (fun h1 => ?_)
  · skip
    refine z_iconst X d_StringLatin1_canEncode_15 (v := 0) (by decide) ?_
    exact z_zret X d_StringLatin1_canEncode_16 rfl ⟨by first | rw [if_pos (Or.inl h1)] | rw [if_pos (Or.inr h8)] | rw [if_neg (by rintro (h | h); exact h1 h; exact h8 h)], rfl, rfl⟩
  · skip
    refine z_iload_n X d_StringLatin1_canEncode_4 rfl ?_
    refine z_sipush X d_StringLatin1_canEncode_5 (v := 255) (by decide) ?_
    refine z_icmp_gt X 15 d_StringLatin1_canEncode_8 (by decide) (fun h8 => ?_) (fun h8 => ?_)
    · skip
      refine z_iconst X d_StringLatin1_canEncode_15 (v := 0) (by decide) ?_
      exact z_zret X d_StringLatin1_canEncode_16 rfl ⟨by first | rw [if_pos (Or.inl h1)] | rw [if_pos (Or.inr h8)] | rw [if_neg (by rintro (h | h); exact h1 h; exact h8 h)], rfl, rfl⟩
    · skip
      refine z_iconst X d_StringLatin1_canEncode_11 (v := 1) (by decide) ?_
      refine z_goto X 16 d_StringLatin1_canEncode_12 (by decide) ?_
      exact z_zret X d_StringLatin1_canEncode_16 rfl ⟨by first | rw [if_pos (Or.inl h1)] | rw [if_pos (Or.inr h8)] | rw [if_neg (by rintro (h | h); exact h1 h; exact h8 h)], rfl, rfl⟩
theorem d_StringLatin1_indexOfChar_0 : decode prog_20_method_23_code 0 = .ok (.iload_n 1, 1) := by decide +kernel
theorem d_StringLatin1_indexOfChar_1 : decode prog_20_method_23_code 1 = .ok (.i2b, 1) := by decide +kernel
theorem d_StringLatin1_indexOfChar_2 : decode prog_20_method_23_code 2 = .ok (.istore 4, 2) := by decide +kernel
theorem d_StringLatin1_indexOfChar_4 : decode prog_20_method_23_code 4 = .ok (.iload_n 2, 1) := by decide +kernel
theorem d_StringLatin1_indexOfChar_5 : decode prog_20_method_23_code 5 = .ok (.istore 5, 2) := by decide +kernel
theorem d_StringLatin1_indexOfChar_7 : decode prog_20_method_23_code 7 = .ok (.iload 5, 2) := by decide +kernel
theorem d_StringLatin1_indexOfChar_9 : decode prog_20_method_23_code 9 = .ok (.iload_n 3, 1) := by decide +kernel
theorem d_StringLatin1_indexOfChar_10 : decode prog_20_method_23_code 10 = .ok (.if_icmp .ge 21, 3) := by decide +kernel
theorem d_StringLatin1_indexOfChar_13 : decode prog_20_method_23_code 13 = .ok (.aload_n 0, 1) := by decide +kernel
theorem d_StringLatin1_indexOfChar_14 : decode prog_20_method_23_code 14 = .ok (.iload 5, 2) := by decide +kernel
theorem d_StringLatin1_indexOfChar_16 : decode prog_20_method_23_code 16 = .ok (.baload, 1) := by decide +kernel
theorem d_StringLatin1_indexOfChar_17 : decode prog_20_method_23_code 17 = .ok (.iload 4, 2) := by decide +kernel
theorem d_StringLatin1_indexOfChar_19 : decode prog_20_method_23_code 19 = .ok (.if_icmp .ne 6, 3) := by decide +kernel
theorem d_StringLatin1_indexOfChar_22 : decode prog_20_method_23_code 22 = .ok (.iload 5, 2) := by decide +kernel
theorem d_StringLatin1_indexOfChar_24 : decode prog_20_method_23_code 24 = .ok (.ireturn, 1) := by decide +kernel
theorem d_StringLatin1_indexOfChar_25 : decode prog_20_method_23_code 25 = .ok (.iinc 5 1, 3) := by decide +kernel
theorem d_StringLatin1_indexOfChar_28 : decode prog_20_method_23_code 28 = .ok (.goto (-21), 3) := by decide +kernel
theorem d_StringLatin1_indexOfChar_31 : decode prog_20_method_23_code 31 = .ok (.iconst (-1), 1) := by decide +kernel
theorem d_StringLatin1_indexOfChar_32 : decode prog_20_method_23_code 32 = .ok (.ireturn, 1) := by decide +kernel
set_option maxHeartbeats 4000000 in
set_option maxRecDepth 100000 in
theorem c_StringLatin1_indexOfChar (hj : j < 16) {c : Nat} (hc : c < 256) : zK l D ck ad b0 y_StringLatin1_indexOfChar prog_20_method_23_code 6 ((some FieldType.int)) 0 0 0 [.ref (ad.2 j), .int (nI c), .int 0, .int (nI (zSb j).length)] N f (fun r N' f' => r = some (.int (zix (nI c) (zSb j) 0)) ∧ N = N' ∧ f = f') := by
  refine zM.ofF zG_w (by decide +kernel) (Nat.le_of_ble_eq_true rfl) ?_
  intro zp ze zst zm zar zbe zme zc X hnm hb0
  have hlen := (zSb_ok j hj).1
  have L7 : ∀ (nn : Nat) (k : Nat), (k ≤ (zSb j).length ∧ k + nn = (zSb j).length + 1) → zix (nI c) (zSb j) 0 = zix (nI c) ((zSb j).drop k) k → zW zp l ze (zR 0 0 0) zst zm zar zbe zme zc D zcl b0 6 0 0 (MQ zbe (zQ D zcl b0 (fun r N' f' => r = some (.int (zix (nI c) (zSb j) 0)) ∧ N = N' ∧ f = f')) zar zst 0 0 (zA b0)) N f 7 [(0, .ref (ad.2 j)), (1, .int (nI c)), (2, .int 0), (3, .int (nI (zSb j).length)), (4, .int (nI c).toInt8.toInt32), (5, .int (nI k))] [] := by
    intro nn
    induction nn with
    | zero =>
      intro k hk hz
      omega
    | succ nn ih =>
      intro k hk hz
      refine z_iload X d_StringLatin1_indexOfChar_7 rfl ?_
      refine z_iload_n X d_StringLatin1_indexOfChar_9 rfl ?_
      refine z_icmp_ge X 31 d_StringLatin1_indexOfChar_10 (by decide) (fun h10 => ?_) (fun h10 => ?_)
      · skip
        have hkl : k = (zSb j).length := by have := (nI_leI (a := (zSb j).length) (b := k) (by omega) (by omega)).mp h10; omega
        rw [show (zSb j).drop k = [] from List.drop_eq_nil_iff.mpr (by omega)] at hz
        refine z_iconst X d_StringLatin1_indexOfChar_31 (v := -1) (by decide) ?_
        exact z_iret X d_StringLatin1_indexOfChar_32 ⟨by rw [zix] at hz; rw [hz], rfl, rfl⟩
      · skip
        have hkl : k < (zSb j).length := by
          rcases Nat.lt_or_ge k (zSb j).length with z | z
          · exact z
          · exact absurd (nI_le z (by omega)) h10
        rw [zdrop hkl] at hz
        have hm := zSb_lo j hj ((zSb j).getD k 0) (by rw [List.getD_eq_getElem?_getD, List.getElem?_eq_getElem hkl]; exact List.getElem_mem hkl)
        obtain ⟨q, hq, eq⟩ : ∃ q : Nat, q < 128 ∧ (zSb j).getD k 0 = nI q := ⟨((zSb j).getD k 0).toInt.toNat, by omega, by apply Int32.toInt_inj.mp; rw [nI_toInt (by omega)]; omega⟩
        refine z_aload_n X d_StringLatin1_indexOfChar_13 rfl ?_
        refine z_iload X d_StringLatin1_indexOfChar_14 rfl ?_
        refine z_tb X d_StringLatin1_indexOfChar_16 (zG_sb X.2.2.2.2.2.1 hj) (vp_in_nI hkl (by omega)) rfl ?_
        refine z_iload X d_StringLatin1_indexOfChar_17 rfl ?_
        refine z_icmp_ne X 25 d_StringLatin1_indexOfChar_19 (by decide) (fun h19 => ?_) (fun h19 => ?_)
        · skip
          have hne : ¬ (zSb j).getD k 0 = nI c := by
            rw [nI_clamp (by omega), eq] at h19
            rw [eq]
            exact fun z => h19 (((zch c hc q hq).mpr ((nI_eq (by omega) (by omega)).mp z).symm).symm)
          refine z_iinc X d_StringLatin1_indexOfChar_25 rfl (nI_1 _) (by decide) rfl ?_
          refine z_goto X 7 d_StringLatin1_indexOfChar_28 (by decide) ?_
          refine ih (k + 1) (by omega) ?_
          rw [zix, if_neg hne] at hz
          exact hz
        · skip
          have hee : (zSb j).getD k 0 = nI c := by
            rw [nI_clamp (by omega), eq] at h19
            rw [eq, (zch c hc q hq).mp h19.symm]
          refine z_iload X d_StringLatin1_indexOfChar_22 rfl ?_
          exact z_iret X d_StringLatin1_indexOfChar_24 ⟨by rw [zix, if_pos hee] at hz; rw [hz], rfl, rfl⟩
  refine z_iload_n X d_StringLatin1_indexOfChar_0 rfl ?_
  refine z_i2b X d_StringLatin1_indexOfChar_1 rfl ?_
  refine z_istore X d_StringLatin1_indexOfChar_2 (by decide) rfl ?_
  refine z_iload_n X d_StringLatin1_indexOfChar_4 rfl ?_
  refine z_istore X d_StringLatin1_indexOfChar_5 (by decide) rfl ?_
  exact L7 ((zSb j).length + 1) 0 (by omega) rfl
theorem d_StringLatin1_indexOf_0 : decode prog_20_method_22_code 0 = .ok (.iload_n 1, 1) := by decide +kernel
theorem d_StringLatin1_indexOf_1 : decode prog_20_method_22_code 1 = .ok (.invokestatic 88, 3) := by decide +kernel
theorem d_StringLatin1_indexOf_4 : decode prog_20_method_22_code 4 = .ok (.ifCond .ne 5, 3) := by decide +kernel
theorem d_StringLatin1_indexOf_7 : decode prog_20_method_22_code 7 = .ok (.iconst (-1), 1) := by decide +kernel
theorem d_StringLatin1_indexOf_8 : decode prog_20_method_22_code 8 = .ok (.ireturn, 1) := by decide +kernel
theorem d_StringLatin1_indexOf_9 : decode prog_20_method_22_code 9 = .ok (.iload_n 2, 1) := by decide +kernel
theorem d_StringLatin1_indexOf_10 : decode prog_20_method_22_code 10 = .ok (.iconst 0, 1) := by decide +kernel
theorem d_StringLatin1_indexOf_11 : decode prog_20_method_22_code 11 = .ok (.invokestatic 92, 3) := by decide +kernel
theorem d_StringLatin1_indexOf_14 : decode prog_20_method_22_code 14 = .ok (.istore_n 2, 1) := by decide +kernel
theorem d_StringLatin1_indexOf_15 : decode prog_20_method_22_code 15 = .ok (.iload_n 3, 1) := by decide +kernel
theorem d_StringLatin1_indexOf_16 : decode prog_20_method_22_code 16 = .ok (.aload_n 0, 1) := by decide +kernel
theorem d_StringLatin1_indexOf_17 : decode prog_20_method_22_code 17 = .ok (.arraylength, 1) := by decide +kernel
theorem d_StringLatin1_indexOf_18 : decode prog_20_method_22_code 18 = .ok (.invokestatic 38, 3) := by decide +kernel
theorem d_StringLatin1_indexOf_21 : decode prog_20_method_22_code 21 = .ok (.istore_n 3, 1) := by decide +kernel
theorem d_StringLatin1_indexOf_22 : decode prog_20_method_22_code 22 = .ok (.iload_n 2, 1) := by decide +kernel
theorem d_StringLatin1_indexOf_23 : decode prog_20_method_22_code 23 = .ok (.iload_n 3, 1) := by decide +kernel
theorem d_StringLatin1_indexOf_24 : decode prog_20_method_22_code 24 = .ok (.if_icmp .lt 5, 3) := by decide +kernel
theorem d_StringLatin1_indexOf_27 : decode prog_20_method_22_code 27 = .ok (.iconst (-1), 1) := by decide +kernel
theorem d_StringLatin1_indexOf_28 : decode prog_20_method_22_code 28 = .ok (.ireturn, 1) := by decide +kernel
theorem d_StringLatin1_indexOf_29 : decode prog_20_method_22_code 29 = .ok (.aload_n 0, 1) := by decide +kernel
theorem d_StringLatin1_indexOf_30 : decode prog_20_method_22_code 30 = .ok (.iload_n 1, 1) := by decide +kernel
theorem d_StringLatin1_indexOf_31 : decode prog_20_method_22_code 31 = .ok (.iload_n 2, 1) := by decide +kernel
theorem d_StringLatin1_indexOf_32 : decode prog_20_method_22_code 32 = .ok (.iload_n 3, 1) := by decide +kernel
theorem d_StringLatin1_indexOf_33 : decode prog_20_method_22_code 33 = .ok (.invokestatic 95, 3) := by decide +kernel
theorem d_StringLatin1_indexOf_36 : decode prog_20_method_22_code 36 = .ok (.ireturn, 1) := by decide +kernel
set_option maxHeartbeats 4000000 in
set_option maxRecDepth 100000 in
theorem c_StringLatin1_indexOf (hj : j < 16) {x : Int32} : zK l D ck ad b0 y_StringLatin1_indexOf prog_20_method_22_code 4 ((some FieldType.int)) 1 0 0 [.ref (ad.2 j), .int x, .int 0, .int (nI (zSb j).length)] N f (fun r N' f' => r = some (.int (zix x (zSb j) 0)) ∧ N = N' ∧ f = f') := by
  refine zM.ofF zG_w (by decide +kernel) (Nat.le_of_ble_eq_true rfl) ?_
  intro zp ze zst zm zar zbe zme zc X hnm hb0
  have hlen := (zSb_ok j hj).1
  refine z_iload_n X d_StringLatin1_indexOf_0 rfl ?_
  refine z_callS X zG_ok c_StringLatin1_canEncode d_StringLatin1_indexOf_1 ⟨(z_cb (n := 1) X.2.2.2.2.1 ml_StringLatin1_88 mc_StringLatin1_canEncode ini_StringLatin1 (by decide +kernel) rfl rfl ⟨Nat.le_of_ble_eq_true rfl, Nat.le_of_ble_eq_true rfl⟩), X.2.2.2.2.1 _ st_StringLatin1_canEncode⟩ rfl rfl (Nat.le_of_ble_eq_true rfl) ⟨Nat.le_of_ble_eq_true rfl, Nat.le_of_ble_eq_true rfl⟩ (fun r N1 f1 hp hN1 => ?_)
  obtain ⟨rfl, rfl, rfl⟩ := hp
  refine z_if_ne X 9 d_StringLatin1_indexOf_4 (by decide) (fun h4 => ?_) (fun h4 => ?_)
  · skip
    have hin : ¬ (x < 0 ∨ 255 < x) := by
      intro z
      rw [if_pos z] at h4
      exact absurd rfl h4
    obtain ⟨c, hc9, rfl⟩ := nI_of (fun z => hin (Or.inl z))
    have hc : c < 256 := by
      rcases Nat.lt_or_ge c 256 with z | z
      · exact z
      · exact absurd (Or.inr (nI_lt (a := 255) (b := c) (by omega) (by omega))) hin
    refine z_iload_n X d_StringLatin1_indexOf_9 rfl ?_
    refine z_iconst X d_StringLatin1_indexOf_10 (v := 0) (by decide) ?_
    refine z_mmax X d_StringLatin1_indexOf_11 ml_StringLatin1_92 st_Math_max ini_Math mc_lib_max (Nat.le_of_ble_eq_true rfl) (Nat.le_of_ble_eq_true rfl) (Nat.zero_le _) (Nat.zero_le _) ?_
    rw [show (if (0 : Int32) < 0 then (0 : Int32) else 0) = 0 from ite_self _]
    refine z_istore_n X d_StringLatin1_indexOf_14 (by decide) rfl ?_
    refine z_iload_n X d_StringLatin1_indexOf_15 rfl ?_
    refine z_aload_n X d_StringLatin1_indexOf_16 rfl ?_
    refine z_tlen X d_StringLatin1_indexOf_17 (zG_sb X.2.2.2.2.2.1 hj) rfl ?_
    refine z_mmin X d_StringLatin1_indexOf_18 ml_StringLatin1_38 st_Math_min ini_Math mc_lib_min (Nat.le_of_ble_eq_true rfl) (Nat.le_of_ble_eq_true rfl) (Nat.zero_le _) (Nat.zero_le _) ?_
    rw [show (if Int32.ofNat (zSb j).length < nI (zSb j).length then Int32.ofNat (zSb j).length else nI (zSb j).length) = nI (zSb j).length from ite_self _]
    refine z_istore_n X d_StringLatin1_indexOf_21 (by decide) rfl ?_
    refine z_iload_n X d_StringLatin1_indexOf_22 rfl ?_
    refine z_iload_n X d_StringLatin1_indexOf_23 rfl ?_
    refine z_icmp_lt X 29 d_StringLatin1_indexOf_24 (by decide) (fun h24 => ?_) (fun h24 => ?_)
    · skip
      refine z_aload_n X d_StringLatin1_indexOf_29 rfl ?_
      refine z_iload_n X d_StringLatin1_indexOf_30 rfl ?_
      refine z_iload_n X d_StringLatin1_indexOf_31 rfl ?_
      refine z_iload_n X d_StringLatin1_indexOf_32 rfl ?_
      refine z_callS X zG_ok (c_StringLatin1_indexOfChar hj (c := c) hc) d_StringLatin1_indexOf_33 ⟨(z_cb (n := 4) X.2.2.2.2.1 ml_StringLatin1_95 mc_StringLatin1_indexOfChar ini_StringLatin1 (by decide +kernel) rfl rfl ⟨Nat.le_of_ble_eq_true rfl, Nat.le_of_ble_eq_true rfl⟩), X.2.2.2.2.1 _ st_StringLatin1_indexOfChar⟩ rfl rfl (Nat.le_of_ble_eq_true rfl) ⟨Nat.le_of_ble_eq_true rfl, Nat.le_of_ble_eq_true rfl⟩ (fun r N1 f1 hp hN1 => ?_)
      obtain ⟨rfl, rfl, rfl⟩ := hp
      exact z_iret X d_StringLatin1_indexOf_36 ⟨rfl, rfl, rfl⟩
    · skip
      exact absurd (nI_lt (a := 0) (zSb_pos j hj) (by omega)) h24
  · skip
    have hout : x < 0 ∨ 255 < x := by
      by_cases z : x < 0 ∨ 255 < x
      · exact z
      · rw [if_neg z] at h4; exact absurd h4 (by decide)
    refine z_iconst X d_StringLatin1_indexOf_7 (v := -1) (by decide) ?_
    exact z_iret X d_StringLatin1_indexOf_8 ⟨by rw [zix_out hj hout], rfl, rfl⟩
theorem d_String_indexOf2_0 : decode prog_19_method_80_code 0 = .ok (.aload_n 0, 1) := by decide +kernel
theorem d_String_indexOf2_1 : decode prog_19_method_80_code 1 = .ok (.invokevirtual 492, 3) := by decide +kernel
theorem d_String_indexOf2_4 : decode prog_19_method_80_code 4 = .ok (.ifCond .eq 19, 3) := by decide +kernel
theorem d_String_indexOf2_7 : decode prog_19_method_80_code 7 = .ok (.aload_n 0, 1) := by decide +kernel
theorem d_String_indexOf2_8 : decode prog_19_method_80_code 8 = .ok (.getfield 9, 3) := by decide +kernel
theorem d_String_indexOf2_11 : decode prog_19_method_80_code 11 = .ok (.iload_n 1, 1) := by decide +kernel
theorem d_String_indexOf2_12 : decode prog_19_method_80_code 12 = .ok (.iload_n 2, 1) := by decide +kernel
theorem d_String_indexOf2_13 : decode prog_19_method_80_code 13 = .ok (.aload_n 0, 1) := by decide +kernel
theorem d_String_indexOf2_14 : decode prog_19_method_80_code 14 = .ok (.invokevirtual 505, 3) := by decide +kernel
theorem d_String_indexOf2_17 : decode prog_19_method_80_code 17 = .ok (.invokestatic 637, 3) := by decide +kernel
theorem d_String_indexOf2_20 : decode prog_19_method_80_code 20 = .ok (.goto 16, 3) := by decide +kernel
theorem d_String_indexOf2_23 : decode prog_19_method_80_code 23 = .ok (.aload_n 0, 1) := by decide +kernel
theorem d_String_indexOf2_24 : decode prog_19_method_80_code 24 = .ok (.getfield 9, 3) := by decide +kernel
theorem d_String_indexOf2_27 : decode prog_19_method_80_code 27 = .ok (.iload_n 1, 1) := by decide +kernel
theorem d_String_indexOf2_28 : decode prog_19_method_80_code 28 = .ok (.iload_n 2, 1) := by decide +kernel
theorem d_String_indexOf2_29 : decode prog_19_method_80_code 29 = .ok (.aload_n 0, 1) := by decide +kernel
theorem d_String_indexOf2_30 : decode prog_19_method_80_code 30 = .ok (.invokevirtual 505, 3) := by decide +kernel
theorem d_String_indexOf2_33 : decode prog_19_method_80_code 33 = .ok (.invokestatic 640, 3) := by decide +kernel
theorem d_String_indexOf2_36 : decode prog_19_method_80_code 36 = .ok (.ireturn, 1) := by decide +kernel
set_option maxHeartbeats 4000000 in
set_option maxRecDepth 100000 in
theorem c_String_indexOf2 (hj : j < 16) {x : Int32} : zK l D ck ad b0 y_String_indexOf2 prog_19_method_80_code 3 ((some FieldType.int)) 2 0 0 [.ref (ad.1 j), .int x, .int 0] N f (fun r N' f' => r = some (.int (zix x (zSb j) 0)) ∧ N = N' ∧ f = f') := by
  refine zM.ofF zG_w (by decide +kernel) (Nat.le_of_ble_eq_true rfl) ?_
  intro zp ze zst zm zar zbe zme zc X hnm hb0
  refine z_aload_n X d_String_indexOf2_0 rfl ?_
  refine z_callVK X zG_ok (c_String_isLatin1 hj) d_String_indexOf2_1 ⟨(z_cb (n := 0) X.2.2.2.2.1 ml_String_492 mc_String_isLatin1 ini_String (by decide +kernel) rfl rfl ⟨Nat.le_of_ble_eq_true rfl, Nat.le_of_ble_eq_true rfl⟩), X.2.2.2.2.1 _ im_String_isLatin1, X.2.2.2.2.1 _ sel_String_isLatin1⟩ (zG_so X.2.2.2.2.2.1 hj) rfl rfl (Nat.le_of_ble_eq_true rfl) ⟨Nat.le_of_ble_eq_true rfl, Nat.le_of_ble_eq_true rfl⟩ (fun r N1 f1 hp hN1 => ?_)
  obtain ⟨rfl, rfl, rfl⟩ := hp
  refine z_if_eq X 23 d_String_indexOf2_4 (by decide) (fun h4 => ?_) (fun h4 => ?_)
  · skip
    exact absurd h4 (by decide)
  · skip
    refine z_aload_n X d_String_indexOf2_7 rfl ?_
    refine z_getK X d_String_indexOf2_8 (zG_svalue X.2.2.2.2.2.1 hj) fl_String_9 rfl ?_
    refine z_iload_n X d_String_indexOf2_11 rfl ?_
    refine z_iload_n X d_String_indexOf2_12 rfl ?_
    refine z_aload_n X d_String_indexOf2_13 rfl ?_
    refine z_callVK X zG_ok (c_String_length hj) d_String_indexOf2_14 ⟨(z_cb (n := 0) X.2.2.2.2.1 ml_String_505 mc_String_length ini_String (by decide +kernel) rfl rfl ⟨Nat.le_of_ble_eq_true rfl, Nat.le_of_ble_eq_true rfl⟩), X.2.2.2.2.1 _ im_String_length, X.2.2.2.2.1 _ sel_String_length⟩ (zG_so X.2.2.2.2.2.1 hj) rfl rfl (Nat.le_of_ble_eq_true rfl) ⟨Nat.le_of_ble_eq_true rfl, Nat.le_of_ble_eq_true rfl⟩ (fun r N1 f1 hp hN1 => ?_)
    obtain ⟨rfl, rfl, rfl⟩ := hp
    refine z_callS X zG_ok (c_StringLatin1_indexOf hj) d_String_indexOf2_17 ⟨(z_cb (n := 4) X.2.2.2.2.1 ml_String_637 mc_StringLatin1_indexOf ini_StringLatin1 (by decide +kernel) rfl rfl ⟨Nat.le_of_ble_eq_true rfl, Nat.le_of_ble_eq_true rfl⟩), X.2.2.2.2.1 _ st_StringLatin1_indexOf⟩ rfl rfl (Nat.le_of_ble_eq_true rfl) ⟨Nat.le_of_ble_eq_true rfl, Nat.le_of_ble_eq_true rfl⟩ (fun r N1 f1 hp hN1 => ?_)
    obtain ⟨rfl, rfl, rfl⟩ := hp
    refine z_goto X 36 d_String_indexOf2_20 (by decide) ?_
    exact z_iret X d_String_indexOf2_36 ⟨rfl, rfl, rfl⟩
theorem d_String_indexOf_0 : decode prog_19_method_79_code 0 = .ok (.aload_n 0, 1) := by decide +kernel
theorem d_String_indexOf_1 : decode prog_19_method_79_code 1 = .ok (.iload_n 1, 1) := by decide +kernel
theorem d_String_indexOf_2 : decode prog_19_method_79_code 2 = .ok (.iconst 0, 1) := by decide +kernel
theorem d_String_indexOf_3 : decode prog_19_method_79_code 3 = .ok (.invokevirtual 633, 3) := by decide +kernel
theorem d_String_indexOf_6 : decode prog_19_method_79_code 6 = .ok (.ireturn, 1) := by decide +kernel
set_option maxHeartbeats 4000000 in
set_option maxRecDepth 100000 in
theorem c_String_indexOf (hj : j < 16) {x : Int32} : zK l D ck ad b0 y_String_indexOf prog_19_method_79_code 2 ((some FieldType.int)) 3 0 0 [.ref (ad.1 j), .int x] N f (fun r N' f' => r = some (.int (zix x (zSb j) 0)) ∧ N = N' ∧ f = f') := by
  refine zM.ofF zG_w (by decide +kernel) (Nat.le_of_ble_eq_true rfl) ?_
  intro zp ze zst zm zar zbe zme zc X hnm hb0
  refine z_aload_n X d_String_indexOf_0 rfl ?_
  refine z_iload_n X d_String_indexOf_1 rfl ?_
  refine z_iconst X d_String_indexOf_2 (v := 0) (by decide) ?_
  refine z_callVK X zG_ok (c_String_indexOf2 hj) d_String_indexOf_3 ⟨(z_cb (n := 2) X.2.2.2.2.1 ml_String_633 mc_String_indexOf2 ini_String (by decide +kernel) rfl rfl ⟨Nat.le_of_ble_eq_true rfl, Nat.le_of_ble_eq_true rfl⟩), X.2.2.2.2.1 _ im_String_indexOf2, X.2.2.2.2.1 _ sel_String_indexOf2⟩ (zG_so X.2.2.2.2.2.1 hj) rfl rfl (Nat.le_of_ble_eq_true rfl) ⟨Nat.le_of_ble_eq_true rfl, Nat.le_of_ble_eq_true rfl⟩ (fun r N1 f1 hp hN1 => ?_)
  obtain ⟨rfl, rfl, rfl⟩ := hp
  exact z_iret X d_String_indexOf_6 ⟨rfl, rfl, rfl⟩
end
