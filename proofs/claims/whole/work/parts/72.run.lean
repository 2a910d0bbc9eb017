def R_law : String := "CheckRulesLaw"
def lw_P (b : Addr) (xs : List Int32) (args : Array Value) (s : State) : Prop := args = #[.ref b] ∧ s.IntsAt b xs ∧ xs.length ≤ 2048 ∧ (Jvm.Cond.and given_1 narrow_1).before args s = true
def lw_Q (_ : Array Value) (s : State) (o : Outcome) (t : State) : Prop := o = .returned (some (.int 1)) ∧ Framed s o t [] 601024 7293034
def lw_Z (below : List Frame) (a : Array Value) (s : State) : State → Prop := fun t => ∃ o, t.status = .running ∧ Ended t below o ∧ lw_Q a s o t
/-- the law's own end, with 1 on the stack, nothing written that was there before, its room as the claim has it -/
theorem lw_ret {p : Program} {l : Launch} {e : Env} {s : State} {m : MethodId} {below : List Frame} {meth : Method} {c : Code} {b : Nat} (hx : p.tables.exec = Jvm.exec) (hb : c.code = code) (hr : meth.sig.returnType = ret) (hlocks : meth.locks = false) {pc : Nat} {H : Heap} {ls : Array Slot} (hdg : decode code pc = .ok (.ireturn, 1)) : W p l e room_1 s m #[Value.ref b] below meth c H [] 601024 7293034 (lw_Z below #[Value.ref b] s) (F0 m pc ls [.int 1]) := by
  intro T hT X
  obtain ⟨fs, hret, hrun, hended, hW, hframe⟩ := X.leave (v := some (.int 1)) (hlocks := hlocks) (fun h => by rw [hr] at h; cases h)
  have hmeth' : T.vm.method? m = some meth := X.method'
  refine ⟨T.setFrames fs, ?_, .returned (some (.int 1)), hrun, hended, rfl, ⟨_, rfl⟩, hW, hframe⟩
  jvm_step X.here [X.here.top, hx, hb, hdg, hmeth', hr, ret, narrow_b1]
  (try refine ⟨rfl, ?_⟩); (try refine ⟨rfl, ?_⟩)
  first | (intro acts; rw [hret _ acts rfl rfl rfl]) | rw [hret _ _ rfl rfl rfl]
  exact Steps.refl _
/-- what holds at the law's entry: the machine, the code, the tables' words (any of lw_tbl by 'hts w (by decide +kernel)'), the script of L ints xs at the cell b, what the Statement gives of the start (any of its parts by flat_of_before) -/
def lw_At (p : Program) (s : State) (m : MethodId) (meth : Method) (c : Code) (b L : Nat) (xs : Nat → Int32) : Prop :=
  p.tables.exec = Jvm.exec ∧ c.code = code ∧ meth.sig.returnType = ret ∧ c.maxLocals = 7 ∧ s.vm.findClass R_law = some m.cls ∧ (∀ w ∈ lw_tbl, w.before #[Value.ref b] s = true) ∧ va_X b L xs s s.heap ∧ b < s.heap.size ∧ meth.locks = false ∧ (Jvm.Cond.and given_1 narrow_1).before #[Value.ref b] s = true
section
variable {p : Program} {l : Launch} {e : Env} {s : State} {m : MethodId} {below : List Frame} {meth : Method} {c : Code} {D : va_G} {ck : Nat → ClassId} {ad : (Nat → Nat) × (Nat → Nat)} {b0 T : Nat} {A A' : Nat → Nat} {ob b L : Nat} {xs : Nat → Int32}
theorem lw_end (X : zX p s m #[Value.ref b] meth c D zcl (zty ck) b0 (zG ad b0) code 7 "CheckRulesLaw" zTs ret) {N cells slots : Nat} {f : Nat → va_E} {lv : List (Nat × Value)} (hb0 : s.heap.size = b0) (hc : cells ≤ 601024) (hs : slots ≤ 7293034) : zW p l e room_1 s m #[Value.ref b] below meth c D zcl b0 7 cells slots (lw_Z below #[Value.ref b] s) N f 913 lv [] := by
  refine z_iconst X d_law_913 (v := 1) (by decide) ?_
  intro H locs ls hH hS hL
  exact va_forget (fun q hq => by rw [hb0]; exact hS.2.2 q hq) (W.widen hc hs (lw_ret (pc := 914) X.1 X.2.1 X.2.2.2.2.2.2.2.1 X.2.2.2.2.2.2.2.2.1 d_law_914))
theorem lw_past {k : Nat} (hL : L ≤ 2048) (hk : 4 * k ≤ L) (hx : ¬ nI L - 4 < nI (4 * k)) : 4 * k + 4 ≤ L := by
  rcases Nat.lt_or_ge L 4 with q | q
  · exfalso
    apply hx
    have hk0 : k = 0 := by omega
    subst hk0
    have hl : L = 0 ∨ L = 1 ∨ L = 2 ∨ L = 3 := by omega
    rcases hl with rfl | rfl | rfl | rfl <;> decide
  · rw [show nI L - 4 = nI (L - 4) from nI_subN (b := 4) q] at hx
    rcases Nat.lt_or_ge L (4 * k + 4) with r | r
    · exact absurd ((nI_ltI (by omega) (by omega)).mpr (by omega)) hx
    · exact r
theorem lw_in {k j : Nat} (hL : L ≤ 2048) (h : 4 * k + j < L) : vp_in (nI (4 * k) + nI j) L := by
  rw [nI_add]
  exact vp_in_nI h (by omega)
set_option maxHeartbeats 2000000 in
theorem lw_loop (X : zX p s m #[Value.ref b] meth c D zcl (zty ck) b0 (zG ad b0) code 7 "CheckRulesLaw" zTs ret) (htl : ∀ e, l.admits e → e.platform.stackTraces = false) (hX : va_X b L xs s s.heap) (hbl : b < s.heap.size) (hb0 : s.heap.size = b0) (hd : Ldj b0 T A A' ob) (hL : L ≤ 2048) : ∀ (n k cells slots N : Nat) (f : Nat → va_E), L < 4 * (k + n) + 4 → 4 * k ≤ L → cells + 5 * n ≤ 601024 → slots + 132 * n ≤ 7293034 → Lst ck b0 T A A' ob N f → zW p l e room_1 s m #[Value.ref b] below meth c D zcl b0 7 cells slots (lw_Z below #[Value.ref b] s) N f 23 (lwl b (A 0) (A' 38) ob (nI (4 * k))) [] := by
  have hbA : ¬ b0 ≤ b := by omega
  intro n
  induction n with
  | zero =>
    intro k cells slots N f h1 h2 h3 h4 h
    refine z_iload X d_law_23 rfl ?_
    refine z_aload_n X d_law_25 rfl ?_
    refine z_slen X hX hbl hbA d_law_26 ?_
    refine z_iconst X d_law_27 (v := 4) (by decide) ?_
    refine z_isub X d_law_28 ?_
    refine z_icmp_gt X 913 d_law_29 (by decide) (fun _ => lw_end X hb0 (by omega) (by omega)) (fun hx => ?_)
    have := lw_past hL h2 hx
    omega
  | succ n ih =>
    intro k cells slots N f h1 h2 h3 h4 h
    refine z_iload X d_law_23 rfl ?_
    refine z_aload_n X d_law_25 rfl ?_
    refine z_slen X hX hbl hbA d_law_26 ?_
    refine z_iconst X d_law_27 (v := 4) (by decide) ?_
    refine z_isub X d_law_28 ?_
    refine z_icmp_gt X 913 d_law_29 (by decide) (fun _ => lw_end X hb0 (by omega) (by omega)) (fun hx => ?_)
    have h5 := lw_past hL h2 hx
    have hr : cells + 5 ≤ 601024 ∧ slots + 132 ≤ 7293034 := by omega
    have e1 : vp_in (nI (4 * k) + 1) L := lw_in (j := 1) hL (by omega)
    have e2 : vp_in (nI (4 * k) + 2) L := lw_in (j := 2) hL (by omega)
    have e3 : vp_in (nI (4 * k) + 3) L := lw_in (j := 3) hL (by omega)
    have kk : ∀ N' f', Lst ck b0 T A A' ob N' f' → zW p l e room_1 s m #[Value.ref b] below meth c D zcl b0 7 (cells + 5) (slots + 132) (lw_Z below #[Value.ref b] s) N' f' 907 (lwl b (A 0) (A' 38) ob (nI (4 * k))) [] := fun N' f' h' => by
      refine z_iinc X d_law_907 rfl (v := nI (4 * (k + 1))) (nI_add (4 * k) 4) (by decide) rfl ?_
      refine z_goto X 23 d_law_910 (by decide) ?_
      exact ih (k + 1) (cells + 5) (slots + 132) N' f' (by omega) (by omega) (by omega) (by omega) h'
    refine z_aload_n X d_law_32 rfl ?_
    refine z_iload X d_law_33 rfl ?_
    refine z_sld X hX hbl hbA d_law_35 (vp_in_nI (by omega) (by omega)) ?_
    refine z_bipush X d_law_36 (v := 31) (by decide) ?_
    refine z_iand X d_law_38 ?_
    refine z_tableL X 907 [124, 149, 193, 258, 295, 320, 369, 406, 419, 472, 528, 584, 609, 665, 690, 770, 826, 882] d_law_39 (by decide) (by decide) (by decide) (fun i hi _ => ?_) (fun _ => zW.widen (by omega) (by omega) (kk N f h)) ⟨by decide, by decide⟩
    match i, hi with
    | 0, _ => exact lw_c0 X htl hX hbl hbA hd h e1 e2 e3 hr kk
    | 1, _ => exact lw_c1 X htl hX hbl hbA hd h e1 e2 e3 hr kk
    | 2, _ => exact lw_c2 X htl hX hbl hbA hd h e1 e2 e3 hr kk
    | 3, _ => exact lw_c3 X htl hX hbl hbA hd h e1 e2 e3 hr kk
    | 4, _ => exact lw_c4 X htl hX hbl hbA hd h e1 e2 e3 hr kk
    | 5, _ => exact lw_c5 X htl hX hbl hbA hd h e1 e2 e3 hr kk
    | 6, _ => exact lw_c6 X htl hX hbl hbA hd h e1 e2 e3 hr kk
    | 7, _ => exact lw_c7 X htl hX hbl hbA hd h e1 e2 e3 hr kk
    | 8, _ => exact lw_c8 X htl hX hbl hbA hd h e1 e2 e3 hr kk
    | 9, _ => exact lw_c9 X htl hX hbl hbA hd h e1 e2 e3 hr kk
    | 10, _ => exact lw_c10 X htl hX hbl hbA hd h e1 e2 e3 hr kk
    | 11, _ => exact lw_c11 X htl hX hbl hbA hd h e1 e2 e3 hr kk
    | 12, _ => exact lw_c12 X htl hX hbl hbA hd h e1 e2 e3 hr kk
    | 13, _ => exact lw_c13 X htl hX hbl hbA hd h e1 e2 e3 hr kk
    | 14, _ => exact lw_c14 X htl hX hbl hbA hd h e1 e2 e3 hr kk
    | 15, _ => exact lw_c15 X htl hX hbl hbA hd h e1 e2 e3 hr kk
    | 16, _ => exact lw_c16 X htl hX hbl hbA hd h e1 e2 e3 hr kk
    | 17, _ => exact lw_c17 X htl hX hbl hbA hd h e1 e2 e3 hr kk
    | i + 18, hi => exact absurd hi (by show ¬ i + 18 < 18; omega)
theorem cA_AL {a N x : Nat} (h : x ∈ AL (cA a N)) (hN : N = a + 1) : a ≤ x ∧ x ≤ a + 18 := by
  subst hN
  simp only [AL, cA, List.mem_cons, List.not_mem_nil, or_false] at h
  omega
theorem mA_ge {a : Nat} (k : Nat) : a ≤ mA a (a + 1) k := by
  unfold mA
  split <;> omega
theorem Inv0 {ρ : Nat → RuS} : IZ (((fun _ => 0), 0, rS0, (fun _ => -2147483648), ((fun _ => 0), 0), 0, 0, 0, ρ) : Zt) μ0 := by
  refine ⟨⟨Nat.zero_le _, rfl, rfl, fun j hj => absurd hj (Nat.not_lt_zero _)⟩, ⟨Nat.zero_le _, rfl, rfl, rfl⟩, fun _ _ _ _ => Or.inl ⟨rfl, rfl⟩, ⟨Nat.zero_le _, rfl, fun j hj => absurd hj (Nat.not_lt_zero _)⟩, ⟨fun j hj => absurd hj (Nat.not_lt_zero _), fun _ _ _ => ⟨rfl, rfl, rfl, rfl, rfl⟩⟩, ?_⟩
  exact Nat.zero_le _
set_option maxHeartbeats 4000000 in
set_option maxRecDepth 100000 in
theorem lw_init (X : zX p s m #[Value.ref b] meth c D zcl (zty ck) b0 (zG ad b0) code 7 "CheckRulesLaw" zTs ret) (htl : ∀ e, l.admits e → e.platform.stackTraces = false) (hX : va_X b L xs s s.heap) (hbl : b < s.heap.size) (hb0 : s.heap.size = b0) (hL : L ≤ 2048) {f : Nat → va_E} : zW p l e room_1 s m #[Value.ref b] below meth c D zcl b0 7 0 0 (lw_Z below #[Value.ref b] s) b0 f 0 [(0, .ref b)] [] := by
  refine z_newP (ws := []) X t_Cls ty_Cls d_law_0 cl_Cls in_Cls kl_Law_8 ins_Cls ini_Cls nf_Cls (Nat.le_of_ble_eq_true rfl) (Nat.le_of_ble_eq_true rfl) (zP.mk List.nodup_nil (fun q hq => absurd hq List.not_mem_nil)) (Nat.le_refl _) (fun hP => ?_)
  refine z_dup X d_law_3 rfl ?_
  refine z_callI (ret' := none) X zG_ok (c_Cls_init (a := b0) (B := fun _ => 0) hP) d_law_4 ⟨(z_cb (n := 0) X.2.2.2.2.1 ml_Law_39 mc_Cls_init ini_Cls (by decide +kernel) rfl rfl ⟨Nat.le_of_ble_eq_true rfl, Nat.le_of_ble_eq_true rfl⟩), rfl, X.2.2.2.2.1 _ im_Cls_init⟩ rfl rfl (Nat.le_of_ble_eq_true rfl) ⟨Nat.le_of_ble_eq_true rfl, Nat.le_of_ble_eq_true rfl⟩ (fun r N1 f1 hp hN1 => ?_)
  obtain ⟨rfl, rfl, hP1, -⟩ := hp
  refine z_astore_n X d_law_7 (by decide) rfl ?_
  refine z_newP (ws := []) X t_Mod ty_Mod d_law_8 cl_Mod in_Mod kl_Law_40 ins_Mod ini_Mod nf_Mod (Nat.le_of_ble_eq_true rfl) (Nat.le_of_ble_eq_true rfl) (zP.mk List.nodup_nil (fun q hq => absurd hq List.not_mem_nil)) (by omega) (fun hP2 => ?_)
  refine z_dup X d_law_11 rfl ?_
  refine z_callI (ret' := none) X zG_ok (c_Mod_init0 (a := b0 + 1 + 18) hP2) d_law_12 ⟨(z_cb (n := 0) X.2.2.2.2.1 ml_Law_42 mc_Mod_init ini_Mod (by decide +kernel) rfl rfl ⟨Nat.le_of_ble_eq_true rfl, Nat.le_of_ble_eq_true rfl⟩), rfl, X.2.2.2.2.1 _ im_Mod_init⟩ rfl rfl (Nat.le_of_ble_eq_true rfl) ⟨Nat.le_of_ble_eq_true rfl, Nat.le_of_ble_eq_true rfl⟩ (fun r N2 f2 hp hN2 => ?_)
  obtain ⟨rfl, rfl, hP3, hF3⟩ := hp
  have hM : zMf ck b0 (b0 + 1 + 18 + 1 + 27) (mA (b0 + 1 + 18) (b0 + 1 + 18 + 1)) f2 f2 μ0 := mA_zM hP3 (by omega)
  refine z_astore_n X d_law_15 (by decide) rfl ?_
  refine z_iconst X d_law_16 (v := 1) (by decide) ?_
  refine z_newal X rfl d_law_17 ac_long (t0 := 2) rfl (by decide) rfl (Nat.le_of_ble_eq_true rfl) (Nat.le_of_ble_eq_true rfl) (Nat.le_of_ble_eq_true rfl) ?_
  refine z_astore_n X d_law_19 (by decide) rfl ?_
  refine z_iconst X d_law_20 (v := 0) (by decide) ?_
  refine z_istore X d_law_21 (by decide) rfl ?_
  have hlow : ∀ q : Nat, q < b0 + 1 + 18 → (va_up f2 (b0 + 1 + 18 + 1 + 27) (aJ ck (fun _ => 0))) q = f1 q := fun q hq => by
    rw [va_up_ne _ _ (by omega), hF3 q (by omega) (fun e => by rw [List.mem_singleton] at e; omega), va_up_ne _ _ (by omega)]
  have hd : Ldj b0 (b0 + 1 + 18 + 1 + 27 + 1) (cA b0 (b0 + 1)) (mA (b0 + 1 + 18) (b0 + 1 + 18 + 1)) (b0 + 1 + 18 + 1 + 27) := by
    refine ⟨by omega, by omega, fun e => ?_, fun k hk => ⟨(hM.1 k hk).1.1, ?_, fun e => ?_, ?_⟩⟩
    · have := cA_AL e rfl
      omega
    · have := (hM.1 k hk).1.2
      omega
    · have h1 := cA_AL e rfl
      have h2 := mA_ge (a := b0 + 1 + 18) k
      omega
    · have := (hM.1 k hk).1.2
      omega
  refine lw_loop (A := cA b0 (b0 + 1)) (A' := mA (b0 + 1 + 18) (b0 + 1 + 18 + 1)) X htl hX hbl hb0 hd hL 513 0 _ _ _ _ (by omega) (by omega) (Nat.le_of_ble_eq_true rfl) (Nat.le_of_ble_eq_true rfl) ⟨((fun _ => 0), 0, rS0, (fun _ => -2147483648), ((fun _ => 0), 0), 0, 0, 0, fun _ => ((fun _ => 0, fun _ => 0, fun _ => 0, 0), 0, true, 0, -1, false, false, false)), μ0, fun _ => 0, ⟨Nat.le_refl _, va_up_self _ _ _, ⟨fun _ => 0, 0, fun _ => 0, ?_, ?_, ?_, ?_⟩, ?_⟩, Inv0⟩
  · refine hP1.lp (by omega) (fun q hq => hlow q ?_)
    have := cA_AL (a := b0) (N := b0 + 1) hq rfl
    omega
  · intro q hq
    have := cA_AL (a := b0) (N := b0 + 1) hq rfl
    omega
  · exact fun r hr => absurd hr (Nat.not_lt_zero _)
  · exact fun r hr => absurd hr (Nat.not_lt_zero _)
  · exact hM.tr (by omega) (fun k hk => va_up_ne _ _ (by have := (hM.1 k hk).1.2; omega))
end
