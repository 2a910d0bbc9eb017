theorem zP.eq {b0 N : Nat} {f : Nat → va_E} {ws ws' : va_W} (h : zP b0 N f ws) (e : ws = ws') : zP b0 N f ws' := e ▸ h
theorem zb_t {c : Prop} [Decidable c] (h : ¬ (if c then (1 : Int32) else 0) = 0) : c := by
  by_cases q : c
  · exact q
  · rw [if_neg q] at h; exact absurd rfl h
theorem zb_f {c : Prop} [Decidable c] (h : (if c then (1 : Int32) else 0) = 0) : ¬ c := by
  intro q
  rw [if_pos q] at h
  exact absurd h (by decide)
theorem zin {i : Int32} {u n : Nat} (h0 : ¬ i < 0) (h1 : ¬ nI u ≤ i) (hu : u ≤ n) (hn : n < 2 ^ 31) : vp_in i n := by
  rw [vp_in_iff]
  have a1 := Int32.not_lt.mp h0
  rw [Int32.le_iff_toInt_le] at a1
  have a2 := Int32.not_le.mp h1
  rw [Int32.lt_iff_toInt_lt, nI_toInt (by omega)] at a2
  simp at a1
  omega
theorem sgv_nI {g : Nat → Int32} {u j : Nat} (h : j < u) (hu : u < 2 ^ 31) : sgv g u (nI j) = g j := by
  rw [sgv, if_neg (nI_pos (by omega)), if_neg (nI_ge h hu), nI_clamp (by omega)]
theorem sgv_out {g : Nat → Int32} {u j : Nat} (h : u ≤ j) (hu : j < 2 ^ 31) : sgv g u (nI j) = -1 := by
  rw [sgv, if_neg (nI_pos (by omega)), if_pos (nI_le h hu)]
theorem sgv_m1 {g : Nat → Int32} {u : Nat} : sgv g u (-1) = -1 := by rw [sgv, if_pos (by decide)]
abbrev oTre (ka va ra : Nat) (u : Nat) : va_E := .inr (5, [.ref ka, .ref va, .ref ra, .int (nI u)])
/-- a tree's cells: the object, kinds, values, rights; n places, u of them used -/
abbrev wTre (ck : Nat → ClassId) (tr ka va ra n : Nat) (K V R : Nat → Int32) (u : Nat) : va_W := [(tr, oTre ka va ra u), (ka, aI ck n K), (va, aI ck n V), (ra, aI ck n R)]
/-- Tree.has -/
def thas (u : Nat) (i : Int32) : Bool := !decide (i < 0) && !decide (nI u ≤ i)
theorem thas_iff {u : Nat} {i : Int32} : thas u i = true ↔ ¬ i < 0 ∧ ¬ nI u ≤ i := by simp [thas]
theorem thas_no {u : Nat} {i : Int32} (h : ¬ thas u i = true) (g : Nat → Int32) : sgv g u i = -1 := by
  rw [thas_iff] at h
  by_cases q : i < 0
  · rw [sgv, if_pos q]
  · by_cases q2 : nI u ≤ i
    · rw [sgv, if_neg q, if_pos q2]
    · exact absurd ⟨q, q2⟩ h
theorem thas_yes {u : Nat} {i : Int32} (h : thas u i = true) (g : Nat → Int32) : sgv g u i = g i.toNatClampNeg := by
  obtain ⟨q, q2⟩ := thas_iff.mp h
  rw [sgv, if_neg q, if_neg q2]
def tleft (K : Nat → Int32) (u : Nat) (i : Int32) : Int32 := if thas u i = true then (if 10 < K i.toNatClampNeg then -1 else i + 1) else -1
/-- Tree.names, over the first k nodes -/
def tnames (K V : Nat → Int32) (fd : Int32) : Nat → Bool
  | 0 => false
  | k + 1 => tnames K V fd k || (!decide (K k < 12) && decide (V k = fd))
theorem tnames_up {K V : Nat → Int32} {fd : Int32} {j u : Nat} (h : tnames K V fd j = true) (hu : j ≤ u) : tnames K V fd u = true := by
  induction u with
  | zero => rw [show j = 0 by omega] at h; exact h
  | succ u ih =>
    by_cases e : j = u + 1
    · rw [← e]; exact h
    · simp [tnames, ih (by omega)]
/-- what an insertion at p makes of the rows: while it moves them (down to q), and at its end -/
def shK (K : Nat → Int32) (x : Int32) (u q : Nat) : Nat → Int32 := fun j => if q < j ∧ j ≤ u then K (j - 1) else if j = u then x else K j
def shR (R : Nat → Int32) (u q : Nat) : Nat → Int32 := fun j => if q < j ∧ j ≤ u then (if R (j - 1) = -1 then -1 else R (j - 1) + 1) else if j = u then -1 else R j
theorem shK_0 (K : Nat → Int32) (x : Int32) (u : Nat) : upd K u x = shK K x u u := by
  funext j
  by_cases h : j = u
  · subst h; simp [shK, upd]
  · simp [shK, upd, h]; intro a b; omega
theorem shR_0 (R : Nat → Int32) (u : Nat) : upd R u (-1) = shR R u u := by
  funext j
  by_cases h : j = u
  · subst h; simp [shR, upd]
  · simp [shR, upd, h]; intro a b; omega
theorem shK_s (K : Nat → Int32) (x : Int32) {u q : Nat} (h : q + 1 ≤ u) : upd (shK K x u (q + 1)) (q + 1) (shK K x u (q + 1) q) = shK K x u q := by
  funext j
  by_cases hj : j = q + 1
  · subst hj
    simp only [upd, if_true, shK]
    rw [if_neg (by omega), if_neg (by omega), if_pos (by omega)]
    rfl
  · simp only [upd, if_neg hj, shK]
    by_cases a : q < j ∧ j ≤ u
    · rw [if_pos a, if_pos (by omega)]
    · rw [if_neg a, if_neg (by omega)]
theorem shR_s (R : Nat → Int32) {u q : Nat} (h : q + 1 ≤ u) : upd (shR R u (q + 1)) (q + 1) (if shR R u (q + 1) q = -1 then -1 else shR R u (q + 1) q + 1) = shR R u q := by
  have e : shR R u (q + 1) q = R q := by
    simp only [shR]
    rw [if_neg (by omega), if_neg (by omega)]
  rw [e]
  funext j
  by_cases hj : j = q + 1
  · subst hj
    simp only [upd, if_true, shR]
    rw [if_pos (show q < q + 1 ∧ q + 1 ≤ u by omega)]
    rfl
  · simp only [upd, if_neg hj, shR]
    by_cases a : q < j ∧ j ≤ u
    · rw [if_pos a, if_pos (by omega)]
    · rw [if_neg a, if_neg (by omega)]
def insK (K : Nat → Int32) (u p : Nat) (x : Int32) : Nat → Int32 := upd (shK K x u p) p x
def insR (R : Nat → Int32) (u p : Nat) : Nat → Int32 := upd (shR R u p) p (nI (u + 1))
section
variable {l : Launch} {D : va_G} {ck : Nat → ClassId} {ad : (Nat → Nat) × (Nat → Nat)} {b0 N : Nat} {f : Nat → va_E}
theorem d_Tre_clear_0 : decode prog_7_method_4_code 0 = .ok (.aload_n 0, 1) := by decide +kernel
theorem d_Tre_clear_1 : decode prog_7_method_4_code 1 = .ok (.iconst 0, 1) := by decide +kernel
theorem d_Tre_clear_2 : decode prog_7_method_4_code 2 = .ok (.putfield 21, 3) := by decide +kernel
theorem d_Tre_clear_5 : decode prog_7_method_4_code 5 = .ok (.return_, 1) := by decide +kernel
set_option maxHeartbeats 4000000 in
set_option maxRecDepth 100000 in
theorem c_Tre_clear {tr ka va ra n u : Nat} {K V R : Nat → Int32} (hP : zP b0 N f (wTre ck tr ka va ra n K V R u)) : zK l D ck ad b0 y_Tre_clear prog_7_method_4_code 1 (none) 0 0 0 [.ref tr] N f (fun r N' f' => r = none ∧ N = N' ∧ f' = va_up f tr (oTre ka va ra 0)) := by
  refine zM.of zG_w (by decide) (Nat.le_of_ble_eq_true rfl) ?_
  intro zp ze zst zm zar zbe zme zc X hnm hb0
  refine z_aload_n X d_Tre_clear_0 rfl ?_
  refine z_iconst X d_Tre_clear_1 (v := 0) (by decide) ?_
  refine z_putP X t_Tre ty_Tre n_Tre d_Tre_clear_2 hP 0 rfl cl_Tre in_Tre 3 (by decide) fl_Tre_21 rfl rfl rfl rfl rfl (Nat.le_of_ble_eq_true rfl) (fun hP => ?_)
  exact z_vret X d_Tre_clear_5 ⟨rfl, rfl, rfl⟩
theorem d_Tre_size_0 : decode prog_7_method_5_code 0 = .ok (.aload_n 0, 1) := by decide +kernel
theorem d_Tre_size_1 : decode prog_7_method_5_code 1 = .ok (.getfield 21, 3) := by decide +kernel
theorem d_Tre_size_4 : decode prog_7_method_5_code 4 = .ok (.ireturn, 1) := by decide +kernel
set_option maxHeartbeats 4000000 in
set_option maxRecDepth 100000 in
theorem c_Tre_size {tr ka va ra n u : Nat} {K V R : Nat → Int32} (hP : zP b0 N f (wTre ck tr ka va ra n K V R u)) : zK l D ck ad b0 y_Tre_size prog_7_method_5_code 1 ((some FieldType.int)) 0 0 0 [.ref tr] N f (fun r N' f' => r = some (.int (nI u)) ∧ N = N' ∧ f = f') := by
  refine zM.of zG_w (by decide) (Nat.le_of_ble_eq_true rfl) ?_
  intro zp ze zst zm zar zbe zme zc X hnm hb0
  refine z_aload_n X d_Tre_size_0 rfl ?_
  refine z_get X d_Tre_size_1 (hP.lo 0 rfl) (hP.at 0 rfl) cl_Tre in_Tre 3 (by decide) fl_Tre_21 rfl rfl ?_
  exact z_iret X d_Tre_size_4 ⟨rfl, rfl, rfl⟩
theorem d_Tre_has_0 : decode prog_7_method_9_code 0 = .ok (.iload_n 1, 1) := by decide +kernel
theorem d_Tre_has_1 : decode prog_7_method_9_code 1 = .ok (.ifCond .lt 24, 3) := by decide +kernel
theorem d_Tre_has_4 : decode prog_7_method_9_code 4 = .ok (.iload_n 1, 1) := by decide +kernel
theorem d_Tre_has_5 : decode prog_7_method_9_code 5 = .ok (.aload_n 0, 1) := by decide +kernel
theorem d_Tre_has_6 : decode prog_7_method_9_code 6 = .ok (.getfield 21, 3) := by decide +kernel
theorem d_Tre_has_9 : decode prog_7_method_9_code 9 = .ok (.if_icmp .ge 16, 3) := by decide +kernel
theorem d_Tre_has_12 : decode prog_7_method_9_code 12 = .ok (.iload_n 1, 1) := by decide +kernel
theorem d_Tre_has_13 : decode prog_7_method_9_code 13 = .ok (.aload_n 0, 1) := by decide +kernel
theorem d_Tre_has_14 : decode prog_7_method_9_code 14 = .ok (.getfield 9, 3) := by decide +kernel
theorem d_Tre_has_17 : decode prog_7_method_9_code 17 = .ok (.arraylength, 1) := by decide +kernel
theorem d_Tre_has_18 : decode prog_7_method_9_code 18 = .ok (.if_icmp .ge 7, 3) := by decide +kernel
theorem d_Tre_has_21 : decode prog_7_method_9_code 21 = .ok (.iconst 1, 1) := by decide +kernel
theorem d_Tre_has_22 : decode prog_7_method_9_code 22 = .ok (.goto 4, 3) := by decide +kernel
theorem d_Tre_has_25 : decode prog_7_method_9_code 25 = .ok (.iconst 0, 1) := by decide +kernel
theorem d_Tre_has_26 : decode prog_7_method_9_code 26 = .ok (.ireturn, 1) := by decide +kernel
set_option maxHeartbeats 4000000 in
set_option maxRecDepth 100000 in
theorem c_Tre_has {tr ka va ra n u : Nat} {K V R : Nat → Int32} (hP : zP b0 N f (wTre ck tr ka va ra n K V R u)) (hu : u ≤ n) (hn : n ≤ 40) {i : Int32} : zK l D ck ad b0 y_Tre_has prog_7_method_9_code 2 ((some FieldType.boolean)) 0 0 0 [.ref tr, .int i] N f (fun r N' f' => r = some (.int (if thas u i = true then 1 else 0)) ∧ N = N' ∧ f = f') := by
  refine zM.of zG_w (by decide) (Nat.le_of_ble_eq_true rfl) ?_
  intro zp ze zst zm zar zbe zme zc X hnm hb0
  refine z_iload_n X d_Tre_has_0 rfl ?_
  refine z_if_lt X 25 d_Tre_has_1 (by decide) (fun h1 => ?_) (fun h1 => ?_)
  · skip
    refine z_iconst X d_Tre_has_25 (v := 0) (by decide) ?_
    exact z_zret X d_Tre_has_26 rfl ⟨by first | rw [if_pos (thas_iff.mpr ⟨h1, h9⟩)] | rw [if_neg (fun q => (thas_iff.mp q).1 h1)] | rw [if_neg (fun q => (thas_iff.mp q).2 h9)], rfl, rfl⟩
  · skip
    refine z_iload_n X d_Tre_has_4 rfl ?_
    refine z_aload_n X d_Tre_has_5 rfl ?_
    refine z_get X d_Tre_has_6 (hP.lo 0 rfl) (hP.at 0 rfl) cl_Tre in_Tre 3 (by decide) fl_Tre_21 rfl rfl ?_
    refine z_icmp_ge X 25 d_Tre_has_9 (by decide) (fun h9 => ?_) (fun h9 => ?_)
    · skip
      refine z_iconst X d_Tre_has_25 (v := 0) (by decide) ?_
      exact z_zret X d_Tre_has_26 rfl ⟨by first | rw [if_pos (thas_iff.mpr ⟨h1, h9⟩)] | rw [if_neg (fun q => (thas_iff.mp q).1 h1)] | rw [if_neg (fun q => (thas_iff.mp q).2 h9)], rfl, rfl⟩
    · skip
      refine z_iload_n X d_Tre_has_12 rfl ?_
      refine z_aload_n X d_Tre_has_13 rfl ?_
      refine z_get X d_Tre_has_14 (hP.lo 0 rfl) (hP.at 0 rfl) cl_Tre in_Tre 0 (by decide) fl_Tre_9 rfl rfl ?_
      refine z_alen X d_Tre_has_17 (hP.lo 1 rfl) (hP.at 1 rfl) (t0 := 0) rfl rfl ?_
      refine z_icmp_ge X 25 d_Tre_has_18 (by decide) (fun h18 => ?_) (fun h18 => ?_)
      · skip
        exact absurd (Int32.le_trans (nI_le hu (by omega)) h18) h9
      · skip
        refine z_iconst X d_Tre_has_21 (v := 1) (by decide) ?_
        refine z_goto X 26 d_Tre_has_22 (by decide) ?_
        exact z_zret X d_Tre_has_26 rfl ⟨by first | rw [if_pos (thas_iff.mpr ⟨h1, h9⟩)] | rw [if_neg (fun q => (thas_iff.mp q).1 h1)] | rw [if_neg (fun q => (thas_iff.mp q).2 h9)], rfl, rfl⟩
theorem d_Tre_kindOf_0 : decode prog_7_method_10_code 0 = .ok (.aload_n 0, 1) := by decide +kernel
theorem d_Tre_kindOf_1 : decode prog_7_method_10_code 1 = .ok (.iload_n 1, 1) := by decide +kernel
theorem d_Tre_kindOf_2 : decode prog_7_method_10_code 2 = .ok (.invokevirtual 47, 3) := by decide +kernel
theorem d_Tre_kindOf_5 : decode prog_7_method_10_code 5 = .ok (.ifCond .eq 12, 3) := by decide +kernel
theorem d_Tre_kindOf_8 : decode prog_7_method_10_code 8 = .ok (.aload_n 0, 1) := by decide +kernel
theorem d_Tre_kindOf_9 : decode prog_7_method_10_code 9 = .ok (.getfield 9, 3) := by decide +kernel
theorem d_Tre_kindOf_12 : decode prog_7_method_10_code 12 = .ok (.iload_n 1, 1) := by decide +kernel
theorem d_Tre_kindOf_13 : decode prog_7_method_10_code 13 = .ok (.iaload, 1) := by decide +kernel
theorem d_Tre_kindOf_14 : decode prog_7_method_10_code 14 = .ok (.goto 4, 3) := by decide +kernel
theorem d_Tre_kindOf_17 : decode prog_7_method_10_code 17 = .ok (.iconst (-1), 1) := by decide +kernel
theorem d_Tre_kindOf_18 : decode prog_7_method_10_code 18 = .ok (.ireturn, 1) := by decide +kernel
set_option maxHeartbeats 4000000 in
set_option maxRecDepth 100000 in
theorem c_Tre_kindOf {tr ka va ra n u : Nat} {K V R : Nat → Int32} (hP : zP b0 N f (wTre ck tr ka va ra n K V R u)) (hu : u ≤ n) (hn : n ≤ 40) {i : Int32} : zK l D ck ad b0 y_Tre_kindOf prog_7_method_10_code 2 ((some FieldType.int)) 1 0 0 [.ref tr, .int i] N f (fun r N' f' => r = some (.int (sgv K u i)) ∧ N = N' ∧ f = f') := by
  refine zM.of zG_w (by decide) (Nat.le_of_ble_eq_true rfl) ?_
  intro zp ze zst zm zar zbe zme zc X hnm hb0
  refine z_aload_n X d_Tre_kindOf_0 rfl ?_
  refine z_iload_n X d_Tre_kindOf_1 rfl ?_
  refine z_callV X zG_ok (c_Tre_has hP hu hn) d_Tre_kindOf_2 ⟨(z_cb (n := 1) X.2.2.2.2.1 ml_Tre_47 mc_Tre_has ini_Tre (by decide +kernel) rfl rfl ⟨Nat.le_of_ble_eq_true rfl, Nat.le_of_ble_eq_true rfl⟩), X.2.2.2.2.1 _ im_Tre_has, X.2.2.2.2.1 _ sel_Tre_has⟩ (hP.lo 0 rfl) (hP.at 0 rfl) cl_Tre rfl rfl (Nat.le_of_ble_eq_true rfl) ⟨Nat.le_of_ble_eq_true rfl, Nat.le_of_ble_eq_true rfl⟩ (fun r N1 f1 hp hN1 => ?_)
  obtain ⟨rfl, rfl, rfl⟩ := hp
  refine z_if_eq X 17 d_Tre_kindOf_5 (by decide) (fun h5 => ?_) (fun h5 => ?_)
  · skip
    refine z_iconst X d_Tre_kindOf_17 (v := -1) (by decide) ?_
    exact z_iret X d_Tre_kindOf_18 ⟨by first | rw [thas_yes (zb_t h5)] | rw [thas_no (zb_f h5)], rfl, rfl⟩
  · skip
    refine z_aload_n X d_Tre_kindOf_8 rfl ?_
    refine z_get X d_Tre_kindOf_9 (hP.lo 0 rfl) (hP.at 0 rfl) cl_Tre in_Tre 0 (by decide) fl_Tre_9 rfl rfl ?_
    refine z_iload_n X d_Tre_kindOf_12 rfl ?_
    refine z_iald X d_Tre_kindOf_13 (hP.lo 1 rfl) (hP.at 1 rfl) (t0 := 0) rfl (zin (thas_iff.mp (zb_t h5)).1 (thas_iff.mp (zb_t h5)).2 hu (by omega)) ?_
    refine z_goto X 18 d_Tre_kindOf_14 (by decide) ?_
    exact z_iret X d_Tre_kindOf_18 ⟨by first | rw [thas_yes (zb_t h5)] | rw [thas_no (zb_f h5)], rfl, rfl⟩
theorem d_Tre_valueOf_0 : decode prog_7_method_11_code 0 = .ok (.aload_n 0, 1) := by decide +kernel
theorem d_Tre_valueOf_1 : decode prog_7_method_11_code 1 = .ok (.iload_n 1, 1) := by decide +kernel
theorem d_Tre_valueOf_2 : decode prog_7_method_11_code 2 = .ok (.invokevirtual 47, 3) := by decide +kernel
theorem d_Tre_valueOf_5 : decode prog_7_method_11_code 5 = .ok (.ifCond .eq 12, 3) := by decide +kernel
theorem d_Tre_valueOf_8 : decode prog_7_method_11_code 8 = .ok (.aload_n 0, 1) := by decide +kernel
theorem d_Tre_valueOf_9 : decode prog_7_method_11_code 9 = .ok (.getfield 15, 3) := by decide +kernel
theorem d_Tre_valueOf_12 : decode prog_7_method_11_code 12 = .ok (.iload_n 1, 1) := by decide +kernel
theorem d_Tre_valueOf_13 : decode prog_7_method_11_code 13 = .ok (.iaload, 1) := by decide +kernel
theorem d_Tre_valueOf_14 : decode prog_7_method_11_code 14 = .ok (.goto 4, 3) := by decide +kernel
theorem d_Tre_valueOf_17 : decode prog_7_method_11_code 17 = .ok (.iconst (-1), 1) := by decide +kernel
theorem d_Tre_valueOf_18 : decode prog_7_method_11_code 18 = .ok (.ireturn, 1) := by decide +kernel
set_option maxHeartbeats 4000000 in
set_option maxRecDepth 100000 in
theorem c_Tre_valueOf {tr ka va ra n u : Nat} {K V R : Nat → Int32} (hP : zP b0 N f (wTre ck tr ka va ra n K V R u)) (hu : u ≤ n) (hn : n ≤ 40) {i : Int32} : zK l D ck ad b0 y_Tre_valueOf prog_7_method_11_code 2 ((some FieldType.int)) 1 0 0 [.ref tr, .int i] N f (fun r N' f' => r = some (.int (sgv V u i)) ∧ N = N' ∧ f = f') := by
  refine zM.of zG_w (by decide) (Nat.le_of_ble_eq_true rfl) ?_
  intro zp ze zst zm zar zbe zme zc X hnm hb0
  refine z_aload_n X d_Tre_valueOf_0 rfl ?_
  refine z_iload_n X d_Tre_valueOf_1 rfl ?_
  refine z_callV X zG_ok (c_Tre_has hP hu hn) d_Tre_valueOf_2 ⟨(z_cb (n := 1) X.2.2.2.2.1 ml_Tre_47 mc_Tre_has ini_Tre (by decide +kernel) rfl rfl ⟨Nat.le_of_ble_eq_true rfl, Nat.le_of_ble_eq_true rfl⟩), X.2.2.2.2.1 _ im_Tre_has, X.2.2.2.2.1 _ sel_Tre_has⟩ (hP.lo 0 rfl) (hP.at 0 rfl) cl_Tre rfl rfl (Nat.le_of_ble_eq_true rfl) ⟨Nat.le_of_ble_eq_true rfl, Nat.le_of_ble_eq_true rfl⟩ (fun r N1 f1 hp hN1 => ?_)
  obtain ⟨rfl, rfl, rfl⟩ := hp
  refine z_if_eq X 17 d_Tre_valueOf_5 (by decide) (fun h5 => ?_) (fun h5 => ?_)
  · skip
    refine z_iconst X d_Tre_valueOf_17 (v := -1) (by decide) ?_
    exact z_iret X d_Tre_valueOf_18 ⟨by first | rw [thas_yes (zb_t h5)] | rw [thas_no (zb_f h5)], rfl, rfl⟩
  · skip
    refine z_aload_n X d_Tre_valueOf_8 rfl ?_
    refine z_get X d_Tre_valueOf_9 (hP.lo 0 rfl) (hP.at 0 rfl) cl_Tre in_Tre 1 (by decide) fl_Tre_15 rfl rfl ?_
    refine z_iload_n X d_Tre_valueOf_12 rfl ?_
    refine z_iald X d_Tre_valueOf_13 (hP.lo 2 rfl) (hP.at 2 rfl) (t0 := 0) rfl (zin (thas_iff.mp (zb_t h5)).1 (thas_iff.mp (zb_t h5)).2 hu (by omega)) ?_
    refine z_goto X 18 d_Tre_valueOf_14 (by decide) ?_
    exact z_iret X d_Tre_valueOf_18 ⟨by first | rw [thas_yes (zb_t h5)] | rw [thas_no (zb_f h5)], rfl, rfl⟩
theorem d_Tre_rightOf_0 : decode prog_7_method_13_code 0 = .ok (.aload_n 0, 1) := by decide +kernel
theorem d_Tre_rightOf_1 : decode prog_7_method_13_code 1 = .ok (.iload_n 1, 1) := by decide +kernel
theorem d_Tre_rightOf_2 : decode prog_7_method_13_code 2 = .ok (.invokevirtual 47, 3) := by decide +kernel
theorem d_Tre_rightOf_5 : decode prog_7_method_13_code 5 = .ok (.ifCond .eq 12, 3) := by decide +kernel
theorem d_Tre_rightOf_8 : decode prog_7_method_13_code 8 = .ok (.aload_n 0, 1) := by decide +kernel
theorem d_Tre_rightOf_9 : decode prog_7_method_13_code 9 = .ok (.getfield 18, 3) := by decide +kernel
theorem d_Tre_rightOf_12 : decode prog_7_method_13_code 12 = .ok (.iload_n 1, 1) := by decide +kernel
theorem d_Tre_rightOf_13 : decode prog_7_method_13_code 13 = .ok (.iaload, 1) := by decide +kernel
theorem d_Tre_rightOf_14 : decode prog_7_method_13_code 14 = .ok (.goto 4, 3) := by decide +kernel
theorem d_Tre_rightOf_17 : decode prog_7_method_13_code 17 = .ok (.iconst (-1), 1) := by decide +kernel
theorem d_Tre_rightOf_18 : decode prog_7_method_13_code 18 = .ok (.ireturn, 1) := by decide +kernel
set_option maxHeartbeats 4000000 in
set_option maxRecDepth 100000 in
theorem c_Tre_rightOf {tr ka va ra n u : Nat} {K V R : Nat → Int32} (hP : zP b0 N f (wTre ck tr ka va ra n K V R u)) (hu : u ≤ n) (hn : n ≤ 40) {i : Int32} : zK l D ck ad b0 y_Tre_rightOf prog_7_method_13_code 2 ((some FieldType.int)) 1 0 0 [.ref tr, .int i] N f (fun r N' f' => r = some (.int (sgv R u i)) ∧ N = N' ∧ f = f') := by
  refine zM.of zG_w (by decide) (Nat.le_of_ble_eq_true rfl) ?_
  intro zp ze zst zm zar zbe zme zc X hnm hb0
  refine z_aload_n X d_Tre_rightOf_0 rfl ?_
  refine z_iload_n X d_Tre_rightOf_1 rfl ?_
  refine z_callV X zG_ok (c_Tre_has hP hu hn) d_Tre_rightOf_2 ⟨(z_cb (n := 1) X.2.2.2.2.1 ml_Tre_47 mc_Tre_has ini_Tre (by decide +kernel) rfl rfl ⟨Nat.le_of_ble_eq_true rfl, Nat.le_of_ble_eq_true rfl⟩), X.2.2.2.2.1 _ im_Tre_has, X.2.2.2.2.1 _ sel_Tre_has⟩ (hP.lo 0 rfl) (hP.at 0 rfl) cl_Tre rfl rfl (Nat.le_of_ble_eq_true rfl) ⟨Nat.le_of_ble_eq_true rfl, Nat.le_of_ble_eq_true rfl⟩ (fun r N1 f1 hp hN1 => ?_)
  obtain ⟨rfl, rfl, rfl⟩ := hp
  refine z_if_eq X 17 d_Tre_rightOf_5 (by decide) (fun h5 => ?_) (fun h5 => ?_)
  · skip
    refine z_iconst X d_Tre_rightOf_17 (v := -1) (by decide) ?_
    exact z_iret X d_Tre_rightOf_18 ⟨by first | rw [thas_yes (zb_t h5)] | rw [thas_no (zb_f h5)], rfl, rfl⟩
  · skip
    refine z_aload_n X d_Tre_rightOf_8 rfl ?_
    refine z_get X d_Tre_rightOf_9 (hP.lo 0 rfl) (hP.at 0 rfl) cl_Tre in_Tre 2 (by decide) fl_Tre_18 rfl rfl ?_
    refine z_iload_n X d_Tre_rightOf_12 rfl ?_
    refine z_iald X d_Tre_rightOf_13 (hP.lo 3 rfl) (hP.at 3 rfl) (t0 := 0) rfl (zin (thas_iff.mp (zb_t h5)).1 (thas_iff.mp (zb_t h5)).2 hu (by omega)) ?_
    refine z_goto X 18 d_Tre_rightOf_14 (by decide) ?_
    exact z_iret X d_Tre_rightOf_18 ⟨by first | rw [thas_yes (zb_t h5)] | rw [thas_no (zb_f h5)], rfl, rfl⟩
theorem d_Tre_leftOf_0 : decode prog_7_method_12_code 0 = .ok (.aload_n 0, 1) := by decide +kernel
theorem d_Tre_leftOf_1 : decode prog_7_method_12_code 1 = .ok (.iload_n 1, 1) := by decide +kernel
theorem d_Tre_leftOf_2 : decode prog_7_method_12_code 2 = .ok (.invokevirtual 47, 3) := by decide +kernel
theorem d_Tre_leftOf_5 : decode prog_7_method_12_code 5 = .ok (.ifCond .eq 20, 3) := by decide +kernel
theorem d_Tre_leftOf_8 : decode prog_7_method_12_code 8 = .ok (.aload_n 0, 1) := by decide +kernel
theorem d_Tre_leftOf_9 : decode prog_7_method_12_code 9 = .ok (.getfield 9, 3) := by decide +kernel
theorem d_Tre_leftOf_12 : decode prog_7_method_12_code 12 = .ok (.iload_n 1, 1) := by decide +kernel
theorem d_Tre_leftOf_13 : decode prog_7_method_12_code 13 = .ok (.iaload, 1) := by decide +kernel
theorem d_Tre_leftOf_14 : decode prog_7_method_12_code 14 = .ok (.bipush 10, 2) := by decide +kernel
theorem d_Tre_leftOf_16 : decode prog_7_method_12_code 16 = .ok (.if_icmp .gt 9, 3) := by decide +kernel
theorem d_Tre_leftOf_19 : decode prog_7_method_12_code 19 = .ok (.iload_n 1, 1) := by decide +kernel
theorem d_Tre_leftOf_20 : decode prog_7_method_12_code 20 = .ok (.iconst 1, 1) := by decide +kernel
theorem d_Tre_leftOf_21 : decode prog_7_method_12_code 21 = .ok (.iadd, 1) := by decide +kernel
theorem d_Tre_leftOf_22 : decode prog_7_method_12_code 22 = .ok (.goto 4, 3) := by decide +kernel
theorem d_Tre_leftOf_25 : decode prog_7_method_12_code 25 = .ok (.iconst (-1), 1) := by decide +kernel
theorem d_Tre_leftOf_26 : decode prog_7_method_12_code 26 = .ok (.ireturn, 1) := by decide +kernel
set_option maxHeartbeats 4000000 in
set_option maxRecDepth 100000 in
theorem c_Tre_leftOf {tr ka va ra n u : Nat} {K V R : Nat → Int32} (hP : zP b0 N f (wTre ck tr ka va ra n K V R u)) (hu : u ≤ n) (hn : n ≤ 40) {i : Int32} : zK l D ck ad b0 y_Tre_leftOf prog_7_method_12_code 2 ((some FieldType.int)) 1 0 0 [.ref tr, .int i] N f (fun r N' f' => r = some (.int (tleft K u i)) ∧ N = N' ∧ f = f') := by
  refine zM.of zG_w (by decide) (Nat.le_of_ble_eq_true rfl) ?_
  intro zp ze zst zm zar zbe zme zc X hnm hb0
  refine z_aload_n X d_Tre_leftOf_0 rfl ?_
  refine z_iload_n X d_Tre_leftOf_1 rfl ?_
  refine z_callV X zG_ok (c_Tre_has hP hu hn) d_Tre_leftOf_2 ⟨(z_cb (n := 1) X.2.2.2.2.1 ml_Tre_47 mc_Tre_has ini_Tre (by decide +kernel) rfl rfl ⟨Nat.le_of_ble_eq_true rfl, Nat.le_of_ble_eq_true rfl⟩), X.2.2.2.2.1 _ im_Tre_has, X.2.2.2.2.1 _ sel_Tre_has⟩ (hP.lo 0 rfl) (hP.at 0 rfl) cl_Tre rfl rfl (Nat.le_of_ble_eq_true rfl) ⟨Nat.le_of_ble_eq_true rfl, Nat.le_of_ble_eq_true rfl⟩ (fun r N1 f1 hp hN1 => ?_)
  obtain ⟨rfl, rfl, rfl⟩ := hp
  refine z_if_eq X 25 d_Tre_leftOf_5 (by decide) (fun h5 => ?_) (fun h5 => ?_)
  · skip
    refine z_iconst X d_Tre_leftOf_25 (v := -1) (by decide) ?_
    exact z_iret X d_Tre_leftOf_26 ⟨by first | rw [tleft, if_pos (zb_t h5), if_pos h16] | rw [tleft, if_pos (zb_t h5), if_neg h16] | rw [tleft, if_neg (zb_f h5)], rfl, rfl⟩
  · skip
    refine z_aload_n X d_Tre_leftOf_8 rfl ?_
    refine z_get X d_Tre_leftOf_9 (hP.lo 0 rfl) (hP.at 0 rfl) cl_Tre in_Tre 0 (by decide) fl_Tre_9 rfl rfl ?_
    refine z_iload_n X d_Tre_leftOf_12 rfl ?_
    refine z_iald X d_Tre_leftOf_13 (hP.lo 1 rfl) (hP.at 1 rfl) (t0 := 0) rfl (zin (thas_iff.mp (zb_t h5)).1 (thas_iff.mp (zb_t h5)).2 hu (by omega)) ?_
    refine z_bipush X d_Tre_leftOf_14 (v := 10) (by decide) ?_
    refine z_icmp_gt X 25 d_Tre_leftOf_16 (by decide) (fun h16 => ?_) (fun h16 => ?_)
    · skip
      refine z_iconst X d_Tre_leftOf_25 (v := -1) (by decide) ?_
      exact z_iret X d_Tre_leftOf_26 ⟨by first | rw [tleft, if_pos (zb_t h5), if_pos h16] | rw [tleft, if_pos (zb_t h5), if_neg h16] | rw [tleft, if_neg (zb_f h5)], rfl, rfl⟩
    · skip
      refine z_iload_n X d_Tre_leftOf_19 rfl ?_
      refine z_iconst X d_Tre_leftOf_20 (v := 1) (by decide) ?_
      refine z_iadd X d_Tre_leftOf_21 ?_
      refine z_goto X 26 d_Tre_leftOf_22 (by decide) ?_
      exact z_iret X d_Tre_leftOf_26 ⟨by first | rw [tleft, if_pos (zb_t h5), if_pos h16] | rw [tleft, if_pos (zb_t h5), if_neg h16] | rw [tleft, if_neg (zb_f h5)], rfl, rfl⟩
theorem d_Tre_setLastValue_0 : decode prog_7_method_8_code 0 = .ok (.aload_n 0, 1) := by decide +kernel
theorem d_Tre_setLastValue_1 : decode prog_7_method_8_code 1 = .ok (.getfield 21, 3) := by decide +kernel
theorem d_Tre_setLastValue_4 : decode prog_7_method_8_code 4 = .ok (.ifCond .le 27, 3) := by decide +kernel
theorem d_Tre_setLastValue_7 : decode prog_7_method_8_code 7 = .ok (.aload_n 0, 1) := by decide +kernel
theorem d_Tre_setLastValue_8 : decode prog_7_method_8_code 8 = .ok (.getfield 21, 3) := by decide +kernel
theorem d_Tre_setLastValue_11 : decode prog_7_method_8_code 11 = .ok (.aload_n 0, 1) := by decide +kernel
theorem d_Tre_setLastValue_12 : decode prog_7_method_8_code 12 = .ok (.getfield 15, 3) := by decide +kernel
theorem d_Tre_setLastValue_15 : decode prog_7_method_8_code 15 = .ok (.arraylength, 1) := by decide +kernel
theorem d_Tre_setLastValue_16 : decode prog_7_method_8_code 16 = .ok (.if_icmp .gt 15, 3) := by decide +kernel
theorem d_Tre_setLastValue_19 : decode prog_7_method_8_code 19 = .ok (.aload_n 0, 1) := by decide +kernel
theorem d_Tre_setLastValue_20 : decode prog_7_method_8_code 20 = .ok (.getfield 15, 3) := by decide +kernel
theorem d_Tre_setLastValue_23 : decode prog_7_method_8_code 23 = .ok (.aload_n 0, 1) := by decide +kernel
theorem d_Tre_setLastValue_24 : decode prog_7_method_8_code 24 = .ok (.getfield 21, 3) := by decide +kernel
theorem d_Tre_setLastValue_27 : decode prog_7_method_8_code 27 = .ok (.iconst 1, 1) := by decide +kernel
theorem d_Tre_setLastValue_28 : decode prog_7_method_8_code 28 = .ok (.isub, 1) := by decide +kernel
theorem d_Tre_setLastValue_29 : decode prog_7_method_8_code 29 = .ok (.iload_n 1, 1) := by decide +kernel
theorem d_Tre_setLastValue_30 : decode prog_7_method_8_code 30 = .ok (.iastore, 1) := by decide +kernel
theorem d_Tre_setLastValue_31 : decode prog_7_method_8_code 31 = .ok (.return_, 1) := by decide +kernel
set_option maxHeartbeats 4000000 in
set_option maxRecDepth 100000 in
theorem c_Tre_setLastValue {tr ka va ra n u : Nat} {K V R : Nat → Int32} (hP : zP b0 N f (wTre ck tr ka va ra n K V R u)) (hu : u ≤ n) (hn : n ≤ 40) (h0 : 0 < u) {x : Int32} : zK l D ck ad b0 y_Tre_setLastValue prog_7_method_8_code 2 (none) 0 0 0 [.ref tr, .int x] N f (fun r N' f' => r = none ∧ N = N' ∧ f' = va_up f va (aI ck n (upd V (u - 1) x))) := by
  refine zM.of zG_w (by decide) (Nat.le_of_ble_eq_true rfl) ?_
  intro zp ze zst zm zar zbe zme zc X hnm hb0
  refine z_aload_n X d_Tre_setLastValue_0 rfl ?_
  refine z_get X d_Tre_setLastValue_1 (hP.lo 0 rfl) (hP.at 0 rfl) cl_Tre in_Tre 3 (by decide) fl_Tre_21 rfl rfl ?_
  refine z_if_le X 31 d_Tre_setLastValue_4 (by decide) (fun h4 => ?_) (fun h4 => ?_)
  · skip
    exact absurd h4 (nI_nle h0 (by omega))
  · skip
    refine z_aload_n X d_Tre_setLastValue_7 rfl ?_
    refine z_get X d_Tre_setLastValue_8 (hP.lo 0 rfl) (hP.at 0 rfl) cl_Tre in_Tre 3 (by decide) fl_Tre_21 rfl rfl ?_
    refine z_aload_n X d_Tre_setLastValue_11 rfl ?_
    refine z_get X d_Tre_setLastValue_12 (hP.lo 0 rfl) (hP.at 0 rfl) cl_Tre in_Tre 1 (by decide) fl_Tre_15 rfl rfl ?_
    refine z_alen X d_Tre_setLastValue_15 (hP.lo 2 rfl) (hP.at 2 rfl) (t0 := 0) rfl rfl ?_
    refine z_icmp_gt X 31 d_Tre_setLastValue_16 (by decide) (fun h16 => ?_) (fun h16 => ?_)
    · skip
      exact absurd h16 (nI_nlt hu (by omega))
    · skip
      refine z_aload_n X d_Tre_setLastValue_19 rfl ?_
      refine z_get X d_Tre_setLastValue_20 (hP.lo 0 rfl) (hP.at 0 rfl) cl_Tre in_Tre 1 (by decide) fl_Tre_15 rfl rfl ?_
      refine z_aload_n X d_Tre_setLastValue_23 rfl ?_
      refine z_get X d_Tre_setLastValue_24 (hP.lo 0 rfl) (hP.at 0 rfl) cl_Tre in_Tre 3 (by decide) fl_Tre_21 rfl rfl ?_
      refine z_iconst X d_Tre_setLastValue_27 (v := 1) (by decide) ?_
      refine z_isub X d_Tre_setLastValue_28 ?_
      refine z_iload_n X d_Tre_setLastValue_29 rfl ?_
      refine z_iastP X d_Tre_setLastValue_30 hP 2 rfl (t0 := 0) rfl (by rw [show nI u - 1 = nI (u - 1) from pk_sub (b := 1) (by omega)]; exact vp_in_nI (by omega) (by omega)) (fun hP => ?_)
      exact z_vret X d_Tre_setLastValue_31 ⟨rfl, rfl, by rw [show nI u - 1 = nI (u - 1) from pk_sub (b := 1) (by omega), nI_clamp (by omega)]⟩
theorem d_Tre_append_0 : decode prog_7_method_6_code 0 = .ok (.aload_n 0, 1) := by decide +kernel
theorem d_Tre_append_1 : decode prog_7_method_6_code 1 = .ok (.getfield 21, 3) := by decide +kernel
theorem d_Tre_append_4 : decode prog_7_method_6_code 4 = .ok (.ifCond .lt 15, 3) := by decide +kernel
theorem d_Tre_append_7 : decode prog_7_method_6_code 7 = .ok (.aload_n 0, 1) := by decide +kernel
theorem d_Tre_append_8 : decode prog_7_method_6_code 8 = .ok (.getfield 21, 3) := by decide +kernel
theorem d_Tre_append_11 : decode prog_7_method_6_code 11 = .ok (.aload_n 0, 1) := by decide +kernel
theorem d_Tre_append_12 : decode prog_7_method_6_code 12 = .ok (.getfield 9, 3) := by decide +kernel
theorem d_Tre_append_15 : decode prog_7_method_6_code 15 = .ok (.arraylength, 1) := by decide +kernel
theorem d_Tre_append_16 : decode prog_7_method_6_code 16 = .ok (.if_icmp .lt 5, 3) := by decide +kernel
theorem d_Tre_append_19 : decode prog_7_method_6_code 19 = .ok (.iconst 0, 1) := by decide +kernel
theorem d_Tre_append_20 : decode prog_7_method_6_code 20 = .ok (.ireturn, 1) := by decide +kernel
theorem d_Tre_append_21 : decode prog_7_method_6_code 21 = .ok (.aload_n 0, 1) := by decide +kernel
theorem d_Tre_append_22 : decode prog_7_method_6_code 22 = .ok (.getfield 9, 3) := by decide +kernel
theorem d_Tre_append_25 : decode prog_7_method_6_code 25 = .ok (.aload_n 0, 1) := by decide +kernel
theorem d_Tre_append_26 : decode prog_7_method_6_code 26 = .ok (.getfield 21, 3) := by decide +kernel
theorem d_Tre_append_29 : decode prog_7_method_6_code 29 = .ok (.iload_n 1, 1) := by decide +kernel
theorem d_Tre_append_30 : decode prog_7_method_6_code 30 = .ok (.iastore, 1) := by decide +kernel
theorem d_Tre_append_31 : decode prog_7_method_6_code 31 = .ok (.aload_n 0, 1) := by decide +kernel
theorem d_Tre_append_32 : decode prog_7_method_6_code 32 = .ok (.getfield 15, 3) := by decide +kernel
theorem d_Tre_append_35 : decode prog_7_method_6_code 35 = .ok (.aload_n 0, 1) := by decide +kernel
theorem d_Tre_append_36 : decode prog_7_method_6_code 36 = .ok (.getfield 21, 3) := by decide +kernel
theorem d_Tre_append_39 : decode prog_7_method_6_code 39 = .ok (.iload_n 2, 1) := by decide +kernel
theorem d_Tre_append_40 : decode prog_7_method_6_code 40 = .ok (.iastore, 1) := by decide +kernel
theorem d_Tre_append_41 : decode prog_7_method_6_code 41 = .ok (.aload_n 0, 1) := by decide +kernel
theorem d_Tre_append_42 : decode prog_7_method_6_code 42 = .ok (.getfield 18, 3) := by decide +kernel
theorem d_Tre_append_45 : decode prog_7_method_6_code 45 = .ok (.aload_n 0, 1) := by decide +kernel
theorem d_Tre_append_46 : decode prog_7_method_6_code 46 = .ok (.getfield 21, 3) := by decide +kernel
theorem d_Tre_append_49 : decode prog_7_method_6_code 49 = .ok (.iconst (-1), 1) := by decide +kernel
theorem d_Tre_append_50 : decode prog_7_method_6_code 50 = .ok (.iastore, 1) := by decide +kernel
theorem d_Tre_append_51 : decode prog_7_method_6_code 51 = .ok (.aload_n 0, 1) := by decide +kernel
theorem d_Tre_append_52 : decode prog_7_method_6_code 52 = .ok (.dup, 1) := by decide +kernel
theorem d_Tre_append_53 : decode prog_7_method_6_code 53 = .ok (.getfield 21, 3) := by decide +kernel
theorem d_Tre_append_56 : decode prog_7_method_6_code 56 = .ok (.iconst 1, 1) := by decide +kernel
theorem d_Tre_append_57 : decode prog_7_method_6_code 57 = .ok (.iadd, 1) := by decide +kernel
theorem d_Tre_append_58 : decode prog_7_method_6_code 58 = .ok (.putfield 21, 3) := by decide +kernel
theorem d_Tre_append_61 : decode prog_7_method_6_code 61 = .ok (.iconst 1, 1) := by decide +kernel
theorem d_Tre_append_62 : decode prog_7_method_6_code 62 = .ok (.ireturn, 1) := by decide +kernel
set_option maxHeartbeats 4000000 in
set_option maxRecDepth 100000 in
theorem c_Tre_append {tr ka va ra n u : Nat} {K V R : Nat → Int32} (hP : zP b0 N f (wTre ck tr ka va ra n K V R u)) (hu : u ≤ n) (hn : n ≤ 40) {kd x : Int32} : zK l D ck ad b0 y_Tre_append prog_7_method_6_code 3 ((some FieldType.boolean)) 0 0 0 [.ref tr, .int kd, .int x] N f (fun r N' f' => r = some (.int (if u < n then 1 else 0)) ∧ N = N' ∧ (u < n → zP b0 N f' (wTre ck tr ka va ra n (upd K u kd) (upd V u x) (upd R u (-1)) (u + 1)) ∧ zF N f f' [tr, ka, va, ra]) ∧ (¬ u < n → f = f')) := by
  refine zM.of zG_w (by decide) (Nat.le_of_ble_eq_true rfl) ?_
  intro zp ze zst zm zar zbe zme zc X hnm hb0
  have hF : zF N f f [tr, ka, va, ra] := zF.rf
  refine z_aload_n X d_Tre_append_0 rfl ?_
  refine z_get X d_Tre_append_1 (hP.lo 0 rfl) (hP.at 0 rfl) cl_Tre in_Tre 3 (by decide) fl_Tre_21 rfl rfl ?_
  refine z_if_lt X 19 d_Tre_append_4 (by decide) (fun h4 => ?_) (fun h4 => ?_)
  · skip
    exact absurd h4 (nI_pos (by omega))
  · skip
    refine z_aload_n X d_Tre_append_7 rfl ?_
    refine z_get X d_Tre_append_8 (hP.lo 0 rfl) (hP.at 0 rfl) cl_Tre in_Tre 3 (by decide) fl_Tre_21 rfl rfl ?_
    refine z_aload_n X d_Tre_append_11 rfl ?_
    refine z_get X d_Tre_append_12 (hP.lo 0 rfl) (hP.at 0 rfl) cl_Tre in_Tre 0 (by decide) fl_Tre_9 rfl rfl ?_
    refine z_alen X d_Tre_append_15 (hP.lo 1 rfl) (hP.at 1 rfl) (t0 := 0) rfl rfl ?_
    refine z_icmp_lt X 21 d_Tre_append_16 (by decide) (fun h16 => ?_) (fun h16 => ?_)
    · skip
      have hun : u < n := (nI_ltI (b := n) (by omega) (by omega)).mp h16
      refine z_aload_n X d_Tre_append_21 rfl ?_
      refine z_get X d_Tre_append_22 (hP.lo 0 rfl) (hP.at 0 rfl) cl_Tre in_Tre 0 (by decide) fl_Tre_9 rfl rfl ?_
      refine z_aload_n X d_Tre_append_25 rfl ?_
      refine z_get X d_Tre_append_26 (hP.lo 0 rfl) (hP.at 0 rfl) cl_Tre in_Tre 3 (by decide) fl_Tre_21 rfl rfl ?_
      refine z_iload_n X d_Tre_append_29 rfl ?_
      refine z_iastP X d_Tre_append_30 hP 1 rfl (t0 := 0) rfl (vp_in_nI hun (by omega)) (fun hP => ?_)
      have hF := hF.by (by simp) hP
      refine z_aload_n X d_Tre_append_31 rfl ?_
      refine z_get X d_Tre_append_32 (hP.lo 0 rfl) (hP.at 0 rfl) cl_Tre in_Tre 1 (by decide) fl_Tre_15 rfl rfl ?_
      refine z_aload_n X d_Tre_append_35 rfl ?_
      refine z_get X d_Tre_append_36 (hP.lo 0 rfl) (hP.at 0 rfl) cl_Tre in_Tre 3 (by decide) fl_Tre_21 rfl rfl ?_
      refine z_iload_n X d_Tre_append_39 rfl ?_
      refine z_iastP X d_Tre_append_40 hP 2 rfl (t0 := 0) rfl (vp_in_nI hun (by omega)) (fun hP => ?_)
      have hF := hF.by (by simp) hP
      refine z_aload_n X d_Tre_append_41 rfl ?_
      refine z_get X d_Tre_append_42 (hP.lo 0 rfl) (hP.at 0 rfl) cl_Tre in_Tre 2 (by decide) fl_Tre_18 rfl rfl ?_
      refine z_aload_n X d_Tre_append_45 rfl ?_
      refine z_get X d_Tre_append_46 (hP.lo 0 rfl) (hP.at 0 rfl) cl_Tre in_Tre 3 (by decide) fl_Tre_21 rfl rfl ?_
      refine z_iconst X d_Tre_append_49 (v := -1) (by decide) ?_
      refine z_iastP X d_Tre_append_50 hP 3 rfl (t0 := 0) rfl (vp_in_nI hun (by omega)) (fun hP => ?_)
      have hF := hF.by (by simp) hP
      refine z_aload_n X d_Tre_append_51 rfl ?_
      refine z_dup X d_Tre_append_52 rfl ?_
      refine z_get X d_Tre_append_53 (hP.lo 0 rfl) (hP.at 0 rfl) cl_Tre in_Tre 3 (by decide) fl_Tre_21 rfl rfl ?_
      refine z_iconst X d_Tre_append_56 (v := 1) (by decide) ?_
      refine z_iadd X d_Tre_append_57 ?_
      refine z_putP X t_Tre ty_Tre n_Tre d_Tre_append_58 hP 0 rfl cl_Tre in_Tre 3 (by decide) fl_Tre_21 rfl rfl rfl rfl rfl (Nat.le_of_ble_eq_true rfl) (fun hP => ?_)
      have hF := hF.by (by simp) hP
      refine z_iconst X d_Tre_append_61 (v := 1) (by decide) ?_
      exact z_zret X d_Tre_append_62 rfl ⟨by rw [if_pos hun], rfl, fun _ => ⟨hP.eq (by rw [nI_clamp (n := u) (by omega), show nI u + 1 = nI (u + 1) from nI_1 u]; rfl), hF⟩, fun q => absurd hun q⟩
    · skip
      have hun : ¬ u < n := fun q => h16 (nI_lt q (by omega))
      refine z_iconst X d_Tre_append_19 (v := 0) (by decide) ?_
      exact z_zret X d_Tre_append_20 rfl ⟨by rw [if_neg hun], rfl, fun q => absurd q hun, fun _ => rfl⟩
theorem d_Tre_insert_0 : decode prog_7_method_7_code 0 = .ok (.iload_n 1, 1) := by decide +kernel
theorem d_Tre_insert_1 : decode prog_7_method_7_code 1 = .ok (.ifCond .lt 20, 3) := by decide +kernel
theorem d_Tre_insert_4 : decode prog_7_method_7_code 4 = .ok (.iload_n 1, 1) := by decide +kernel
theorem d_Tre_insert_5 : decode prog_7_method_7_code 5 = .ok (.aload_n 0, 1) := by decide +kernel
theorem d_Tre_insert_6 : decode prog_7_method_7_code 6 = .ok (.getfield 21, 3) := by decide +kernel
theorem d_Tre_insert_9 : decode prog_7_method_7_code 9 = .ok (.if_icmp .gt 12, 3) := by decide +kernel
theorem d_Tre_insert_12 : decode prog_7_method_7_code 12 = .ok (.aload_n 0, 1) := by decide +kernel
theorem d_Tre_insert_13 : decode prog_7_method_7_code 13 = .ok (.iload_n 2, 1) := by decide +kernel
theorem d_Tre_insert_14 : decode prog_7_method_7_code 14 = .ok (.iconst (-1), 1) := by decide +kernel
theorem d_Tre_insert_15 : decode prog_7_method_7_code 15 = .ok (.invokevirtual 43, 3) := by decide +kernel
theorem d_Tre_insert_18 : decode prog_7_method_7_code 18 = .ok (.ifCond .ne 5, 3) := by decide +kernel
theorem d_Tre_insert_21 : decode prog_7_method_7_code 21 = .ok (.iconst 0, 1) := by decide +kernel
theorem d_Tre_insert_22 : decode prog_7_method_7_code 22 = .ok (.ireturn, 1) := by decide +kernel
theorem d_Tre_insert_23 : decode prog_7_method_7_code 23 = .ok (.aload_n 0, 1) := by decide +kernel
theorem d_Tre_insert_24 : decode prog_7_method_7_code 24 = .ok (.getfield 21, 3) := by decide +kernel
theorem d_Tre_insert_27 : decode prog_7_method_7_code 27 = .ok (.iconst 1, 1) := by decide +kernel
theorem d_Tre_insert_28 : decode prog_7_method_7_code 28 = .ok (.isub, 1) := by decide +kernel
theorem d_Tre_insert_29 : decode prog_7_method_7_code 29 = .ok (.istore_n 3, 1) := by decide +kernel
theorem d_Tre_insert_30 : decode prog_7_method_7_code 30 = .ok (.iload_n 3, 1) := by decide +kernel
theorem d_Tre_insert_31 : decode prog_7_method_7_code 31 = .ok (.iload_n 1, 1) := by decide +kernel
theorem d_Tre_insert_32 : decode prog_7_method_7_code 32 = .ok (.if_icmp .le 69, 3) := by decide +kernel
theorem d_Tre_insert_35 : decode prog_7_method_7_code 35 = .ok (.aload_n 0, 1) := by decide +kernel
theorem d_Tre_insert_36 : decode prog_7_method_7_code 36 = .ok (.getfield 9, 3) := by decide +kernel
theorem d_Tre_insert_39 : decode prog_7_method_7_code 39 = .ok (.iload_n 3, 1) := by decide +kernel
theorem d_Tre_insert_40 : decode prog_7_method_7_code 40 = .ok (.aload_n 0, 1) := by decide +kernel
theorem d_Tre_insert_41 : decode prog_7_method_7_code 41 = .ok (.getfield 9, 3) := by decide +kernel
theorem d_Tre_insert_44 : decode prog_7_method_7_code 44 = .ok (.iload_n 3, 1) := by decide +kernel
theorem d_Tre_insert_45 : decode prog_7_method_7_code 45 = .ok (.iconst 1, 1) := by decide +kernel
theorem d_Tre_insert_46 : decode prog_7_method_7_code 46 = .ok (.isub, 1) := by decide +kernel
theorem d_Tre_insert_47 : decode prog_7_method_7_code 47 = .ok (.iaload, 1) := by decide +kernel
theorem d_Tre_insert_48 : decode prog_7_method_7_code 48 = .ok (.iastore, 1) := by decide +kernel
theorem d_Tre_insert_49 : decode prog_7_method_7_code 49 = .ok (.aload_n 0, 1) := by decide +kernel
theorem d_Tre_insert_50 : decode prog_7_method_7_code 50 = .ok (.getfield 15, 3) := by decide +kernel
theorem d_Tre_insert_53 : decode prog_7_method_7_code 53 = .ok (.iload_n 3, 1) := by decide +kernel
theorem d_Tre_insert_54 : decode prog_7_method_7_code 54 = .ok (.aload_n 0, 1) := by decide +kernel
theorem d_Tre_insert_55 : decode prog_7_method_7_code 55 = .ok (.getfield 15, 3) := by decide +kernel
theorem d_Tre_insert_58 : decode prog_7_method_7_code 58 = .ok (.iload_n 3, 1) := by decide +kernel
theorem d_Tre_insert_59 : decode prog_7_method_7_code 59 = .ok (.iconst 1, 1) := by decide +kernel
theorem d_Tre_insert_60 : decode prog_7_method_7_code 60 = .ok (.isub, 1) := by decide +kernel
theorem d_Tre_insert_61 : decode prog_7_method_7_code 61 = .ok (.iaload, 1) := by decide +kernel
theorem d_Tre_insert_62 : decode prog_7_method_7_code 62 = .ok (.iastore, 1) := by decide +kernel
theorem d_Tre_insert_63 : decode prog_7_method_7_code 63 = .ok (.aload_n 0, 1) := by decide +kernel
theorem d_Tre_insert_64 : decode prog_7_method_7_code 64 = .ok (.getfield 18, 3) := by decide +kernel
theorem d_Tre_insert_67 : decode prog_7_method_7_code 67 = .ok (.iload_n 3, 1) := by decide +kernel
theorem d_Tre_insert_68 : decode prog_7_method_7_code 68 = .ok (.aload_n 0, 1) := by decide +kernel
theorem d_Tre_insert_69 : decode prog_7_method_7_code 69 = .ok (.getfield 18, 3) := by decide +kernel
theorem d_Tre_insert_72 : decode prog_7_method_7_code 72 = .ok (.iload_n 3, 1) := by decide +kernel
theorem d_Tre_insert_73 : decode prog_7_method_7_code 73 = .ok (.iconst 1, 1) := by decide +kernel
theorem d_Tre_insert_74 : decode prog_7_method_7_code 74 = .ok (.isub, 1) := by decide +kernel
theorem d_Tre_insert_75 : decode prog_7_method_7_code 75 = .ok (.iaload, 1) := by decide +kernel
theorem d_Tre_insert_76 : decode prog_7_method_7_code 76 = .ok (.iconst (-1), 1) := by decide +kernel
theorem d_Tre_insert_77 : decode prog_7_method_7_code 77 = .ok (.if_icmp .ne 7, 3) := by decide +kernel
theorem d_Tre_insert_80 : decode prog_7_method_7_code 80 = .ok (.iconst (-1), 1) := by decide +kernel
theorem d_Tre_insert_81 : decode prog_7_method_7_code 81 = .ok (.goto 13, 3) := by decide +kernel
theorem d_Tre_insert_84 : decode prog_7_method_7_code 84 = .ok (.aload_n 0, 1) := by decide +kernel
theorem d_Tre_insert_85 : decode prog_7_method_7_code 85 = .ok (.getfield 18, 3) := by decide +kernel
theorem d_Tre_insert_88 : decode prog_7_method_7_code 88 = .ok (.iload_n 3, 1) := by decide +kernel
theorem d_Tre_insert_89 : decode prog_7_method_7_code 89 = .ok (.iconst 1, 1) := by decide +kernel
theorem d_Tre_insert_90 : decode prog_7_method_7_code 90 = .ok (.isub, 1) := by decide +kernel
theorem d_Tre_insert_91 : decode prog_7_method_7_code 91 = .ok (.iaload, 1) := by decide +kernel
theorem d_Tre_insert_92 : decode prog_7_method_7_code 92 = .ok (.iconst 1, 1) := by decide +kernel
theorem d_Tre_insert_93 : decode prog_7_method_7_code 93 = .ok (.iadd, 1) := by decide +kernel
theorem d_Tre_insert_94 : decode prog_7_method_7_code 94 = .ok (.iastore, 1) := by decide +kernel
theorem d_Tre_insert_95 : decode prog_7_method_7_code 95 = .ok (.iinc 3 (-1), 3) := by decide +kernel
theorem d_Tre_insert_98 : decode prog_7_method_7_code 98 = .ok (.goto (-68), 3) := by decide +kernel
theorem d_Tre_insert_101 : decode prog_7_method_7_code 101 = .ok (.aload_n 0, 1) := by decide +kernel
theorem d_Tre_insert_102 : decode prog_7_method_7_code 102 = .ok (.getfield 9, 3) := by decide +kernel
theorem d_Tre_insert_105 : decode prog_7_method_7_code 105 = .ok (.iload_n 1, 1) := by decide +kernel
theorem d_Tre_insert_106 : decode prog_7_method_7_code 106 = .ok (.iload_n 2, 1) := by decide +kernel
theorem d_Tre_insert_107 : decode prog_7_method_7_code 107 = .ok (.iastore, 1) := by decide +kernel
theorem d_Tre_insert_108 : decode prog_7_method_7_code 108 = .ok (.aload_n 0, 1) := by decide +kernel
theorem d_Tre_insert_109 : decode prog_7_method_7_code 109 = .ok (.getfield 15, 3) := by decide +kernel
theorem d_Tre_insert_112 : decode prog_7_method_7_code 112 = .ok (.iload_n 1, 1) := by decide +kernel
theorem d_Tre_insert_113 : decode prog_7_method_7_code 113 = .ok (.iconst (-1), 1) := by decide +kernel
theorem d_Tre_insert_114 : decode prog_7_method_7_code 114 = .ok (.iastore, 1) := by decide +kernel
theorem d_Tre_insert_115 : decode prog_7_method_7_code 115 = .ok (.aload_n 0, 1) := by decide +kernel
theorem d_Tre_insert_116 : decode prog_7_method_7_code 116 = .ok (.getfield 18, 3) := by decide +kernel
theorem d_Tre_insert_119 : decode prog_7_method_7_code 119 = .ok (.iload_n 1, 1) := by decide +kernel
theorem d_Tre_insert_120 : decode prog_7_method_7_code 120 = .ok (.aload_n 0, 1) := by decide +kernel
theorem d_Tre_insert_121 : decode prog_7_method_7_code 121 = .ok (.getfield 21, 3) := by decide +kernel
theorem d_Tre_insert_124 : decode prog_7_method_7_code 124 = .ok (.iastore, 1) := by decide +kernel
theorem d_Tre_insert_125 : decode prog_7_method_7_code 125 = .ok (.iconst 1, 1) := by decide +kernel
theorem d_Tre_insert_126 : decode prog_7_method_7_code 126 = .ok (.ireturn, 1) := by decide +kernel
set_option maxHeartbeats 4000000 in
set_option maxRecDepth 100000 in
theorem c_Tre_insert {tr ka va ra n u : Nat} {K V R : Nat → Int32} (hP : zP b0 N f (wTre ck tr ka va ra n K V R u)) (hu : u ≤ n) (hn : n ≤ 40) {q : Nat} (hq : q ≤ u) {kd : Int32} : zK l D ck ad b0 y_Tre_insert prog_7_method_7_code 4 ((some FieldType.boolean)) 1 0 0 [.ref tr, .int (nI q), .int kd] N f (fun r N' f' => r = some (.int (if u < n then 1 else 0)) ∧ N = N' ∧ (u < n → zP b0 N f' (wTre ck tr ka va ra n (insK K u q kd) (insK V u q (-1)) (insR R u q) (u + 1)) ∧ zF N f f' [tr, ka, va, ra]) ∧ (¬ u < n → f = f')) := by
  refine zM.of zG_w (by decide) (Nat.le_of_ble_eq_true rfl) ?_
  intro zp ze zst zm zar zbe zme zc X hnm hb0
  have hF : zF N f f [tr, ka, va, ra] := zF.rf
  have L30 : ∀ (nn : Nat) (t : Nat) (f1 : Nat → va_E), (q ≤ t ∧ t ≤ u ∧ t - q < nn) → u < n → zP b0 N f1 (wTre ck tr ka va ra n (shK K kd u t) (shK V (-1) u t) (shR R u t) (u + 1)) → zF N f f1 [tr, ka, va, ra] → zW zp l ze (zR 1 0 0) zst zm zar zbe zme zc D zcl b0 4 0 0 (MQ zbe (zQ D zcl b0 (fun r N' f' => r = some (.int (if u < n then 1 else 0)) ∧ N = N' ∧ (u < n → zP b0 N f' (wTre ck tr ka va ra n (insK K u q kd) (insK V u q (-1)) (insR R u q) (u + 1)) ∧ zF N f f' [tr, ka, va, ra]) ∧ (¬ u < n → f = f'))) zar zst 0 0 (zA b0)) N f1 30 [(0, .ref tr), (1, .int (nI q)), (2, .int kd), (3, .int (nI t))] [] := by
    intro nn
    induction nn with
    | zero =>
      intro t f1 ht hun hP hF
      omega
    | succ nn ih =>
      intro t f1 ht hun hP hF
      refine z_iload_n X d_Tre_insert_30 rfl ?_
      refine z_iload_n X d_Tre_insert_31 rfl ?_
      refine z_icmp_le X 101 d_Tre_insert_32 (by decide) (fun h32 => ?_) (fun h32 => ?_)
      · skip
        have htq : t = q := by have := (nI_leI (a := t) (b := q) (by omega) (by omega)).mp h32; omega
        subst htq
        refine z_aload_n X d_Tre_insert_101 rfl ?_
        refine z_get X d_Tre_insert_102 (hP.lo 0 rfl) (hP.at 0 rfl) cl_Tre in_Tre 0 (by decide) fl_Tre_9 rfl rfl ?_
        refine z_iload_n X d_Tre_insert_105 rfl ?_
        refine z_iload_n X d_Tre_insert_106 rfl ?_
        refine z_iastP X d_Tre_insert_107 hP 1 rfl (t0 := 0) rfl (vp_in_nI (by omega) (by omega)) (fun hP => ?_)
        have hF := hF.by (by simp) hP
        refine z_aload_n X d_Tre_insert_108 rfl ?_
        refine z_get X d_Tre_insert_109 (hP.lo 0 rfl) (hP.at 0 rfl) cl_Tre in_Tre 1 (by decide) fl_Tre_15 rfl rfl ?_
        refine z_iload_n X d_Tre_insert_112 rfl ?_
        refine z_iconst X d_Tre_insert_113 (v := -1) (by decide) ?_
        refine z_iastP X d_Tre_insert_114 hP 2 rfl (t0 := 0) rfl (vp_in_nI (by omega) (by omega)) (fun hP => ?_)
        have hF := hF.by (by simp) hP
        refine z_aload_n X d_Tre_insert_115 rfl ?_
        refine z_get X d_Tre_insert_116 (hP.lo 0 rfl) (hP.at 0 rfl) cl_Tre in_Tre 2 (by decide) fl_Tre_18 rfl rfl ?_
        refine z_iload_n X d_Tre_insert_119 rfl ?_
        refine z_aload_n X d_Tre_insert_120 rfl ?_
        refine z_get X d_Tre_insert_121 (hP.lo 0 rfl) (hP.at 0 rfl) cl_Tre in_Tre 3 (by decide) fl_Tre_21 rfl rfl ?_
        refine z_iastP X d_Tre_insert_124 hP 3 rfl (t0 := 0) rfl (vp_in_nI (by omega) (by omega)) (fun hP => ?_)
        have hF := hF.by (by simp) hP
        refine z_iconst X d_Tre_insert_125 (v := 1) (by decide) ?_
        exact z_zret X d_Tre_insert_126 rfl ⟨by rw [if_pos hun], rfl, fun _ => ⟨hP.eq (by rw [nI_clamp (by omega)]; rfl), hF⟩, fun z => absurd hun z⟩
      · skip
        obtain ⟨t, rfl⟩ : ∃ t1, t = t1 + 1 := ⟨t - 1, by have : q < t := (by rcases Nat.lt_or_ge q t with z | z; exact z; exact absurd (nI_le z (by omega)) h32); omega⟩
        have htq : q < t + 1 := by rcases Nat.lt_or_ge q (t + 1) with z | z; exact z; exact absurd (nI_le z (by omega)) h32
        refine z_aload_n X d_Tre_insert_35 rfl ?_
        refine z_get X d_Tre_insert_36 (hP.lo 0 rfl) (hP.at 0 rfl) cl_Tre in_Tre 0 (by decide) fl_Tre_9 rfl rfl ?_
        refine z_iload_n X d_Tre_insert_39 rfl ?_
        refine z_aload_n X d_Tre_insert_40 rfl ?_
        refine z_get X d_Tre_insert_41 (hP.lo 0 rfl) (hP.at 0 rfl) cl_Tre in_Tre 0 (by decide) fl_Tre_9 rfl rfl ?_
        refine z_iload_n X d_Tre_insert_44 rfl ?_
        refine z_iconst X d_Tre_insert_45 (v := 1) (by decide) ?_
        refine z_isub X d_Tre_insert_46 ?_
        refine z_iald X d_Tre_insert_47 (hP.lo 1 rfl) (hP.at 1 rfl) (t0 := 0) rfl (by rw [show nI (t + 1) - 1 = nI t from nI_pred t]; exact vp_in_nI (by omega) (by omega)) ?_
        refine z_iastP X d_Tre_insert_48 hP 1 rfl (t0 := 0) rfl (vp_in_nI (by omega) (by omega)) (fun hP => ?_)
        have hF := hF.by (by simp) hP
        refine z_aload_n X d_Tre_insert_49 rfl ?_
        refine z_get X d_Tre_insert_50 (hP.lo 0 rfl) (hP.at 0 rfl) cl_Tre in_Tre 1 (by decide) fl_Tre_15 rfl rfl ?_
        refine z_iload_n X d_Tre_insert_53 rfl ?_
        refine z_aload_n X d_Tre_insert_54 rfl ?_
        refine z_get X d_Tre_insert_55 (hP.lo 0 rfl) (hP.at 0 rfl) cl_Tre in_Tre 1 (by decide) fl_Tre_15 rfl rfl ?_
        refine z_iload_n X d_Tre_insert_58 rfl ?_
        refine z_iconst X d_Tre_insert_59 (v := 1) (by decide) ?_
        refine z_isub X d_Tre_insert_60 ?_
        refine z_iald X d_Tre_insert_61 (hP.lo 2 rfl) (hP.at 2 rfl) (t0 := 0) rfl (by rw [show nI (t + 1) - 1 = nI t from nI_pred t]; exact vp_in_nI (by omega) (by omega)) ?_
        refine z_iastP X d_Tre_insert_62 hP 2 rfl (t0 := 0) rfl (vp_in_nI (by omega) (by omega)) (fun hP => ?_)
        have hF := hF.by (by simp) hP
        refine z_aload_n X d_Tre_insert_63 rfl ?_
        refine z_get X d_Tre_insert_64 (hP.lo 0 rfl) (hP.at 0 rfl) cl_Tre in_Tre 2 (by decide) fl_Tre_18 rfl rfl ?_
        refine z_iload_n X d_Tre_insert_67 rfl ?_
        refine z_aload_n X d_Tre_insert_68 rfl ?_
        refine z_get X d_Tre_insert_69 (hP.lo 0 rfl) (hP.at 0 rfl) cl_Tre in_Tre 2 (by decide) fl_Tre_18 rfl rfl ?_
        refine z_iload_n X d_Tre_insert_72 rfl ?_
        refine z_iconst X d_Tre_insert_73 (v := 1) (by decide) ?_
        refine z_isub X d_Tre_insert_74 ?_
        refine z_iald X d_Tre_insert_75 (hP.lo 3 rfl) (hP.at 3 rfl) (t0 := 0) rfl (by rw [show nI (t + 1) - 1 = nI t from nI_pred t]; exact vp_in_nI (by omega) (by omega)) ?_
        refine z_iconst X d_Tre_insert_76 (v := -1) (by decide) ?_
        refine z_icmp_ne X 84 d_Tre_insert_77 (by decide) (fun h77 => ?_) (fun h77 => ?_)
        · skip
          refine z_aload_n X d_Tre_insert_84 rfl ?_
          refine z_get X d_Tre_insert_85 (hP.lo 0 rfl) (hP.at 0 rfl) cl_Tre in_Tre 2 (by decide) fl_Tre_18 rfl rfl ?_
          refine z_iload_n X d_Tre_insert_88 rfl ?_
          refine z_iconst X d_Tre_insert_89 (v := 1) (by decide) ?_
          refine z_isub X d_Tre_insert_90 ?_
          refine z_iald X d_Tre_insert_91 (hP.lo 3 rfl) (hP.at 3 rfl) (t0 := 0) rfl (by rw [show nI (t + 1) - 1 = nI t from nI_pred t]; exact vp_in_nI (by omega) (by omega)) ?_
          refine z_iconst X d_Tre_insert_92 (v := 1) (by decide) ?_
          refine z_iadd X d_Tre_insert_93 ?_
          refine z_iastP X d_Tre_insert_94 hP 3 rfl (t0 := 0) rfl (vp_in_nI (by omega) (by omega)) (fun hP => ?_)
          have hF := hF.by (by simp) hP
          refine z_iinc X d_Tre_insert_95 rfl (pk_m1 t) (by decide) rfl ?_
          refine z_goto X 30 d_Tre_insert_98 (by decide) ?_
          have e8 := shR_s R (u := u) (q := t) (by omega)
          rw [show nI (t + 1) - 1 = nI t from nI_pred t, nI_clamp (n := t) (by omega)] at h77
          first | rw [if_pos h77] at e8 | rw [if_neg h77] at e8
          exact ih t _ (by omega) hun (hP.eq (by rw [nI_clamp (n := t + 1) (by omega), show nI (t + 1) - 1 = nI t from nI_pred t, nI_clamp (n := t) (by omega)]; rw [← shK_s K kd (u := u) (q := t) (by omega), ← shK_s V (-1) (u := u) (q := t) (by omega), ← e8]; rfl)) hF
        · skip
          refine z_iconst X d_Tre_insert_80 (v := -1) (by decide) ?_
          refine z_goto X 94 d_Tre_insert_81 (by decide) ?_
          refine z_iastP X d_Tre_insert_94 hP 3 rfl (t0 := 0) rfl (vp_in_nI (by omega) (by omega)) (fun hP => ?_)
          have hF := hF.by (by simp) hP
          refine z_iinc X d_Tre_insert_95 rfl (pk_m1 t) (by decide) rfl ?_
          refine z_goto X 30 d_Tre_insert_98 (by decide) ?_
          have e8 := shR_s R (u := u) (q := t) (by omega)
          rw [show nI (t + 1) - 1 = nI t from nI_pred t, nI_clamp (n := t) (by omega)] at h77
          first | rw [if_pos h77] at e8 | rw [if_neg h77] at e8
          exact ih t _ (by omega) hun (hP.eq (by rw [nI_clamp (n := t + 1) (by omega), show nI (t + 1) - 1 = nI t from nI_pred t, nI_clamp (n := t) (by omega)]; rw [← shK_s K kd (u := u) (q := t) (by omega), ← shK_s V (-1) (u := u) (q := t) (by omega), ← e8]; rfl)) hF
  refine z_iload_n X d_Tre_insert_0 rfl ?_
  refine z_if_lt X 21 d_Tre_insert_1 (by decide) (fun h1 => ?_) (fun h1 => ?_)
  · skip
    exact absurd h1 (nI_pos (by omega))
  · skip
    refine z_iload_n X d_Tre_insert_4 rfl ?_
    refine z_aload_n X d_Tre_insert_5 rfl ?_
    refine z_get X d_Tre_insert_6 (hP.lo 0 rfl) (hP.at 0 rfl) cl_Tre in_Tre 3 (by decide) fl_Tre_21 rfl rfl ?_
    refine z_icmp_gt X 21 d_Tre_insert_9 (by decide) (fun h9 => ?_) (fun h9 => ?_)
    · skip
      exact absurd h9 (nI_nlt hq (by omega))
    · skip
      refine z_aload_n X d_Tre_insert_12 rfl ?_
      refine z_iload_n X d_Tre_insert_13 rfl ?_
      refine z_iconst X d_Tre_insert_14 (v := -1) (by decide) ?_
      refine z_callV X zG_ok (c_Tre_append hP hu hn) d_Tre_insert_15 ⟨(z_cb (n := 2) X.2.2.2.2.1 ml_Tre_43 mc_Tre_append ini_Tre (by decide +kernel) rfl rfl ⟨Nat.le_of_ble_eq_true rfl, Nat.le_of_ble_eq_true rfl⟩), X.2.2.2.2.1 _ im_Tre_append, X.2.2.2.2.1 _ sel_Tre_append⟩ (hP.lo 0 rfl) (hP.at 0 rfl) cl_Tre rfl rfl (Nat.le_of_ble_eq_true rfl) ⟨Nat.le_of_ble_eq_true rfl, Nat.le_of_ble_eq_true rfl⟩ (fun r N1 f1 hp hN1 => ?_)
      obtain ⟨rfl, rfl, ha1, ha2⟩ := hp
      refine z_if_ne X 23 d_Tre_insert_18 (by decide) (fun h18 => ?_) (fun h18 => ?_)
      · skip
        have hun := zb_t h18
        obtain ⟨hP, hF⟩ := ha1 hun
        refine z_aload_n X d_Tre_insert_23 rfl ?_
        refine z_get X d_Tre_insert_24 (hP.lo 0 rfl) (hP.at 0 rfl) cl_Tre in_Tre 3 (by decide) fl_Tre_21 rfl rfl ?_
        refine z_iconst X d_Tre_insert_27 (v := 1) (by decide) ?_
        refine z_isub X d_Tre_insert_28 ?_
        refine z_istore_n X d_Tre_insert_29 (by decide) rfl ?_
        refine zW.pick [0, 1, 2, 3] (lv' := [(0, .ref tr), (1, .int (nI q)), (2, .int kd), (3, .int (nI u))]) (by rw [show nI (u + 1) - 1 = nI u from nI_pred u]; rfl) ?_
        exact L30 (u - q + 1) u _ (by omega) hun (hP.eq (by rw [shK_0, shK_0, shR_0])) hF
      · skip
        have hun := zb_f h18
        refine z_iconst X d_Tre_insert_21 (v := 0) (by decide) ?_
        exact z_zret X d_Tre_insert_22 rfl ⟨by rw [if_neg hun], rfl, fun z => absurd z hun, fun _ => ha2 hun⟩
theorem d_Tre_names_0 : decode prog_7_method_14_code 0 = .ok (.iconst 0, 1) := by decide +kernel
theorem d_Tre_names_1 : decode prog_7_method_14_code 1 = .ok (.istore_n 2, 1) := by decide +kernel
theorem d_Tre_names_2 : decode prog_7_method_14_code 2 = .ok (.iload_n 2, 1) := by decide +kernel
theorem d_Tre_names_3 : decode prog_7_method_14_code 3 = .ok (.aload_n 0, 1) := by decide +kernel
theorem d_Tre_names_4 : decode prog_7_method_14_code 4 = .ok (.getfield 21, 3) := by decide +kernel
theorem d_Tre_names_7 : decode prog_7_method_14_code 7 = .ok (.if_icmp .ge 30, 3) := by decide +kernel
theorem d_Tre_names_10 : decode prog_7_method_14_code 10 = .ok (.aload_n 0, 1) := by decide +kernel
theorem d_Tre_names_11 : decode prog_7_method_14_code 11 = .ok (.iload_n 2, 1) := by decide +kernel
theorem d_Tre_names_12 : decode prog_7_method_14_code 12 = .ok (.invokevirtual 51, 3) := by decide +kernel
theorem d_Tre_names_15 : decode prog_7_method_14_code 15 = .ok (.bipush 12, 2) := by decide +kernel
theorem d_Tre_names_17 : decode prog_7_method_14_code 17 = .ok (.if_icmp .lt 14, 3) := by decide +kernel
theorem d_Tre_names_20 : decode prog_7_method_14_code 20 = .ok (.aload_n 0, 1) := by decide +kernel
theorem d_Tre_names_21 : decode prog_7_method_14_code 21 = .ok (.iload_n 2, 1) := by decide +kernel
theorem d_Tre_names_22 : decode prog_7_method_14_code 22 = .ok (.invokevirtual 55, 3) := by decide +kernel
theorem d_Tre_names_25 : decode prog_7_method_14_code 25 = .ok (.iload_n 1, 1) := by decide +kernel
theorem d_Tre_names_26 : decode prog_7_method_14_code 26 = .ok (.if_icmp .ne 5, 3) := by decide +kernel
theorem d_Tre_names_29 : decode prog_7_method_14_code 29 = .ok (.iconst 1, 1) := by decide +kernel
theorem d_Tre_names_30 : decode prog_7_method_14_code 30 = .ok (.ireturn, 1) := by decide +kernel
theorem d_Tre_names_31 : decode prog_7_method_14_code 31 = .ok (.iinc 2 1, 3) := by decide +kernel
theorem d_Tre_names_34 : decode prog_7_method_14_code 34 = .ok (.goto (-32), 3) := by decide +kernel
theorem d_Tre_names_37 : decode prog_7_method_14_code 37 = .ok (.iconst 0, 1) := by decide +kernel
theorem d_Tre_names_38 : decode prog_7_method_14_code 38 = .ok (.ireturn, 1) := by decide +kernel
set_option maxHeartbeats 4000000 in
set_option maxRecDepth 100000 in
theorem c_Tre_names {tr ka va ra n u : Nat} {K V R : Nat → Int32} (hP : zP b0 N f (wTre ck tr ka va ra n K V R u)) (hu : u ≤ n) (hn : n ≤ 40) {fd : Int32} : zK l D ck ad b0 y_Tre_names prog_7_method_14_code 3 ((some FieldType.boolean)) 2 0 0 [.ref tr, .int fd] N f (fun r N' f' => r = some (.int (if tnames K V fd u = true then 1 else 0)) ∧ N = N' ∧ f = f') := by
  refine zM.of zG_w (by decide) (Nat.le_of_ble_eq_true rfl) ?_
  intro zp ze zst zm zar zbe zme zc X hnm hb0
  have L2 : ∀ (nn : Nat) (j : Nat), (j ≤ u ∧ j + nn = u + 1) → tnames K V fd j = false → zW zp l ze (zR 2 0 0) zst zm zar zbe zme zc D zcl b0 3 0 0 (MQ zbe (zQ D zcl b0 (fun r N' f' => r = some (.int (if tnames K V fd u = true then 1 else 0)) ∧ N = N' ∧ f = f')) zar zst 0 0 (zA b0)) N f 2 [(0, .ref tr), (1, .int fd), (2, .int (nI j))] [] := by
    intro nn
    induction nn with
    | zero =>
      intro j hj hnj
      omega
    | succ nn ih =>
      intro j hj hnj
      refine z_iload_n X d_Tre_names_2 rfl ?_
      refine z_aload_n X d_Tre_names_3 rfl ?_
      refine z_get X d_Tre_names_4 (hP.lo 0 rfl) (hP.at 0 rfl) cl_Tre in_Tre 3 (by decide) fl_Tre_21 rfl rfl ?_
      refine z_icmp_ge X 37 d_Tre_names_7 (by decide) (fun h7 => ?_) (fun h7 => ?_)
      · skip
        have hju : j = u := by have := (nI_leI (a := u) (b := j) (by omega) (by omega)).mp h7; omega
        subst hju
        refine z_iconst X d_Tre_names_37 (v := 0) (by decide) ?_
        exact z_zret X d_Tre_names_38 rfl ⟨by rw [if_neg (by rw [hnj]; decide)], rfl, rfl⟩
      · skip
        have hju : j < u := by
          rcases Nat.lt_or_ge j u with z | z
          · exact z
          · exact absurd (nI_le z (by omega)) h7
        refine z_aload_n X d_Tre_names_10 rfl ?_
        refine z_iload_n X d_Tre_names_11 rfl ?_
        refine z_callV X zG_ok (c_Tre_kindOf hP hu hn) d_Tre_names_12 ⟨(z_cb (n := 1) X.2.2.2.2.1 ml_Tre_51 mc_Tre_kindOf ini_Tre (by decide +kernel) rfl rfl ⟨Nat.le_of_ble_eq_true rfl, Nat.le_of_ble_eq_true rfl⟩), X.2.2.2.2.1 _ im_Tre_kindOf, X.2.2.2.2.1 _ sel_Tre_kindOf⟩ (hP.lo 0 rfl) (hP.at 0 rfl) cl_Tre rfl rfl (Nat.le_of_ble_eq_true rfl) ⟨Nat.le_of_ble_eq_true rfl, Nat.le_of_ble_eq_true rfl⟩ (fun r N1 f1 hp hN1 => ?_)
        obtain ⟨rfl, rfl, rfl⟩ := hp
        refine z_bipush X d_Tre_names_15 (v := 12) (by decide) ?_
        refine z_icmp_lt X 31 d_Tre_names_17 (by decide) (fun h17 => ?_) (fun h17 => ?_)
        · skip
          refine z_iinc X d_Tre_names_31 rfl (nI_1 _) (by decide) rfl ?_
          refine z_goto X 2 d_Tre_names_34 (by decide) ?_
          refine ih (j + 1) (by omega) ?_
          rw [sgv_nI hju (by omega)] at h17
          first
            | (simp [tnames, hnj, h17]; done)
            | (rw [sgv_nI hju (by omega)] at h26; simp [tnames, hnj, h26]; done)
        · skip
          refine z_aload_n X d_Tre_names_20 rfl ?_
          refine z_iload_n X d_Tre_names_21 rfl ?_
          refine z_callV X zG_ok (c_Tre_valueOf hP hu hn) d_Tre_names_22 ⟨(z_cb (n := 1) X.2.2.2.2.1 ml_Tre_55 mc_Tre_valueOf ini_Tre (by decide +kernel) rfl rfl ⟨Nat.le_of_ble_eq_true rfl, Nat.le_of_ble_eq_true rfl⟩), X.2.2.2.2.1 _ im_Tre_valueOf, X.2.2.2.2.1 _ sel_Tre_valueOf⟩ (hP.lo 0 rfl) (hP.at 0 rfl) cl_Tre rfl rfl (Nat.le_of_ble_eq_true rfl) ⟨Nat.le_of_ble_eq_true rfl, Nat.le_of_ble_eq_true rfl⟩ (fun r N1 f1 hp hN1 => ?_)
          obtain ⟨rfl, rfl, rfl⟩ := hp
          refine z_iload_n X d_Tre_names_25 rfl ?_
          refine z_icmp_ne X 31 d_Tre_names_26 (by decide) (fun h26 => ?_) (fun h26 => ?_)
          · skip
            refine z_iinc X d_Tre_names_31 rfl (nI_1 _) (by decide) rfl ?_
            refine z_goto X 2 d_Tre_names_34 (by decide) ?_
            refine ih (j + 1) (by omega) ?_
            rw [sgv_nI hju (by omega)] at h17
            first
              | (simp [tnames, hnj, h17]; done)
              | (rw [sgv_nI hju (by omega)] at h26; simp [tnames, hnj, h26]; done)
          · skip
            refine z_iconst X d_Tre_names_29 (v := 1) (by decide) ?_
            exact z_zret X d_Tre_names_30 rfl ⟨by rw [sgv_nI hju (by omega)] at h17 h26; rw [if_pos (tnames_up (j := j + 1) (by simp [tnames, h17, h26]) (by omega))], rfl, rfl⟩
  refine z_iconst X d_Tre_names_0 (v := 0) (by decide) ?_
  refine z_istore_n X d_Tre_names_1 (by decide) rfl ?_
  exact L2 (u + 1) 0 (by omega) rfl
end
