/-- the reader's state: its ints by field (5 level, 6 depth, 7 sumStart, 8 compared, 9 state, 10 place, 11 token, 12 tokenStart, 13 tokenValue), the tree (kinds, values, rights, used), ruleStarts, andStarts, depths -/
abbrev TSt : Type := (Nat → Int32) × (Nat → Int32) × (Nat → Int32) × Nat
abbrev RSt : Type := (Nat → Int32) × TSt × (Nat → Int32) × (Nat → Int32) × (Nat → Int32)
abbrev oRdr (tx tr rs as ds : Nat) (q : Nat → Int32) : va_E := .inr (2, [.ref tx, .ref tr, .ref rs, .ref as, .ref ds, .int (q 5), .int (q 6), .int (q 7), .int (q 8), .int (q 9), .int (q 10), .int (q 11), .int (q 12), .int (q 13)])
/-- the reader's cells, at the addresses A 0 .. A 9: itself, text, the text's row, ruleStarts, andStarts, depths, tree, kinds, values, rights -/
abbrev wRdr (ck : Nat → ClassId) (A : Nat → Nat) (g : Nat → Int32) (len : Nat) (st : RSt) : va_W := [(A 0, oRdr (A 1) (A 6) (A 3) (A 4) (A 5) st.1), (A 1, oSgn (A 2) (nI len)), (A 2, aI ck 200 g), (A 3, aI ck 11 st.2.2.1), (A 4, aI ck 11 st.2.2.2.1), (A 5, aI ck 11 st.2.2.2.2), (A 6, oTre (A 7) (A 8) (A 9) st.2.1.2.2.2), (A 7, aI ck 40 st.2.1.1), (A 8, aI ck 40 st.2.1.2.1), (A 9, aI ck 40 st.2.1.2.2.1)]
abbrev AA (A : Nat → Nat) : List Nat := [A 0, A 1, A 2, A 3, A 4, A 5, A 6, A 7, A 8, A 9]
def zdig (x : Int32) : Bool := !decide (x < 48) && !decide (57 < x)
def zlet (x : Int32) : Bool := !decide (x < 97) && !decide (122 < x)
theorem zdig_1 {x : Int32} (h : x < 48) : ¬ zdig x = true := by simp [zdig, h]
theorem zdig_2 {x : Int32} (h : 57 < x) : ¬ zdig x = true := by simp [zdig, h]
theorem zdig_t {x : Int32} (h : ¬ x < 48) (h2 : ¬ 57 < x) : zdig x = true := by simp [zdig, h, h2]
theorem zlet_1 {x : Int32} (h : x < 97) : ¬ zlet x = true := by simp [zlet, h]
theorem zlet_2 {x : Int32} (h : 122 < x) : ¬ zlet x = true := by simp [zlet, h]
theorem zlet_t {x : Int32} (h : ¬ x < 97) (h2 : ¬ 122 < x) : zlet x = true := by simp [zlet, h, h2]
/-- as long as the signs are of a kind -/
def zsk (P : Int32 → Bool) (g : Nat → Int32) (len : Nat) : Nat → Int32 → Int32
  | 0, p => p
  | n + 1, p => if P (sgv g len p) = true then zsk P g len n (p + 1) else p
def zbl (x : Int32) : Bool := decide (x = 32)
/-- digits: how far, and their number (the first 'most' of them) -/
def znum (most : Int32) (g : Nat → Int32) (len : Nat) : Nat → Nat → Int32 → Int32 → Int32 × Int32
  | 0, _, p, tv => (p, tv)
  | n + 1, i, p, tv => if zdig (sgv g len p) = true then znum most g len n (i + 1) (p + 1) (if most ≤ nI i then tv else tv * 10 + sgv g len p - 48) else (p, tv)
/-- Reader.readNumber: whether, and the ints behind it -/
def zNum (g : Nat → Int32) (len : Nat) (most : Int32) (q : Nat → Int32) : Bool × (Nat → Int32) :=
  (decide (q 10 < (znum most g len 200 0 (q 10) 0).1) && !decide (most < (znum most g len 200 0 (q 10) 0).1 - q 10), upd (upd q 13 (znum most g len 200 0 (q 10) 0).2) 10 (znum most g len 200 0 (q 10) 0).1)
theorem zNum_1 {g : Nat → Int32} {len : Nat} {most p tv : Int32} {q : Nat → Int32} (hz : znum most g len 200 0 (q 10) 0 = (p, tv)) (h : p ≤ q 10) : (zNum g len most q).1 = false := by
  simp only [zNum, hz]
  rw [decide_eq_false (Int32.not_lt.mpr h)]
  rfl
theorem zNum_2 {g : Nat → Int32} {len : Nat} {most p tv : Int32} {q : Nat → Int32} (hz : znum most g len 200 0 (q 10) 0 = (p, tv)) (h : most < p - q 10) : (zNum g len most q).1 = false := by
  simp only [zNum, hz]
  rw [decide_eq_true h]
  simp
theorem zNum_3 {g : Nat → Int32} {len : Nat} {most p tv : Int32} {q : Nat → Int32} (hz : znum most g len 200 0 (q 10) 0 = (p, tv)) (h : ¬ p ≤ q 10) (h2 : ¬ most < p - q 10) : (zNum g len most q).1 = true := by
  simp only [zNum, hz]
  rw [decide_eq_true (Int32.not_le.mp h), decide_eq_false h2]
  rfl
theorem zNum_q {g : Nat → Int32} {len : Nat} {most p tv : Int32} {q : Nat → Int32} (hz : znum most g len 200 0 (q 10) 0 = (p, tv)) : (zNum g len most q).2 = upd (upd q 13 tv) 10 p := by
  simp only [zNum, hz]
/-- the first k signs of the token are the literal's -/
def zwk (g : Nat → Int32) (len : Nat) (ts : Int32) (l : List Int32) : Nat → Bool
  | 0 => true
  | k + 1 => zwk g len ts l k && decide (sgv g len (ts + nI k) = l.getD k 0)
theorem zwk_no {g : Nat → Int32} {len : Nat} {ts : Int32} {l : List Int32} {k n : Nat} (h : zwk g len ts l k = false) (hk : k ≤ n) : zwk g len ts l n = false := by
  induction n with
  | zero => rw [show k = 0 by omega] at h; exact h
  | succ n ih =>
    by_cases e : k = n + 1
    · rw [← e]; exact h
    · rw [zwk, ih (by omega)]; rfl
def zwd (g : Nat → Int32) (len : Nat) (q : Nat → Int32) (j : Nat) : Bool := decide (q 10 - q 12 = nI (zSb j).length) && zwk g len (q 12) (zSb j) (zSb j).length
/-- Reader.goDeeper, beginLevel, endLevel -/
def rGo (st : RSt) : Int32 × RSt := if st.1 6 < 10 then (1, (upd st.1 6 (st.1 6 + 1), st.2)) else (0, st)
def rBeg (nx : Int32) (st : RSt) : Int32 × RSt := if nx < 0 then (0, st) else if nx < 11 then (1, (upd (upd st.1 5 nx) 9 0, st.2.1, upd st.2.2.1 nx.toNatClampNeg (nI st.2.1.2.2.2), upd st.2.2.2.1 nx.toNatClampNeg (nI st.2.1.2.2.2), upd st.2.2.2.2 nx.toNatClampNeg (st.1 6))) else (0, st)
def rEnd (st : RSt) : Int32 × RSt := if st.1 5 < 1 then (0, st) else if st.1 5 < 11 then (1, (upd (upd st.1 5 (st.1 5 - 1)) 9 5, st.2)) else (0, st)
/-- Reader.kindOfToken -/
def rKind (st : RSt) : Int32 := zix (((st.1 11).toUInt32 % 65536).toInt32) (zSb 6) 0
section
variable {l : Launch} {D : va_G} {ck : Nat → ClassId} {ad : (Nat → Nat) × (Nat → Nat)} {b0 N : Nat} {f : Nat → va_E}
variable {A : Nat → Nat} {g : Nat → Int32} {len : Nat} {st : RSt}
theorem d_Rdr_isDigit_0 : decode prog_4_method_19_code 0 = .ok (.iload_n 0, 1) := by decide +kernel
theorem d_Rdr_isDigit_1 : decode prog_4_method_19_code 1 = .ok (.bipush 48, 2) := by decide +kernel
theorem d_Rdr_isDigit_3 : decode prog_4_method_19_code 3 = .ok (.if_icmp .lt 13, 3) := by decide +kernel
theorem d_Rdr_isDigit_6 : decode prog_4_method_19_code 6 = .ok (.iload_n 0, 1) := by decide +kernel
theorem d_Rdr_isDigit_7 : decode prog_4_method_19_code 7 = .ok (.bipush 57, 2) := by decide +kernel
theorem d_Rdr_isDigit_9 : decode prog_4_method_19_code 9 = .ok (.if_icmp .gt 7, 3) := by decide +kernel
theorem d_Rdr_isDigit_12 : decode prog_4_method_19_code 12 = .ok (.iconst 1, 1) := by decide +kernel
theorem d_Rdr_isDigit_13 : decode prog_4_method_19_code 13 = .ok (.goto 4, 3) := by decide +kernel
theorem d_Rdr_isDigit_16 : decode prog_4_method_19_code 16 = .ok (.iconst 0, 1) := by decide +kernel
theorem d_Rdr_isDigit_17 : decode prog_4_method_19_code 17 = .ok (.ireturn, 1) := by decide +kernel
set_option maxHeartbeats 4000000 in
set_option maxRecDepth 100000 in
theorem c_Rdr_isDigit {x : Int32} : zK l D ck ad b0 y_Rdr_isDigit prog_4_method_19_code 1 ((some FieldType.boolean)) 0 0 0 [.int x] N f (fun r N' f' => r = some (.int (if zdig x = true then 1 else 0)) ∧ N = N' ∧ f = f') := by
  refine zM.of zG_w (by decide) (Nat.le_of_ble_eq_true rfl) ?_
  intro zp ze zst zm zar zbe zme zc X hnm hb0
  refine z_iload_n X d_Rdr_isDigit_0 rfl ?_
  refine z_bipush X d_Rdr_isDigit_1 (v := 48) (by decide) ?_
  refine z_icmp_lt X 16 d_Rdr_isDigit_3 (by decide) (fun h3 => ?_) (fun h3 => ?_)
  · skip
    refine z_iconst X d_Rdr_isDigit_16 (v := 0) (by decide) ?_
    exact z_zret X d_Rdr_isDigit_17 rfl ⟨by first | rw [if_neg (zdig_1 h3)] | rw [if_neg (zdig_2 h9)] | rw [if_pos (zdig_t h3 h9)], rfl, rfl⟩
  · skip
    refine z_iload_n X d_Rdr_isDigit_6 rfl ?_
    refine z_bipush X d_Rdr_isDigit_7 (v := 57) (by decide) ?_
    refine z_icmp_gt X 16 d_Rdr_isDigit_9 (by decide) (fun h9 => ?_) (fun h9 => ?_)
    · skip
      refine z_iconst X d_Rdr_isDigit_16 (v := 0) (by decide) ?_
      exact z_zret X d_Rdr_isDigit_17 rfl ⟨by first | rw [if_neg (zdig_1 h3)] | rw [if_neg (zdig_2 h9)] | rw [if_pos (zdig_t h3 h9)], rfl, rfl⟩
    · skip
      refine z_iconst X d_Rdr_isDigit_12 (v := 1) (by decide) ?_
      refine z_goto X 17 d_Rdr_isDigit_13 (by decide) ?_
      exact z_zret X d_Rdr_isDigit_17 rfl ⟨by first | rw [if_neg (zdig_1 h3)] | rw [if_neg (zdig_2 h9)] | rw [if_pos (zdig_t h3 h9)], rfl, rfl⟩
theorem d_Rdr_isLetter_0 : decode prog_4_method_20_code 0 = .ok (.iload_n 0, 1) := by decide +kernel
theorem d_Rdr_isLetter_1 : decode prog_4_method_20_code 1 = .ok (.bipush 97, 2) := by decide +kernel
theorem d_Rdr_isLetter_3 : decode prog_4_method_20_code 3 = .ok (.if_icmp .lt 13, 3) := by decide +kernel
theorem d_Rdr_isLetter_6 : decode prog_4_method_20_code 6 = .ok (.iload_n 0, 1) := by decide +kernel
theorem d_Rdr_isLetter_7 : decode prog_4_method_20_code 7 = .ok (.bipush 122, 2) := by decide +kernel
theorem d_Rdr_isLetter_9 : decode prog_4_method_20_code 9 = .ok (.if_icmp .gt 7, 3) := by decide +kernel
theorem d_Rdr_isLetter_12 : decode prog_4_method_20_code 12 = .ok (.iconst 1, 1) := by decide +kernel
theorem d_Rdr_isLetter_13 : decode prog_4_method_20_code 13 = .ok (.goto 4, 3) := by decide +kernel
theorem d_Rdr_isLetter_16 : decode prog_4_method_20_code 16 = .ok (.iconst 0, 1) := by decide +kernel
theorem d_Rdr_isLetter_17 : decode prog_4_method_20_code 17 = .ok (.ireturn, 1) := by decide +kernel
set_option maxHeartbeats 4000000 in
set_option maxRecDepth 100000 in
theorem c_Rdr_isLetter {x : Int32} : zK l D ck ad b0 y_Rdr_isLetter prog_4_method_20_code 1 ((some FieldType.boolean)) 0 0 0 [.int x] N f (fun r N' f' => r = some (.int (if zlet x = true then 1 else 0)) ∧ N = N' ∧ f = f') := by
  refine zM.of zG_w (by decide) (Nat.le_of_ble_eq_true rfl) ?_
  intro zp ze zst zm zar zbe zme zc X hnm hb0
  refine z_iload_n X d_Rdr_isLetter_0 rfl ?_
  refine z_bipush X d_Rdr_isLetter_1 (v := 97) (by decide) ?_
  refine z_icmp_lt X 16 d_Rdr_isLetter_3 (by decide) (fun h3 => ?_) (fun h3 => ?_)
  · skip
    refine z_iconst X d_Rdr_isLetter_16 (v := 0) (by decide) ?_
    exact z_zret X d_Rdr_isLetter_17 rfl ⟨by first | rw [if_neg (zlet_1 h3)] | rw [if_neg (zlet_2 h9)] | rw [if_pos (zlet_t h3 h9)], rfl, rfl⟩
  · skip
    refine z_iload_n X d_Rdr_isLetter_6 rfl ?_
    refine z_bipush X d_Rdr_isLetter_7 (v := 122) (by decide) ?_
    refine z_icmp_gt X 16 d_Rdr_isLetter_9 (by decide) (fun h9 => ?_) (fun h9 => ?_)
    · skip
      refine z_iconst X d_Rdr_isLetter_16 (v := 0) (by decide) ?_
      exact z_zret X d_Rdr_isLetter_17 rfl ⟨by first | rw [if_neg (zlet_1 h3)] | rw [if_neg (zlet_2 h9)] | rw [if_pos (zlet_t h3 h9)], rfl, rfl⟩
    · skip
      refine z_iconst X d_Rdr_isLetter_12 (v := 1) (by decide) ?_
      refine z_goto X 17 d_Rdr_isLetter_13 (by decide) ?_
      exact z_zret X d_Rdr_isLetter_17 rfl ⟨by first | rw [if_neg (zlet_1 h3)] | rw [if_neg (zlet_2 h9)] | rw [if_pos (zlet_t h3 h9)], rfl, rfl⟩
theorem d_Rdr_goDeeper_0 : decode prog_4_method_12_code 0 = .ok (.aload_n 0, 1) := by decide +kernel
theorem d_Rdr_goDeeper_1 : decode prog_4_method_12_code 1 = .ok (.getfield 46, 3) := by decide +kernel
theorem d_Rdr_goDeeper_4 : decode prog_4_method_12_code 4 = .ok (.bipush 10, 2) := by decide +kernel
theorem d_Rdr_goDeeper_6 : decode prog_4_method_12_code 6 = .ok (.if_icmp .lt 5, 3) := by decide +kernel
theorem d_Rdr_goDeeper_9 : decode prog_4_method_12_code 9 = .ok (.iconst 0, 1) := by decide +kernel
theorem d_Rdr_goDeeper_10 : decode prog_4_method_12_code 10 = .ok (.ireturn, 1) := by decide +kernel
theorem d_Rdr_goDeeper_11 : decode prog_4_method_12_code 11 = .ok (.aload_n 0, 1) := by decide +kernel
theorem d_Rdr_goDeeper_12 : decode prog_4_method_12_code 12 = .ok (.dup, 1) := by decide +kernel
theorem d_Rdr_goDeeper_13 : decode prog_4_method_12_code 13 = .ok (.getfield 46, 3) := by decide +kernel
theorem d_Rdr_goDeeper_16 : decode prog_4_method_12_code 16 = .ok (.iconst 1, 1) := by decide +kernel
theorem d_Rdr_goDeeper_17 : decode prog_4_method_12_code 17 = .ok (.iadd, 1) := by decide +kernel
theorem d_Rdr_goDeeper_18 : decode prog_4_method_12_code 18 = .ok (.putfield 46, 3) := by decide +kernel
theorem d_Rdr_goDeeper_21 : decode prog_4_method_12_code 21 = .ok (.iconst 1, 1) := by decide +kernel
theorem d_Rdr_goDeeper_22 : decode prog_4_method_12_code 22 = .ok (.ireturn, 1) := by decide +kernel
set_option maxHeartbeats 4000000 in
set_option maxRecDepth 100000 in
theorem c_Rdr_goDeeper (hP : zP b0 N f (wRdr ck A g len st)) : zK l D ck ad b0 y_Rdr_goDeeper prog_4_method_12_code 1 ((some FieldType.boolean)) 0 0 0 [.ref (A 0)] N f (fun r N' f' => r = some (.int (rGo st).1) ∧ N = N' ∧ zP b0 N f' (wRdr ck A g len ((rGo st).2)) ∧ zF N f f' (AA A)) := by
  refine zM.of zG_w (by decide) (Nat.le_of_ble_eq_true rfl) ?_
  intro zp ze zst zm zar zbe zme zc X hnm hb0
  have hF : zF N f f (AA A) := zF.rf
  refine z_aload_n X d_Rdr_goDeeper_0 rfl ?_
  refine z_get X d_Rdr_goDeeper_1 (hP.lo 0 rfl) (hP.at 0 rfl) cl_Rdr in_Rdr 6 (by decide) fl_Rdr_46 rfl rfl ?_
  refine z_bipush X d_Rdr_goDeeper_4 (v := 10) (by decide) ?_
  refine z_icmp_lt X 11 d_Rdr_goDeeper_6 (by decide) (fun h6 => ?_) (fun h6 => ?_)
  · skip
    refine z_aload_n X d_Rdr_goDeeper_11 rfl ?_
    refine z_dup X d_Rdr_goDeeper_12 rfl ?_
    refine z_get X d_Rdr_goDeeper_13 (hP.lo 0 rfl) (hP.at 0 rfl) cl_Rdr in_Rdr 6 (by decide) fl_Rdr_46 rfl rfl ?_
    refine z_iconst X d_Rdr_goDeeper_16 (v := 1) (by decide) ?_
    refine z_iadd X d_Rdr_goDeeper_17 ?_
    refine z_putP X t_Rdr ty_Rdr n_Rdr d_Rdr_goDeeper_18 hP 0 rfl cl_Rdr in_Rdr 6 (by decide) fl_Rdr_46 rfl rfl rfl rfl rfl (Nat.le_of_ble_eq_true rfl) (fun hP => ?_)
    have hF := hF.by (by simp) hP
    refine z_iconst X d_Rdr_goDeeper_21 (v := 1) (by decide) ?_
    exact z_zret X d_Rdr_goDeeper_22 rfl ⟨by rw [rGo, if_pos h6], rfl, by rw [rGo, if_pos h6]; exact hP, hF⟩
  · skip
    refine z_iconst X d_Rdr_goDeeper_9 (v := 0) (by decide) ?_
    exact z_zret X d_Rdr_goDeeper_10 rfl ⟨by rw [rGo, if_neg h6], rfl, by rw [rGo, if_neg h6]; exact hP, hF⟩
theorem d_Rdr_beginLevel_0 : decode prog_4_method_13_code 0 = .ok (.iload_n 1, 1) := by decide +kernel
theorem d_Rdr_beginLevel_1 : decode prog_4_method_13_code 1 = .ok (.ifCond .lt 12, 3) := by decide +kernel
theorem d_Rdr_beginLevel_4 : decode prog_4_method_13_code 4 = .ok (.iload_n 1, 1) := by decide +kernel
theorem d_Rdr_beginLevel_5 : decode prog_4_method_13_code 5 = .ok (.aload_n 0, 1) := by decide +kernel
theorem d_Rdr_beginLevel_6 : decode prog_4_method_13_code 6 = .ok (.getfield 32, 3) := by decide +kernel
theorem d_Rdr_beginLevel_9 : decode prog_4_method_13_code 9 = .ok (.arraylength, 1) := by decide +kernel
theorem d_Rdr_beginLevel_10 : decode prog_4_method_13_code 10 = .ok (.if_icmp .lt 5, 3) := by decide +kernel
theorem d_Rdr_beginLevel_13 : decode prog_4_method_13_code 13 = .ok (.iconst 0, 1) := by decide +kernel
theorem d_Rdr_beginLevel_14 : decode prog_4_method_13_code 14 = .ok (.ireturn, 1) := by decide +kernel
theorem d_Rdr_beginLevel_15 : decode prog_4_method_13_code 15 = .ok (.aload_n 0, 1) := by decide +kernel
theorem d_Rdr_beginLevel_16 : decode prog_4_method_13_code 16 = .ok (.iload_n 1, 1) := by decide +kernel
theorem d_Rdr_beginLevel_17 : decode prog_4_method_13_code 17 = .ok (.putfield 72, 3) := by decide +kernel
theorem d_Rdr_beginLevel_20 : decode prog_4_method_13_code 20 = .ok (.aload_n 0, 1) := by decide +kernel
theorem d_Rdr_beginLevel_21 : decode prog_4_method_13_code 21 = .ok (.getfield 25, 3) := by decide +kernel
theorem d_Rdr_beginLevel_24 : decode prog_4_method_13_code 24 = .ok (.iload_n 1, 1) := by decide +kernel
theorem d_Rdr_beginLevel_25 : decode prog_4_method_13_code 25 = .ok (.aload_n 0, 1) := by decide +kernel
theorem d_Rdr_beginLevel_26 : decode prog_4_method_13_code 26 = .ok (.getfield 21, 3) := by decide +kernel
theorem d_Rdr_beginLevel_29 : decode prog_4_method_13_code 29 = .ok (.invokevirtual 98, 3) := by decide +kernel
theorem d_Rdr_beginLevel_32 : decode prog_4_method_13_code 32 = .ok (.iastore, 1) := by decide +kernel
theorem d_Rdr_beginLevel_33 : decode prog_4_method_13_code 33 = .ok (.aload_n 0, 1) := by decide +kernel
theorem d_Rdr_beginLevel_34 : decode prog_4_method_13_code 34 = .ok (.getfield 29, 3) := by decide +kernel
theorem d_Rdr_beginLevel_37 : decode prog_4_method_13_code 37 = .ok (.iload_n 1, 1) := by decide +kernel
theorem d_Rdr_beginLevel_38 : decode prog_4_method_13_code 38 = .ok (.aload_n 0, 1) := by decide +kernel
theorem d_Rdr_beginLevel_39 : decode prog_4_method_13_code 39 = .ok (.getfield 21, 3) := by decide +kernel
theorem d_Rdr_beginLevel_42 : decode prog_4_method_13_code 42 = .ok (.invokevirtual 98, 3) := by decide +kernel
theorem d_Rdr_beginLevel_45 : decode prog_4_method_13_code 45 = .ok (.iastore, 1) := by decide +kernel
theorem d_Rdr_beginLevel_46 : decode prog_4_method_13_code 46 = .ok (.aload_n 0, 1) := by decide +kernel
theorem d_Rdr_beginLevel_47 : decode prog_4_method_13_code 47 = .ok (.getfield 32, 3) := by decide +kernel
theorem d_Rdr_beginLevel_50 : decode prog_4_method_13_code 50 = .ok (.iload_n 1, 1) := by decide +kernel
theorem d_Rdr_beginLevel_51 : decode prog_4_method_13_code 51 = .ok (.aload_n 0, 1) := by decide +kernel
theorem d_Rdr_beginLevel_52 : decode prog_4_method_13_code 52 = .ok (.getfield 46, 3) := by decide +kernel
theorem d_Rdr_beginLevel_55 : decode prog_4_method_13_code 55 = .ok (.iastore, 1) := by decide +kernel
theorem d_Rdr_beginLevel_56 : decode prog_4_method_13_code 56 = .ok (.aload_n 0, 1) := by decide +kernel
theorem d_Rdr_beginLevel_57 : decode prog_4_method_13_code 57 = .ok (.iconst 0, 1) := by decide +kernel
theorem d_Rdr_beginLevel_58 : decode prog_4_method_13_code 58 = .ok (.putfield 66, 3) := by decide +kernel
theorem d_Rdr_beginLevel_61 : decode prog_4_method_13_code 61 = .ok (.iconst 1, 1) := by decide +kernel
theorem d_Rdr_beginLevel_62 : decode prog_4_method_13_code 62 = .ok (.ireturn, 1) := by decide +kernel
set_option maxHeartbeats 4000000 in
set_option maxRecDepth 100000 in
theorem c_Rdr_beginLevel (hP : zP b0 N f (wRdr ck A g len st)) {nx : Int32} : zK l D ck ad b0 y_Rdr_beginLevel prog_4_method_13_code 2 ((some FieldType.boolean)) 1 0 0 [.ref (A 0), .int nx] N f (fun r N' f' => r = some (.int (rBeg nx st).1) ∧ N = N' ∧ zP b0 N f' (wRdr ck A g len ((rBeg nx st).2)) ∧ zF N f f' (AA A)) := by
  refine zM.of zG_w (by decide) (Nat.le_of_ble_eq_true rfl) ?_
  intro zp ze zst zm zar zbe zme zc X hnm hb0
  have hF : zF N f f (AA A) := zF.rf
  refine z_iload_n X d_Rdr_beginLevel_0 rfl ?_
  refine z_if_lt X 13 d_Rdr_beginLevel_1 (by decide) (fun h1 => ?_) (fun h1 => ?_)
  · skip
    refine z_iconst X d_Rdr_beginLevel_13 (v := 0) (by decide) ?_
    exact z_zret X d_Rdr_beginLevel_14 rfl ⟨by first | rw [rBeg, if_pos h1] | rw [rBeg, if_neg h1, if_neg h10], rfl, by first | (rw [rBeg, if_pos h1]; exact hP) | (rw [rBeg, if_neg h1, if_neg h10]; exact hP), hF⟩
  · skip
    refine z_iload_n X d_Rdr_beginLevel_4 rfl ?_
    refine z_aload_n X d_Rdr_beginLevel_5 rfl ?_
    refine z_get X d_Rdr_beginLevel_6 (hP.lo 0 rfl) (hP.at 0 rfl) cl_Rdr in_Rdr 4 (by decide) fl_Rdr_32 rfl rfl ?_
    refine z_alen X d_Rdr_beginLevel_9 (hP.lo 5 rfl) (hP.at 5 rfl) (t0 := 0) rfl rfl ?_
    refine z_icmp_lt X 15 d_Rdr_beginLevel_10 (by decide) (fun h10 => ?_) (fun h10 => ?_)
    · skip
      have h10 : nx < 11 := h10
      refine z_aload_n X d_Rdr_beginLevel_15 rfl ?_
      refine z_iload_n X d_Rdr_beginLevel_16 rfl ?_
      refine z_putP X t_Rdr ty_Rdr n_Rdr d_Rdr_beginLevel_17 hP 0 rfl cl_Rdr in_Rdr 5 (by decide) fl_Rdr_72 rfl rfl rfl rfl rfl (Nat.le_of_ble_eq_true rfl) (fun hP => ?_)
      have hF := hF.by (by simp) hP
      refine z_aload_n X d_Rdr_beginLevel_20 rfl ?_
      refine z_get X d_Rdr_beginLevel_21 (hP.lo 0 rfl) (hP.at 0 rfl) cl_Rdr in_Rdr 2 (by decide) fl_Rdr_25 rfl rfl ?_
      refine z_iload_n X d_Rdr_beginLevel_24 rfl ?_
      refine z_aload_n X d_Rdr_beginLevel_25 rfl ?_
      refine z_get X d_Rdr_beginLevel_26 (hP.lo 0 rfl) (hP.at 0 rfl) cl_Rdr in_Rdr 1 (by decide) fl_Rdr_21 rfl rfl ?_
      refine z_callV X zG_ok (c_Tre_size (hP.sub [6, 7, 8, 9] (by decide) rfl)) d_Rdr_beginLevel_29 ⟨(z_cb (n := 0) X.2.2.2.2.1 ml_Rdr_98 mc_Tre_size ini_Tre (by decide +kernel) rfl rfl ⟨Nat.le_of_ble_eq_true rfl, Nat.le_of_ble_eq_true rfl⟩), X.2.2.2.2.1 _ im_Tre_size, X.2.2.2.2.1 _ sel_Tre_size⟩ (hP.lo 6 rfl) (hP.at 6 rfl) cl_Tre rfl rfl (Nat.le_of_ble_eq_true rfl) ⟨Nat.le_of_ble_eq_true rfl, Nat.le_of_ble_eq_true rfl⟩ (fun r N1 f1 hp hN1 => ?_)
      obtain ⟨rfl, rfl, rfl⟩ := hp
      refine z_iastP X d_Rdr_beginLevel_32 hP 3 rfl (t0 := 0) rfl (by rw [vp_in_iff]; have a1 := Int32.not_lt.mp h1; rw [Int32.le_iff_toInt_le] at a1; have a2 := h10; rw [Int32.lt_iff_toInt_lt] at a2; simp at a1; exact ⟨a1, a2⟩) (fun hP => ?_)
      have hF := hF.by (by simp) hP
      refine z_aload_n X d_Rdr_beginLevel_33 rfl ?_
      refine z_get X d_Rdr_beginLevel_34 (hP.lo 0 rfl) (hP.at 0 rfl) cl_Rdr in_Rdr 3 (by decide) fl_Rdr_29 rfl rfl ?_
      refine z_iload_n X d_Rdr_beginLevel_37 rfl ?_
      refine z_aload_n X d_Rdr_beginLevel_38 rfl ?_
      refine z_get X d_Rdr_beginLevel_39 (hP.lo 0 rfl) (hP.at 0 rfl) cl_Rdr in_Rdr 1 (by decide) fl_Rdr_21 rfl rfl ?_
      refine z_callV X zG_ok (c_Tre_size (hP.sub [6, 7, 8, 9] (by decide) rfl)) d_Rdr_beginLevel_42 ⟨(z_cb (n := 0) X.2.2.2.2.1 ml_Rdr_98 mc_Tre_size ini_Tre (by decide +kernel) rfl rfl ⟨Nat.le_of_ble_eq_true rfl, Nat.le_of_ble_eq_true rfl⟩), X.2.2.2.2.1 _ im_Tre_size, X.2.2.2.2.1 _ sel_Tre_size⟩ (hP.lo 6 rfl) (hP.at 6 rfl) cl_Tre rfl rfl (Nat.le_of_ble_eq_true rfl) ⟨Nat.le_of_ble_eq_true rfl, Nat.le_of_ble_eq_true rfl⟩ (fun r N1 f1 hp hN1 => ?_)
      obtain ⟨rfl, rfl, rfl⟩ := hp
      refine z_iastP X d_Rdr_beginLevel_45 hP 4 rfl (t0 := 0) rfl (by rw [vp_in_iff]; have a1 := Int32.not_lt.mp h1; rw [Int32.le_iff_toInt_le] at a1; have a2 := h10; rw [Int32.lt_iff_toInt_lt] at a2; simp at a1; exact ⟨a1, a2⟩) (fun hP => ?_)
      have hF := hF.by (by simp) hP
      refine z_aload_n X d_Rdr_beginLevel_46 rfl ?_
      refine z_get X d_Rdr_beginLevel_47 (hP.lo 0 rfl) (hP.at 0 rfl) cl_Rdr in_Rdr 4 (by decide) fl_Rdr_32 rfl rfl ?_
      refine z_iload_n X d_Rdr_beginLevel_50 rfl ?_
      refine z_aload_n X d_Rdr_beginLevel_51 rfl ?_
      refine z_get X d_Rdr_beginLevel_52 (hP.lo 0 rfl) (hP.at 0 rfl) cl_Rdr in_Rdr 6 (by decide) fl_Rdr_46 rfl rfl ?_
      refine z_iastP X d_Rdr_beginLevel_55 hP 5 rfl (t0 := 0) rfl (by rw [vp_in_iff]; have a1 := Int32.not_lt.mp h1; rw [Int32.le_iff_toInt_le] at a1; have a2 := h10; rw [Int32.lt_iff_toInt_lt] at a2; simp at a1; exact ⟨a1, a2⟩) (fun hP => ?_)
      have hF := hF.by (by simp) hP
      refine z_aload_n X d_Rdr_beginLevel_56 rfl ?_
      refine z_iconst X d_Rdr_beginLevel_57 (v := 0) (by decide) ?_
      refine z_putP X t_Rdr ty_Rdr n_Rdr d_Rdr_beginLevel_58 hP 0 rfl cl_Rdr in_Rdr 9 (by decide) fl_Rdr_66 rfl rfl rfl rfl rfl (Nat.le_of_ble_eq_true rfl) (fun hP => ?_)
      have hF := hF.by (by simp) hP
      refine z_iconst X d_Rdr_beginLevel_61 (v := 1) (by decide) ?_
      exact z_zret X d_Rdr_beginLevel_62 rfl ⟨by rw [rBeg, if_neg h1, if_pos h10], rfl, by rw [rBeg, if_neg h1, if_pos h10]; exact hP, hF⟩
    · skip
      have h10 : ¬ nx < 11 := h10
      refine z_iconst X d_Rdr_beginLevel_13 (v := 0) (by decide) ?_
      exact z_zret X d_Rdr_beginLevel_14 rfl ⟨by first | rw [rBeg, if_pos h1] | rw [rBeg, if_neg h1, if_neg h10], rfl, by first | (rw [rBeg, if_pos h1]; exact hP) | (rw [rBeg, if_neg h1, if_neg h10]; exact hP), hF⟩
theorem d_Rdr_endLevel_0 : decode prog_4_method_14_code 0 = .ok (.aload_n 0, 1) := by decide +kernel
theorem d_Rdr_endLevel_1 : decode prog_4_method_14_code 1 = .ok (.getfield 72, 3) := by decide +kernel
theorem d_Rdr_endLevel_4 : decode prog_4_method_14_code 4 = .ok (.iconst 1, 1) := by decide +kernel
theorem d_Rdr_endLevel_5 : decode prog_4_method_14_code 5 = .ok (.if_icmp .lt 15, 3) := by decide +kernel
theorem d_Rdr_endLevel_8 : decode prog_4_method_14_code 8 = .ok (.aload_n 0, 1) := by decide +kernel
theorem d_Rdr_endLevel_9 : decode prog_4_method_14_code 9 = .ok (.getfield 72, 3) := by decide +kernel
theorem d_Rdr_endLevel_12 : decode prog_4_method_14_code 12 = .ok (.aload_n 0, 1) := by decide +kernel
theorem d_Rdr_endLevel_13 : decode prog_4_method_14_code 13 = .ok (.getfield 32, 3) := by decide +kernel
theorem d_Rdr_endLevel_16 : decode prog_4_method_14_code 16 = .ok (.arraylength, 1) := by decide +kernel
theorem d_Rdr_endLevel_17 : decode prog_4_method_14_code 17 = .ok (.if_icmp .lt 5, 3) := by decide +kernel
theorem d_Rdr_endLevel_20 : decode prog_4_method_14_code 20 = .ok (.iconst 0, 1) := by decide +kernel
theorem d_Rdr_endLevel_21 : decode prog_4_method_14_code 21 = .ok (.ireturn, 1) := by decide +kernel
theorem d_Rdr_endLevel_22 : decode prog_4_method_14_code 22 = .ok (.aload_n 0, 1) := by decide +kernel
theorem d_Rdr_endLevel_23 : decode prog_4_method_14_code 23 = .ok (.dup, 1) := by decide +kernel
theorem d_Rdr_endLevel_24 : decode prog_4_method_14_code 24 = .ok (.getfield 72, 3) := by decide +kernel
theorem d_Rdr_endLevel_27 : decode prog_4_method_14_code 27 = .ok (.iconst 1, 1) := by decide +kernel
theorem d_Rdr_endLevel_28 : decode prog_4_method_14_code 28 = .ok (.isub, 1) := by decide +kernel
theorem d_Rdr_endLevel_29 : decode prog_4_method_14_code 29 = .ok (.putfield 72, 3) := by decide +kernel
theorem d_Rdr_endLevel_32 : decode prog_4_method_14_code 32 = .ok (.aload_n 0, 1) := by decide +kernel
theorem d_Rdr_endLevel_33 : decode prog_4_method_14_code 33 = .ok (.iconst 5, 1) := by decide +kernel
theorem d_Rdr_endLevel_34 : decode prog_4_method_14_code 34 = .ok (.putfield 66, 3) := by decide +kernel
theorem d_Rdr_endLevel_37 : decode prog_4_method_14_code 37 = .ok (.iconst 1, 1) := by decide +kernel
theorem d_Rdr_endLevel_38 : decode prog_4_method_14_code 38 = .ok (.ireturn, 1) := by decide +kernel
set_option maxHeartbeats 4000000 in
set_option maxRecDepth 100000 in
theorem c_Rdr_endLevel (hP : zP b0 N f (wRdr ck A g len st)) : zK l D ck ad b0 y_Rdr_endLevel prog_4_method_14_code 1 ((some FieldType.boolean)) 0 0 0 [.ref (A 0)] N f (fun r N' f' => r = some (.int (rEnd st).1) ∧ N = N' ∧ zP b0 N f' (wRdr ck A g len ((rEnd st).2)) ∧ zF N f f' (AA A)) := by
  refine zM.of zG_w (by decide) (Nat.le_of_ble_eq_true rfl) ?_
  intro zp ze zst zm zar zbe zme zc X hnm hb0
  have hF : zF N f f (AA A) := zF.rf
  refine z_aload_n X d_Rdr_endLevel_0 rfl ?_
  refine z_get X d_Rdr_endLevel_1 (hP.lo 0 rfl) (hP.at 0 rfl) cl_Rdr in_Rdr 5 (by decide) fl_Rdr_72 rfl rfl ?_
  refine z_iconst X d_Rdr_endLevel_4 (v := 1) (by decide) ?_
  refine z_icmp_lt X 20 d_Rdr_endLevel_5 (by decide) (fun h5 => ?_) (fun h5 => ?_)
  · skip
    refine z_iconst X d_Rdr_endLevel_20 (v := 0) (by decide) ?_
    exact z_zret X d_Rdr_endLevel_21 rfl ⟨by first | rw [rEnd, if_pos h5] | rw [rEnd, if_neg h5, if_neg h17], rfl, by first | (rw [rEnd, if_pos h5]; exact hP) | (rw [rEnd, if_neg h5, if_neg h17]; exact hP), hF⟩
  · skip
    refine z_aload_n X d_Rdr_endLevel_8 rfl ?_
    refine z_get X d_Rdr_endLevel_9 (hP.lo 0 rfl) (hP.at 0 rfl) cl_Rdr in_Rdr 5 (by decide) fl_Rdr_72 rfl rfl ?_
    refine z_aload_n X d_Rdr_endLevel_12 rfl ?_
    refine z_get X d_Rdr_endLevel_13 (hP.lo 0 rfl) (hP.at 0 rfl) cl_Rdr in_Rdr 4 (by decide) fl_Rdr_32 rfl rfl ?_
    refine z_alen X d_Rdr_endLevel_16 (hP.lo 5 rfl) (hP.at 5 rfl) (t0 := 0) rfl rfl ?_
    refine z_icmp_lt X 22 d_Rdr_endLevel_17 (by decide) (fun h17 => ?_) (fun h17 => ?_)
    · skip
      have h17 : st.1 5 < 11 := h17
      refine z_aload_n X d_Rdr_endLevel_22 rfl ?_
      refine z_dup X d_Rdr_endLevel_23 rfl ?_
      refine z_get X d_Rdr_endLevel_24 (hP.lo 0 rfl) (hP.at 0 rfl) cl_Rdr in_Rdr 5 (by decide) fl_Rdr_72 rfl rfl ?_
      refine z_iconst X d_Rdr_endLevel_27 (v := 1) (by decide) ?_
      refine z_isub X d_Rdr_endLevel_28 ?_
      refine z_putP X t_Rdr ty_Rdr n_Rdr d_Rdr_endLevel_29 hP 0 rfl cl_Rdr in_Rdr 5 (by decide) fl_Rdr_72 rfl rfl rfl rfl rfl (Nat.le_of_ble_eq_true rfl) (fun hP => ?_)
      have hF := hF.by (by simp) hP
      refine z_aload_n X d_Rdr_endLevel_32 rfl ?_
      refine z_iconst X d_Rdr_endLevel_33 (v := 5) (by decide) ?_
      refine z_putP X t_Rdr ty_Rdr n_Rdr d_Rdr_endLevel_34 hP 0 rfl cl_Rdr in_Rdr 9 (by decide) fl_Rdr_66 rfl rfl rfl rfl rfl (Nat.le_of_ble_eq_true rfl) (fun hP => ?_)
      have hF := hF.by (by simp) hP
      refine z_iconst X d_Rdr_endLevel_37 (v := 1) (by decide) ?_
      exact z_zret X d_Rdr_endLevel_38 rfl ⟨by rw [rEnd, if_neg h5, if_pos h17], rfl, by rw [rEnd, if_neg h5, if_pos h17]; exact hP, hF⟩
    · skip
      have h17 : ¬ st.1 5 < 11 := h17
      refine z_iconst X d_Rdr_endLevel_20 (v := 0) (by decide) ?_
      exact z_zret X d_Rdr_endLevel_21 rfl ⟨by first | rw [rEnd, if_pos h5] | rw [rEnd, if_neg h5, if_neg h17], rfl, by first | (rw [rEnd, if_pos h5]; exact hP) | (rw [rEnd, if_neg h5, if_neg h17]; exact hP), hF⟩
theorem d_Rdr_kindOfToken_0 : decode prog_4_method_10_code 0 = .ok (.ldc 121, 2) := by decide +kernel
theorem d_Rdr_kindOfToken_2 : decode prog_4_method_10_code 2 = .ok (.aload_n 0, 1) := by decide +kernel
theorem d_Rdr_kindOfToken_3 : decode prog_4_method_10_code 3 = .ok (.getfield 63, 3) := by decide +kernel
theorem d_Rdr_kindOfToken_6 : decode prog_4_method_10_code 6 = .ok (.i2c, 1) := by decide +kernel
theorem d_Rdr_kindOfToken_7 : decode prog_4_method_10_code 7 = .ok (.invokevirtual 123, 3) := by decide +kernel
theorem d_Rdr_kindOfToken_10 : decode prog_4_method_10_code 10 = .ok (.ireturn, 1) := by decide +kernel
set_option maxHeartbeats 4000000 in
set_option maxRecDepth 100000 in
theorem c_Rdr_kindOfToken (hP : zP b0 N f (wRdr ck A g len st)) : zK l D ck ad b0 y_Rdr_kindOfToken prog_4_method_10_code 1 ((some FieldType.int)) 4 0 0 [.ref (A 0)] N f (fun r N' f' => r = some (.int (rKind st)) ∧ N = N' ∧ f = f') := by
  refine zM.of zG_w (by decide) (Nat.le_of_ble_eq_true rfl) ?_
  intro zp ze zst zm zar zbe zme zc X hnm hb0
  refine z_ldcS X d_Rdr_kindOfToken_0 (zG_sr (j := 6) X.2.2.2.2.2.1 (by decide)) ?_
  refine z_aload_n X d_Rdr_kindOfToken_2 rfl ?_
  refine z_get X d_Rdr_kindOfToken_3 (hP.lo 0 rfl) (hP.at 0 rfl) cl_Rdr in_Rdr 11 (by decide) fl_Rdr_63 rfl rfl ?_
  refine z_i2c X d_Rdr_kindOfToken_6 rfl ?_
  refine z_callVK X zG_ok (c_String_indexOf (j := 6) (by decide)) d_Rdr_kindOfToken_7 ⟨(z_cb (n := 1) X.2.2.2.2.1 ml_Rdr_123 mc_String_indexOf ini_String (by decide +kernel) rfl rfl ⟨Nat.le_of_ble_eq_true rfl, Nat.le_of_ble_eq_true rfl⟩), X.2.2.2.2.1 _ im_String_indexOf, X.2.2.2.2.1 _ sel_String_indexOf⟩ (zG_so (j := 6) X.2.2.2.2.2.1 (by decide)) rfl rfl (Nat.le_of_ble_eq_true rfl) ⟨Nat.le_of_ble_eq_true rfl, Nat.le_of_ble_eq_true rfl⟩ (fun r N1 f1 hp hN1 => ?_)
  obtain ⟨rfl, rfl, rfl⟩ := hp
  exact z_iret X d_Rdr_kindOfToken_10 ⟨rfl, rfl, rfl⟩
theorem d_Rdr_isWord_0 : decode prog_4_method_18_code 0 = .ok (.aload_n 0, 1) := by decide +kernel
theorem d_Rdr_isWord_1 : decode prog_4_method_18_code 1 = .ok (.getfield 42, 3) := by decide +kernel
theorem d_Rdr_isWord_4 : decode prog_4_method_18_code 4 = .ok (.aload_n 0, 1) := by decide +kernel
theorem d_Rdr_isWord_5 : decode prog_4_method_18_code 5 = .ok (.getfield 60, 3) := by decide +kernel
theorem d_Rdr_isWord_8 : decode prog_4_method_18_code 8 = .ok (.isub, 1) := by decide +kernel
theorem d_Rdr_isWord_9 : decode prog_4_method_18_code 9 = .ok (.aload_n 1, 1) := by decide +kernel
theorem d_Rdr_isWord_10 : decode prog_4_method_18_code 10 = .ok (.invokevirtual 161, 3) := by decide +kernel
theorem d_Rdr_isWord_13 : decode prog_4_method_18_code 13 = .ok (.if_icmp .eq 5, 3) := by decide +kernel
theorem d_Rdr_isWord_16 : decode prog_4_method_18_code 16 = .ok (.iconst 0, 1) := by decide +kernel
theorem d_Rdr_isWord_17 : decode prog_4_method_18_code 17 = .ok (.ireturn, 1) := by decide +kernel
theorem d_Rdr_isWord_18 : decode prog_4_method_18_code 18 = .ok (.iconst 0, 1) := by decide +kernel
theorem d_Rdr_isWord_19 : decode prog_4_method_18_code 19 = .ok (.istore_n 2, 1) := by decide +kernel
theorem d_Rdr_isWord_20 : decode prog_4_method_18_code 20 = .ok (.iload_n 2, 1) := by decide +kernel
theorem d_Rdr_isWord_21 : decode prog_4_method_18_code 21 = .ok (.aload_n 1, 1) := by decide +kernel
theorem d_Rdr_isWord_22 : decode prog_4_method_18_code 22 = .ok (.invokevirtual 161, 3) := by decide +kernel
theorem d_Rdr_isWord_25 : decode prog_4_method_18_code 25 = .ok (.if_icmp .ge 32, 3) := by decide +kernel
theorem d_Rdr_isWord_28 : decode prog_4_method_18_code 28 = .ok (.aload_n 0, 1) := by decide +kernel
theorem d_Rdr_isWord_29 : decode prog_4_method_18_code 29 = .ok (.getfield 12, 3) := by decide +kernel
theorem d_Rdr_isWord_32 : decode prog_4_method_18_code 32 = .ok (.aload_n 0, 1) := by decide +kernel
theorem d_Rdr_isWord_33 : decode prog_4_method_18_code 33 = .ok (.getfield 60, 3) := by decide +kernel
theorem d_Rdr_isWord_36 : decode prog_4_method_18_code 36 = .ok (.iload_n 2, 1) := by decide +kernel
theorem d_Rdr_isWord_37 : decode prog_4_method_18_code 37 = .ok (.iadd, 1) := by decide +kernel
theorem d_Rdr_isWord_38 : decode prog_4_method_18_code 38 = .ok (.invokevirtual 132, 3) := by decide +kernel
theorem d_Rdr_isWord_41 : decode prog_4_method_18_code 41 = .ok (.aload_n 1, 1) := by decide +kernel
theorem d_Rdr_isWord_42 : decode prog_4_method_18_code 42 = .ok (.iload_n 2, 1) := by decide +kernel
theorem d_Rdr_isWord_43 : decode prog_4_method_18_code 43 = .ok (.invokevirtual 164, 3) := by decide +kernel
theorem d_Rdr_isWord_46 : decode prog_4_method_18_code 46 = .ok (.if_icmp .eq 5, 3) := by decide +kernel
theorem d_Rdr_isWord_49 : decode prog_4_method_18_code 49 = .ok (.iconst 0, 1) := by decide +kernel
theorem d_Rdr_isWord_50 : decode prog_4_method_18_code 50 = .ok (.ireturn, 1) := by decide +kernel
theorem d_Rdr_isWord_51 : decode prog_4_method_18_code 51 = .ok (.iinc 2 1, 3) := by decide +kernel
theorem d_Rdr_isWord_54 : decode prog_4_method_18_code 54 = .ok (.goto (-34), 3) := by decide +kernel
theorem d_Rdr_isWord_57 : decode prog_4_method_18_code 57 = .ok (.iconst 1, 1) := by decide +kernel
theorem d_Rdr_isWord_58 : decode prog_4_method_18_code 58 = .ok (.ireturn, 1) := by decide +kernel
set_option maxHeartbeats 4000000 in
set_option maxRecDepth 100000 in
theorem c_Rdr_isWord (hP : zP b0 N f (wRdr ck A g len st)) (hlen : len ≤ 200) {j : Nat} (hj : j < 16) : zK l D ck ad b0 y_Rdr_isWord prog_4_method_18_code 3 ((some FieldType.boolean)) 4 0 0 [.ref (A 0), .ref (ad.1 j)] N f (fun r N' f' => r = some (.int (if zwd g len st.1 j = true then 1 else 0)) ∧ N = N' ∧ f = f') := by
  refine zM.of zG_w (by decide) (Nat.le_of_ble_eq_true rfl) ?_
  intro zp ze zst zm zar zbe zme zc X hnm hb0
  have hl9 := (zSb_ok j hj).1
  have L20 : ∀ (nn : Nat) (k : Nat), (k ≤ (zSb j).length ∧ k + nn = (zSb j).length + 1) → (st.1 10 - st.1 12 = nI (zSb j).length) → zwk g len (st.1 12) (zSb j) k = true → zW zp l ze (zR 4 0 0) zst zm zar zbe zme zc D zcl b0 3 0 0 (MQ zbe (zQ D zcl b0 (fun r N' f' => r = some (.int (if zwd g len st.1 j = true then 1 else 0)) ∧ N = N' ∧ f = f')) zar zst 0 0 (zA b0)) N f 20 [(0, .ref (A 0)), (1, .ref (ad.1 j)), (2, .int (nI k))] [] := by
    intro nn
    induction nn with
    | zero =>
      intro k hk h13 hz
      omega
    | succ nn ih =>
      intro k hk h13 hz
      refine z_iload_n X d_Rdr_isWord_20 rfl ?_
      refine z_aload_n X d_Rdr_isWord_21 rfl ?_
      refine z_callVK X zG_ok (c_String_length hj) d_Rdr_isWord_22 ⟨(z_cb (n := 0) X.2.2.2.2.1 ml_Rdr_161 mc_String_length ini_String (by decide +kernel) rfl rfl ⟨Nat.le_of_ble_eq_true rfl, Nat.le_of_ble_eq_true rfl⟩), X.2.2.2.2.1 _ im_String_length, X.2.2.2.2.1 _ sel_String_length⟩ (zG_so X.2.2.2.2.2.1 hj) rfl rfl (Nat.le_of_ble_eq_true rfl) ⟨Nat.le_of_ble_eq_true rfl, Nat.le_of_ble_eq_true rfl⟩ (fun r N1 f1 hp hN1 => ?_)
      obtain ⟨rfl, rfl, rfl⟩ := hp
      refine z_icmp_ge X 57 d_Rdr_isWord_25 (by decide) (fun h25 => ?_) (fun h25 => ?_)
      · skip
        have hk2 : k = (zSb j).length := by have := (nI_leI (a := (zSb j).length) (b := k) (by omega) (by omega)).mp h25; omega
        subst hk2
        refine z_iconst X d_Rdr_isWord_57 (v := 1) (by decide) ?_
        exact z_zret X d_Rdr_isWord_58 rfl ⟨by rw [if_pos (by rw [zwd, hz, decide_eq_true h13]; rfl)], rfl, rfl⟩
      · skip
        have hk2 : k < (zSb j).length := by
          rcases Nat.lt_or_ge k (zSb j).length with z | z
          · exact z
          · exact absurd (nI_le z (by omega)) h25
        refine z_aload_n X d_Rdr_isWord_28 rfl ?_
        refine z_get X d_Rdr_isWord_29 (hP.lo 0 rfl) (hP.at 0 rfl) cl_Rdr in_Rdr 0 (by decide) fl_Rdr_12 rfl rfl ?_
        refine z_aload_n X d_Rdr_isWord_32 rfl ?_
        refine z_get X d_Rdr_isWord_33 (hP.lo 0 rfl) (hP.at 0 rfl) cl_Rdr in_Rdr 12 (by decide) fl_Rdr_60 rfl rfl ?_
        refine z_iload_n X d_Rdr_isWord_36 rfl ?_
        refine z_iadd X d_Rdr_isWord_37 ?_
        refine z_callV X zG_ok (c_Sgn_get (hP.sub [1, 2] (by decide) rfl) hlen) d_Rdr_isWord_38 ⟨(z_cb (n := 1) X.2.2.2.2.1 ml_Rdr_132 mc_Sgn_get ini_Sgn (by decide +kernel) rfl rfl ⟨Nat.le_of_ble_eq_true rfl, Nat.le_of_ble_eq_true rfl⟩), X.2.2.2.2.1 _ im_Sgn_get, X.2.2.2.2.1 _ sel_Sgn_get⟩ (hP.lo 1 rfl) (hP.at 1 rfl) cl_Sgn rfl rfl (Nat.le_of_ble_eq_true rfl) ⟨Nat.le_of_ble_eq_true rfl, Nat.le_of_ble_eq_true rfl⟩ (fun r N1 f1 hp hN1 => ?_)
        obtain ⟨rfl, rfl, rfl⟩ := hp
        refine z_aload_n X d_Rdr_isWord_41 rfl ?_
        refine z_iload_n X d_Rdr_isWord_42 rfl ?_
        refine z_callVK X zG_ok (c_String_charAt hj (k := k) hk2) d_Rdr_isWord_43 ⟨(z_cb (n := 1) X.2.2.2.2.1 ml_Rdr_164 mc_String_charAt ini_String (by decide +kernel) rfl rfl ⟨Nat.le_of_ble_eq_true rfl, Nat.le_of_ble_eq_true rfl⟩), X.2.2.2.2.1 _ im_String_charAt, X.2.2.2.2.1 _ sel_String_charAt⟩ (zG_so X.2.2.2.2.2.1 hj) rfl rfl (Nat.le_of_ble_eq_true rfl) ⟨Nat.le_of_ble_eq_true rfl, Nat.le_of_ble_eq_true rfl⟩ (fun r N1 f1 hp hN1 => ?_)
        obtain ⟨rfl, rfl, rfl⟩ := hp
        refine z_icmp_eq X 51 d_Rdr_isWord_46 (by decide) (fun h46 => ?_) (fun h46 => ?_)
        · skip
          refine z_iinc X d_Rdr_isWord_51 rfl (nI_1 _) (by decide) rfl ?_
          refine z_goto X 20 d_Rdr_isWord_54 (by decide) ?_
          refine ih (k + 1) (by omega) h13 ?_
          rw [zwk, hz, decide_eq_true h46]
          rfl
        · skip
          refine z_iconst X d_Rdr_isWord_49 (v := 0) (by decide) ?_
          exact z_zret X d_Rdr_isWord_50 rfl ⟨by rw [if_neg (by rw [zwd, zwk_no (k := k + 1) (by rw [zwk, decide_eq_false h46]; simp) (by omega)]; simp)], rfl, rfl⟩
  refine z_aload_n X d_Rdr_isWord_0 rfl ?_
  refine z_get X d_Rdr_isWord_1 (hP.lo 0 rfl) (hP.at 0 rfl) cl_Rdr in_Rdr 10 (by decide) fl_Rdr_42 rfl rfl ?_
  refine z_aload_n X d_Rdr_isWord_4 rfl ?_
  refine z_get X d_Rdr_isWord_5 (hP.lo 0 rfl) (hP.at 0 rfl) cl_Rdr in_Rdr 12 (by decide) fl_Rdr_60 rfl rfl ?_
  refine z_isub X d_Rdr_isWord_8 ?_
  refine z_aload_n X d_Rdr_isWord_9 rfl ?_
  refine z_callVK X zG_ok (c_String_length hj) d_Rdr_isWord_10 ⟨(z_cb (n := 0) X.2.2.2.2.1 ml_Rdr_161 mc_String_length ini_String (by decide +kernel) rfl rfl ⟨Nat.le_of_ble_eq_true rfl, Nat.le_of_ble_eq_true rfl⟩), X.2.2.2.2.1 _ im_String_length, X.2.2.2.2.1 _ sel_String_length⟩ (zG_so X.2.2.2.2.2.1 hj) rfl rfl (Nat.le_of_ble_eq_true rfl) ⟨Nat.le_of_ble_eq_true rfl, Nat.le_of_ble_eq_true rfl⟩ (fun r N1 f1 hp hN1 => ?_)
  obtain ⟨rfl, rfl, rfl⟩ := hp
  refine z_icmp_eq X 18 d_Rdr_isWord_13 (by decide) (fun h13 => ?_) (fun h13 => ?_)
  · skip
    refine z_iconst X d_Rdr_isWord_18 (v := 0) (by decide) ?_
    refine z_istore_n X d_Rdr_isWord_19 (by decide) rfl ?_
    exact L20 ((zSb j).length + 1) 0 (by omega) h13 rfl
  · skip
    refine z_iconst X d_Rdr_isWord_16 (v := 0) (by decide) ?_
    exact z_zret X d_Rdr_isWord_17 rfl ⟨by rw [if_neg (by simp [zwd, h13])], rfl, rfl⟩
theorem d_Rdr_readNumber_0 : decode prog_4_method_16_code 0 = .ok (.aload_n 0, 1) := by decide +kernel
theorem d_Rdr_readNumber_1 : decode prog_4_method_16_code 1 = .ok (.getfield 42, 3) := by decide +kernel
theorem d_Rdr_readNumber_4 : decode prog_4_method_16_code 4 = .ok (.istore_n 2, 1) := by decide +kernel
theorem d_Rdr_readNumber_5 : decode prog_4_method_16_code 5 = .ok (.aload_n 0, 1) := by decide +kernel
theorem d_Rdr_readNumber_6 : decode prog_4_method_16_code 6 = .ok (.iconst 0, 1) := by decide +kernel
theorem d_Rdr_readNumber_7 : decode prog_4_method_16_code 7 = .ok (.putfield 105, 3) := by decide +kernel
theorem d_Rdr_readNumber_10 : decode prog_4_method_16_code 10 = .ok (.iconst 0, 1) := by decide +kernel
theorem d_Rdr_readNumber_11 : decode prog_4_method_16_code 11 = .ok (.istore_n 3, 1) := by decide +kernel
theorem d_Rdr_readNumber_12 : decode prog_4_method_16_code 12 = .ok (.iload_n 3, 1) := by decide +kernel
theorem d_Rdr_readNumber_13 : decode prog_4_method_16_code 13 = .ok (.sipush 200, 3) := by decide +kernel
theorem d_Rdr_readNumber_16 : decode prog_4_method_16_code 16 = .ok (.if_icmp .ge 74, 3) := by decide +kernel
theorem d_Rdr_readNumber_19 : decode prog_4_method_16_code 19 = .ok (.aload_n 0, 1) := by decide +kernel
theorem d_Rdr_readNumber_20 : decode prog_4_method_16_code 20 = .ok (.getfield 12, 3) := by decide +kernel
theorem d_Rdr_readNumber_23 : decode prog_4_method_16_code 23 = .ok (.aload_n 0, 1) := by decide +kernel
theorem d_Rdr_readNumber_24 : decode prog_4_method_16_code 24 = .ok (.getfield 42, 3) := by decide +kernel
theorem d_Rdr_readNumber_27 : decode prog_4_method_16_code 27 = .ok (.invokevirtual 132, 3) := by decide +kernel
theorem d_Rdr_readNumber_30 : decode prog_4_method_16_code 30 = .ok (.invokestatic 135, 3) := by decide +kernel
theorem d_Rdr_readNumber_33 : decode prog_4_method_16_code 33 = .ok (.ifCond .eq 57, 3) := by decide +kernel
theorem d_Rdr_readNumber_36 : decode prog_4_method_16_code 36 = .ok (.aload_n 0, 1) := by decide +kernel
theorem d_Rdr_readNumber_37 : decode prog_4_method_16_code 37 = .ok (.iload_n 3, 1) := by decide +kernel
theorem d_Rdr_readNumber_38 : decode prog_4_method_16_code 38 = .ok (.iload_n 1, 1) := by decide +kernel
theorem d_Rdr_readNumber_39 : decode prog_4_method_16_code 39 = .ok (.if_icmp .ge 28, 3) := by decide +kernel
theorem d_Rdr_readNumber_42 : decode prog_4_method_16_code 42 = .ok (.aload_n 0, 1) := by decide +kernel
theorem d_Rdr_readNumber_43 : decode prog_4_method_16_code 43 = .ok (.getfield 105, 3) := by decide +kernel
theorem d_Rdr_readNumber_46 : decode prog_4_method_16_code 46 = .ok (.bipush 10, 2) := by decide +kernel
theorem d_Rdr_readNumber_48 : decode prog_4_method_16_code 48 = .ok (.imul, 1) := by decide +kernel
theorem d_Rdr_readNumber_49 : decode prog_4_method_16_code 49 = .ok (.aload_n 0, 1) := by decide +kernel
theorem d_Rdr_readNumber_50 : decode prog_4_method_16_code 50 = .ok (.getfield 12, 3) := by decide +kernel
theorem d_Rdr_readNumber_53 : decode prog_4_method_16_code 53 = .ok (.aload_n 0, 1) := by decide +kernel
theorem d_Rdr_readNumber_54 : decode prog_4_method_16_code 54 = .ok (.getfield 42, 3) := by decide +kernel
theorem d_Rdr_readNumber_57 : decode prog_4_method_16_code 57 = .ok (.invokevirtual 132, 3) := by decide +kernel
theorem d_Rdr_readNumber_60 : decode prog_4_method_16_code 60 = .ok (.iadd, 1) := by decide +kernel
theorem d_Rdr_readNumber_61 : decode prog_4_method_16_code 61 = .ok (.bipush 48, 2) := by decide +kernel
theorem d_Rdr_readNumber_63 : decode prog_4_method_16_code 63 = .ok (.isub, 1) := by decide +kernel
theorem d_Rdr_readNumber_64 : decode prog_4_method_16_code 64 = .ok (.goto 7, 3) := by decide +kernel
theorem d_Rdr_readNumber_67 : decode prog_4_method_16_code 67 = .ok (.aload_n 0, 1) := by decide +kernel
theorem d_Rdr_readNumber_68 : decode prog_4_method_16_code 68 = .ok (.getfield 105, 3) := by decide +kernel
theorem d_Rdr_readNumber_71 : decode prog_4_method_16_code 71 = .ok (.putfield 105, 3) := by decide +kernel
theorem d_Rdr_readNumber_74 : decode prog_4_method_16_code 74 = .ok (.aload_n 0, 1) := by decide +kernel
theorem d_Rdr_readNumber_75 : decode prog_4_method_16_code 75 = .ok (.dup, 1) := by decide +kernel
theorem d_Rdr_readNumber_76 : decode prog_4_method_16_code 76 = .ok (.getfield 42, 3) := by decide +kernel
theorem d_Rdr_readNumber_79 : decode prog_4_method_16_code 79 = .ok (.iconst 1, 1) := by decide +kernel
theorem d_Rdr_readNumber_80 : decode prog_4_method_16_code 80 = .ok (.iadd, 1) := by decide +kernel
theorem d_Rdr_readNumber_81 : decode prog_4_method_16_code 81 = .ok (.putfield 42, 3) := by decide +kernel
theorem d_Rdr_readNumber_84 : decode prog_4_method_16_code 84 = .ok (.iinc 3 1, 3) := by decide +kernel
theorem d_Rdr_readNumber_87 : decode prog_4_method_16_code 87 = .ok (.goto (-75), 3) := by decide +kernel
theorem d_Rdr_readNumber_90 : decode prog_4_method_16_code 90 = .ok (.aload_n 0, 1) := by decide +kernel
theorem d_Rdr_readNumber_91 : decode prog_4_method_16_code 91 = .ok (.getfield 42, 3) := by decide +kernel
theorem d_Rdr_readNumber_94 : decode prog_4_method_16_code 94 = .ok (.iload_n 2, 1) := by decide +kernel
theorem d_Rdr_readNumber_95 : decode prog_4_method_16_code 95 = .ok (.if_icmp .le 17, 3) := by decide +kernel
theorem d_Rdr_readNumber_98 : decode prog_4_method_16_code 98 = .ok (.aload_n 0, 1) := by decide +kernel
theorem d_Rdr_readNumber_99 : decode prog_4_method_16_code 99 = .ok (.getfield 42, 3) := by decide +kernel
theorem d_Rdr_readNumber_102 : decode prog_4_method_16_code 102 = .ok (.iload_n 2, 1) := by decide +kernel
theorem d_Rdr_readNumber_103 : decode prog_4_method_16_code 103 = .ok (.isub, 1) := by decide +kernel
theorem d_Rdr_readNumber_104 : decode prog_4_method_16_code 104 = .ok (.iload_n 1, 1) := by decide +kernel
theorem d_Rdr_readNumber_105 : decode prog_4_method_16_code 105 = .ok (.if_icmp .gt 7, 3) := by decide +kernel
theorem d_Rdr_readNumber_108 : decode prog_4_method_16_code 108 = .ok (.iconst 1, 1) := by decide +kernel
theorem d_Rdr_readNumber_109 : decode prog_4_method_16_code 109 = .ok (.goto 4, 3) := by decide +kernel
theorem d_Rdr_readNumber_112 : decode prog_4_method_16_code 112 = .ok (.iconst 0, 1) := by decide +kernel
theorem d_Rdr_readNumber_113 : decode prog_4_method_16_code 113 = .ok (.ireturn, 1) := by decide +kernel
set_option maxHeartbeats 4000000 in
set_option maxRecDepth 100000 in
theorem c_Rdr_readNumber (hP : zP b0 N f (wRdr ck A g len st)) (hlen : len ≤ 200) {most : Int32} : zK l D ck ad b0 y_Rdr_readNumber prog_4_method_16_code 4 ((some FieldType.boolean)) 1 0 0 [.ref (A 0), .int most] N f (fun r N' f' => r = some (.int (zb (zNum g len most st.1).1)) ∧ N = N' ∧ zP b0 N f' (wRdr ck A g len (((zNum g len most st.1).2, st.2))) ∧ zF N f f' (AA A)) := by
  refine zM.of zG_w (by decide) (Nat.le_of_ble_eq_true rfl) ?_
  intro zp ze zst zm zar zbe zme zc X hnm hb0
  have hF : zF N f f (AA A) := zF.rf
  have L12 : ∀ (nn : Nat) (i : Nat) (p tv : Int32) (f1 : Nat → va_E), (i ≤ 200 ∧ i + nn = 201) → znum most g len 200 0 (st.1 10) 0 = znum most g len (200 - i) i p tv → zP b0 N f1 (wRdr ck A g len (upd (upd st.1 13 (tv)) 10 (p), st.2)) → zF N f f1 (AA A) → zW zp l ze (zR 1 0 0) zst zm zar zbe zme zc D zcl b0 4 0 0 (MQ zbe (zQ D zcl b0 (fun r N' f' => r = some (.int (zb (zNum g len most st.1).1)) ∧ N = N' ∧ zP b0 N f' (wRdr ck A g len (((zNum g len most st.1).2, st.2))) ∧ zF N f f' (AA A))) zar zst 0 0 (zA b0)) N f1 12 [(0, .ref (A 0)), (1, .int most), (2, .int (st.1 10)), (3, .int (nI i))] [] := by
    intro nn
    induction nn with
    | zero =>
      intro i p tv f1 hi hz0 hP hF
      omega
    | succ nn ih =>
      intro i p tv f1 hi hz0 hP hF
      have hP0 := hP
      refine z_iload_n X d_Rdr_readNumber_12 rfl ?_
      refine z_sipush X d_Rdr_readNumber_13 (v := 200) (by decide) ?_
      refine z_icmp_ge X 90 d_Rdr_readNumber_16 (by decide) (fun h16 => ?_) (fun h16 => ?_)
      · skip
        have hi2 : i = 200 := by have := (nI_leI (a := 200) (b := i) (by decide) (by omega)).mp h16; omega
        subst hi2
        have hz : znum most g len 200 0 (st.1 10) 0 = (p, tv) := hz0
        refine z_aload_n X d_Rdr_readNumber_90 rfl ?_
        refine z_get X d_Rdr_readNumber_91 (hP.lo 0 rfl) (hP.at 0 rfl) cl_Rdr in_Rdr 10 (by decide) fl_Rdr_42 rfl rfl ?_
        refine z_iload_n X d_Rdr_readNumber_94 rfl ?_
        refine z_icmp_le X 112 d_Rdr_readNumber_95 (by decide) (fun h95 => ?_) (fun h95 => ?_)
        · skip
          have e9 := zNum_1 hz h95
          refine z_iconst X d_Rdr_readNumber_112 (v := 0) (by decide) ?_
          exact z_zret X d_Rdr_readNumber_113 rfl ⟨by rw [e9]; rfl, rfl, by rw [zNum_q hz]; exact hP, hF⟩
        · skip
          refine z_aload_n X d_Rdr_readNumber_98 rfl ?_
          refine z_get X d_Rdr_readNumber_99 (hP.lo 0 rfl) (hP.at 0 rfl) cl_Rdr in_Rdr 10 (by decide) fl_Rdr_42 rfl rfl ?_
          refine z_iload_n X d_Rdr_readNumber_102 rfl ?_
          refine z_isub X d_Rdr_readNumber_103 ?_
          refine z_iload_n X d_Rdr_readNumber_104 rfl ?_
          refine z_icmp_gt X 112 d_Rdr_readNumber_105 (by decide) (fun h105 => ?_) (fun h105 => ?_)
          · skip
            have e9 := zNum_2 hz h105
            refine z_iconst X d_Rdr_readNumber_112 (v := 0) (by decide) ?_
            exact z_zret X d_Rdr_readNumber_113 rfl ⟨by rw [e9]; rfl, rfl, by rw [zNum_q hz]; exact hP, hF⟩
          · skip
            have e9 := zNum_3 hz h95 h105
            refine z_iconst X d_Rdr_readNumber_108 (v := 1) (by decide) ?_
            refine z_goto X 113 d_Rdr_readNumber_109 (by decide) ?_
            exact z_zret X d_Rdr_readNumber_113 rfl ⟨by rw [e9]; rfl, rfl, by rw [zNum_q hz]; exact hP, hF⟩
      · skip
        have hi2 : i < 200 := by
          rcases Nat.lt_or_ge i 200 with z | z
          · exact z
          · exact absurd (nI_le (a := 200) (b := i) z (by omega)) h16
        refine z_aload_n X d_Rdr_readNumber_19 rfl ?_
        refine z_get X d_Rdr_readNumber_20 (hP.lo 0 rfl) (hP.at 0 rfl) cl_Rdr in_Rdr 0 (by decide) fl_Rdr_12 rfl rfl ?_
        refine z_aload_n X d_Rdr_readNumber_23 rfl ?_
        refine z_get X d_Rdr_readNumber_24 (hP.lo 0 rfl) (hP.at 0 rfl) cl_Rdr in_Rdr 10 (by decide) fl_Rdr_42 rfl rfl ?_
        refine z_callV X zG_ok (c_Sgn_get (hP.sub [1, 2] (by decide) rfl) hlen) d_Rdr_readNumber_27 ⟨(z_cb (n := 1) X.2.2.2.2.1 ml_Rdr_132 mc_Sgn_get ini_Sgn (by decide +kernel) rfl rfl ⟨Nat.le_of_ble_eq_true rfl, Nat.le_of_ble_eq_true rfl⟩), X.2.2.2.2.1 _ im_Sgn_get, X.2.2.2.2.1 _ sel_Sgn_get⟩ (hP.lo 1 rfl) (hP.at 1 rfl) cl_Sgn rfl rfl (Nat.le_of_ble_eq_true rfl) ⟨Nat.le_of_ble_eq_true rfl, Nat.le_of_ble_eq_true rfl⟩ (fun r N1 f1 hp hN1 => ?_)
        obtain ⟨rfl, rfl, rfl⟩ := hp
        refine z_callS X zG_ok c_Rdr_isDigit d_Rdr_readNumber_30 ⟨(z_cb (n := 1) X.2.2.2.2.1 ml_Rdr_135 mc_Rdr_isDigit ini_Rdr (by decide +kernel) rfl rfl ⟨Nat.le_of_ble_eq_true rfl, Nat.le_of_ble_eq_true rfl⟩), X.2.2.2.2.1 _ st_Rdr_isDigit⟩ rfl rfl (Nat.le_of_ble_eq_true rfl) ⟨Nat.le_of_ble_eq_true rfl, Nat.le_of_ble_eq_true rfl⟩ (fun r N1 f1 hp hN1 => ?_)
        obtain ⟨rfl, rfl, rfl⟩ := hp
        refine z_if_eq X 90 d_Rdr_readNumber_33 (by decide) (fun h33 => ?_) (fun h33 => ?_)
        · skip
          have hd : ¬ zdig (sgv g len p) = true := zb_f h33
          have hz : znum most g len 200 0 (st.1 10) 0 = (p, tv) := by rw [hz0, show 200 - i = (200 - (i + 1)) + 1 by omega, znum, if_neg hd]
          refine z_aload_n X d_Rdr_readNumber_90 rfl ?_
          refine z_get X d_Rdr_readNumber_91 (hP.lo 0 rfl) (hP.at 0 rfl) cl_Rdr in_Rdr 10 (by decide) fl_Rdr_42 rfl rfl ?_
          refine z_iload_n X d_Rdr_readNumber_94 rfl ?_
          refine z_icmp_le X 112 d_Rdr_readNumber_95 (by decide) (fun h95 => ?_) (fun h95 => ?_)
          · skip
            have e9 := zNum_1 hz h95
            refine z_iconst X d_Rdr_readNumber_112 (v := 0) (by decide) ?_
            exact z_zret X d_Rdr_readNumber_113 rfl ⟨by rw [e9]; rfl, rfl, by rw [zNum_q hz]; exact hP, hF⟩
          · skip
            refine z_aload_n X d_Rdr_readNumber_98 rfl ?_
            refine z_get X d_Rdr_readNumber_99 (hP.lo 0 rfl) (hP.at 0 rfl) cl_Rdr in_Rdr 10 (by decide) fl_Rdr_42 rfl rfl ?_
            refine z_iload_n X d_Rdr_readNumber_102 rfl ?_
            refine z_isub X d_Rdr_readNumber_103 ?_
            refine z_iload_n X d_Rdr_readNumber_104 rfl ?_
            refine z_icmp_gt X 112 d_Rdr_readNumber_105 (by decide) (fun h105 => ?_) (fun h105 => ?_)
            · skip
              have e9 := zNum_2 hz h105
              refine z_iconst X d_Rdr_readNumber_112 (v := 0) (by decide) ?_
              exact z_zret X d_Rdr_readNumber_113 rfl ⟨by rw [e9]; rfl, rfl, by rw [zNum_q hz]; exact hP, hF⟩
            · skip
              have e9 := zNum_3 hz h95 h105
              refine z_iconst X d_Rdr_readNumber_108 (v := 1) (by decide) ?_
              refine z_goto X 113 d_Rdr_readNumber_109 (by decide) ?_
              exact z_zret X d_Rdr_readNumber_113 rfl ⟨by rw [e9]; rfl, rfl, by rw [zNum_q hz]; exact hP, hF⟩
        · skip
          have hd : zdig (sgv g len p) = true := zb_t h33
          refine z_aload_n X d_Rdr_readNumber_36 rfl ?_
          refine z_iload_n X d_Rdr_readNumber_37 rfl ?_
          refine z_iload_n X d_Rdr_readNumber_38 rfl ?_
          refine z_icmp_ge X 67 d_Rdr_readNumber_39 (by decide) (fun h39 => ?_) (fun h39 => ?_)
          · skip
            have etv : (if most ≤ nI i then tv else tv * 10 + sgv g len p - 48) = tv := if_pos h39
            refine z_aload_n X d_Rdr_readNumber_67 rfl ?_
            refine z_get X d_Rdr_readNumber_68 (hP.lo 0 rfl) (hP.at 0 rfl) cl_Rdr in_Rdr 13 (by decide) fl_Rdr_105 rfl rfl ?_
            refine z_putP X t_Rdr ty_Rdr n_Rdr d_Rdr_readNumber_71 hP 0 rfl cl_Rdr in_Rdr 13 (by decide) fl_Rdr_105 rfl rfl rfl rfl rfl (Nat.le_of_ble_eq_true rfl) (fun hP => ?_)
            have hF := hF.by (by simp) hP
            refine z_aload_n X d_Rdr_readNumber_74 rfl ?_
            refine z_dup X d_Rdr_readNumber_75 rfl ?_
            refine z_get X d_Rdr_readNumber_76 (hP.lo 0 rfl) (hP.at 0 rfl) cl_Rdr in_Rdr 10 (by decide) fl_Rdr_42 rfl rfl ?_
            refine z_iconst X d_Rdr_readNumber_79 (v := 1) (by decide) ?_
            refine z_iadd X d_Rdr_readNumber_80 ?_
            refine z_putP X t_Rdr ty_Rdr n_Rdr d_Rdr_readNumber_81 hP 0 rfl cl_Rdr in_Rdr 10 (by decide) fl_Rdr_42 rfl rfl rfl rfl rfl (Nat.le_of_ble_eq_true rfl) (fun hP => ?_)
            have hF := hF.by (by simp) hP
            refine z_iinc X d_Rdr_readNumber_84 rfl (nI_1 _) (by decide) rfl ?_
            refine z_goto X 12 d_Rdr_readNumber_87 (by decide) ?_
            refine ih (i + 1) (p + 1) (if most ≤ nI i then tv else tv * 10 + sgv g len p - 48) _ (by omega) ?_ (by rw [etv]; exact hP) hF
            rw [hz0, show 200 - i = (200 - (i + 1)) + 1 by omega, znum, if_pos hd]
          · skip
            have etv : (if most ≤ nI i then tv else tv * 10 + sgv g len p - 48) = tv * 10 + sgv g len p - 48 := if_neg h39
            refine z_aload_n X d_Rdr_readNumber_42 rfl ?_
            refine z_get X d_Rdr_readNumber_43 (hP.lo 0 rfl) (hP.at 0 rfl) cl_Rdr in_Rdr 13 (by decide) fl_Rdr_105 rfl rfl ?_
            refine z_bipush X d_Rdr_readNumber_46 (v := 10) (by decide) ?_
            refine z_imul X d_Rdr_readNumber_48 ?_
            refine z_aload_n X d_Rdr_readNumber_49 rfl ?_
            refine z_get X d_Rdr_readNumber_50 (hP.lo 0 rfl) (hP.at 0 rfl) cl_Rdr in_Rdr 0 (by decide) fl_Rdr_12 rfl rfl ?_
            refine z_aload_n X d_Rdr_readNumber_53 rfl ?_
            refine z_get X d_Rdr_readNumber_54 (hP.lo 0 rfl) (hP.at 0 rfl) cl_Rdr in_Rdr 10 (by decide) fl_Rdr_42 rfl rfl ?_
            refine z_callV X zG_ok (c_Sgn_get (hP.sub [1, 2] (by decide) rfl) hlen) d_Rdr_readNumber_57 ⟨(z_cb (n := 1) X.2.2.2.2.1 ml_Rdr_132 mc_Sgn_get ini_Sgn (by decide +kernel) rfl rfl ⟨Nat.le_of_ble_eq_true rfl, Nat.le_of_ble_eq_true rfl⟩), X.2.2.2.2.1 _ im_Sgn_get, X.2.2.2.2.1 _ sel_Sgn_get⟩ (hP.lo 1 rfl) (hP.at 1 rfl) cl_Sgn rfl rfl (Nat.le_of_ble_eq_true rfl) ⟨Nat.le_of_ble_eq_true rfl, Nat.le_of_ble_eq_true rfl⟩ (fun r N1 f1 hp hN1 => ?_)
            obtain ⟨rfl, rfl, rfl⟩ := hp
            refine z_iadd X d_Rdr_readNumber_60 ?_
            refine z_bipush X d_Rdr_readNumber_61 (v := 48) (by decide) ?_
            refine z_isub X d_Rdr_readNumber_63 ?_
            refine z_goto X 71 d_Rdr_readNumber_64 (by decide) ?_
            refine z_putP X t_Rdr ty_Rdr n_Rdr d_Rdr_readNumber_71 hP 0 rfl cl_Rdr in_Rdr 13 (by decide) fl_Rdr_105 rfl rfl rfl rfl rfl (Nat.le_of_ble_eq_true rfl) (fun hP => ?_)
            have hF := hF.by (by simp) hP
            refine z_aload_n X d_Rdr_readNumber_74 rfl ?_
            refine z_dup X d_Rdr_readNumber_75 rfl ?_
            refine z_get X d_Rdr_readNumber_76 (hP.lo 0 rfl) (hP.at 0 rfl) cl_Rdr in_Rdr 10 (by decide) fl_Rdr_42 rfl rfl ?_
            refine z_iconst X d_Rdr_readNumber_79 (v := 1) (by decide) ?_
            refine z_iadd X d_Rdr_readNumber_80 ?_
            refine z_putP X t_Rdr ty_Rdr n_Rdr d_Rdr_readNumber_81 hP 0 rfl cl_Rdr in_Rdr 10 (by decide) fl_Rdr_42 rfl rfl rfl rfl rfl (Nat.le_of_ble_eq_true rfl) (fun hP => ?_)
            have hF := hF.by (by simp) hP
            refine z_iinc X d_Rdr_readNumber_84 rfl (nI_1 _) (by decide) rfl ?_
            refine z_goto X 12 d_Rdr_readNumber_87 (by decide) ?_
            refine ih (i + 1) (p + 1) (if most ≤ nI i then tv else tv * 10 + sgv g len p - 48) _ (by omega) ?_ (by rw [etv]; exact hP) hF
            rw [hz0, show 200 - i = (200 - (i + 1)) + 1 by omega, znum, if_pos hd]
  refine z_aload_n X d_Rdr_readNumber_0 rfl ?_
  refine z_get X d_Rdr_readNumber_1 (hP.lo 0 rfl) (hP.at 0 rfl) cl_Rdr in_Rdr 10 (by decide) fl_Rdr_42 rfl rfl ?_
  refine z_istore_n X d_Rdr_readNumber_4 (by decide) rfl ?_
  refine z_aload_n X d_Rdr_readNumber_5 rfl ?_
  refine z_iconst X d_Rdr_readNumber_6 (v := 0) (by decide) ?_
  refine z_putP X t_Rdr ty_Rdr n_Rdr d_Rdr_readNumber_7 hP 0 rfl cl_Rdr in_Rdr 13 (by decide) fl_Rdr_105 rfl rfl rfl rfl rfl (Nat.le_of_ble_eq_true rfl) (fun hP => ?_)
  have hF := hF.by (by simp) hP
  refine z_iconst X d_Rdr_readNumber_10 (v := 0) (by decide) ?_
  refine z_istore_n X d_Rdr_readNumber_11 (by decide) rfl ?_
  exact L12 201 0 (st.1 10) 0 _ (by omega) rfl hP hF
end
