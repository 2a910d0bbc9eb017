theorem zM.mono {l : Launch} {D : va_G} {cl : List vw_C} {tys : List (ClassId × FieldType)} {b0 : Nat} {G : State → Prop} {y : MethodName} {ws : List Cond} {rm : Room} {mc ms : Nat} {As : List Value} {N : Nat} {f : Nat → va_E} {P P' : Option Value → Nat → (Nat → va_E) → Prop} (h : zM l D cl tys b0 G y ws rm mc ms As N f P) (hm : ∀ r N' f', P r N' f' → P' r N' f') : zM l D cl tys b0 G y ws rm mc ms As N f P' := by
  intro p e hl h1 h2 s m args below hfr hap hP hK
  obtain ⟨n, o, a, b, c, ⟨r, N', f', q1, q2, q3, q4, q5⟩, hL⟩ := h p e hl h1 h2 s m args below hfr hap hP hK
  exact ⟨n, o, a, b, c, ⟨r, N', f', q1, q2, q3, q4, hm _ _ _ q5⟩, hL⟩
/-- the tree's rows behind append, insert, setLastValue -/
def tApp (kd x : Int32) (ts : TSt) : Bool × TSt := if ts.2.2.2 < 40 then (true, (upd ts.1 ts.2.2.2 kd, upd ts.2.1 ts.2.2.2 x, upd ts.2.2.1 ts.2.2.2 (-1), ts.2.2.2 + 1)) else (false, ts)
def tIns (pl kd : Int32) (ts : TSt) : Bool × TSt := if pl < 0 ∨ nI ts.2.2.2 < pl then (false, ts) else if ts.2.2.2 < 40 then (true, (insK ts.1 ts.2.2.2 pl.toNatClampNeg kd, insK ts.2.1 ts.2.2.2 pl.toNatClampNeg (-1), insR ts.2.2.1 ts.2.2.2 pl.toNatClampNeg, ts.2.2.2 + 1)) else (false, ts)
def tSet (x : Int32) (ts : TSt) : TSt := (ts.1, (if 0 < ts.2.2.2 then upd ts.2.1 (ts.2.2.2 - 1) x else ts.2.1), ts.2.2.1, ts.2.2.2)
theorem tApp_u {kd x : Int32} {ts : TSt} (h : ts.2.2.2 ≤ 40) : (tApp kd x ts).2.2.2.2 ≤ 40 := by
  rw [tApp]; by_cases q : ts.2.2.2 < 40
  · rw [if_pos q]; show ts.2.2.2 + 1 ≤ 40; omega
  · rw [if_neg q]; exact h
theorem tIns_u {pl kd : Int32} {ts : TSt} (h : ts.2.2.2 ≤ 40) : (tIns pl kd ts).2.2.2.2 ≤ 40 := by
  rw [tIns]; by_cases z : pl < 0 ∨ nI ts.2.2.2 < pl
  · rw [if_pos z]; exact h
  · rw [if_neg z]; by_cases q : ts.2.2.2 < 40
    · rw [if_pos q]; show ts.2.2.2 + 1 ≤ 40; omega
    · rw [if_neg q]; exact h
abbrev wT (ck : Nat → ClassId) (tr ka va ra : Nat) (ts : TSt) : va_W := wTre ck tr ka va ra 40 ts.1 ts.2.1 ts.2.2.1 ts.2.2.2
def bGo (st : RSt) : Bool × RSt := if st.1 6 < 10 then (true, (upd st.1 6 (st.1 6 + 1), st.2)) else (false, st)
def bBeg (nx : Int32) (st : RSt) : Bool × RSt := ((rBeg nx st).1 == 1, (rBeg nx st).2)
def bEnd (st : RSt) : Bool × RSt := ((rEnd st).1 == 1, (rEnd st).2)
theorem rGo_b (st : RSt) : (rGo st).1 = zb (bGo st).1 ∧ (rGo st).2 = (bGo st).2 := by
  rw [rGo, bGo]; by_cases h : st.1 6 < 10
  · rw [if_pos h, if_pos h]; exact ⟨rfl, rfl⟩
  · rw [if_neg h, if_neg h]; exact ⟨rfl, rfl⟩
theorem rBeg_b (nx : Int32) (st : RSt) : (rBeg nx st).1 = zb (bBeg nx st).1 := by
  rw [bBeg, rBeg]; by_cases h : nx < 0
  · rw [if_pos h]; rfl
  · rw [if_neg h]; by_cases h2 : nx < 11
    · rw [if_pos h2]; rfl
    · rw [if_neg h2]; rfl
theorem rEnd_b (st : RSt) : (rEnd st).1 = zb (bEnd st).1 := by
  rw [bEnd, rEnd]; by_cases h : st.1 5 < 1
  · rw [if_pos h]; rfl
  · rw [if_neg h]; by_cases h2 : st.1 5 < 11
    · rw [if_pos h2]; rfl
    · rw [if_neg h2]; rfl
theorem bGo_t (st : RSt) : (bGo st).2.2 = st.2 := by
  rw [bGo]; by_cases h : st.1 6 < 10
  · rw [if_pos h]
  · rw [if_neg h]
theorem bBeg_t (nx : Int32) (st : RSt) : (bBeg nx st).2.2.1 = st.2.1 := by
  rw [bBeg, rBeg]; by_cases h : nx < 0
  · rw [if_pos h]
  · rw [if_neg h]; by_cases h2 : nx < 11
    · rw [if_pos h2]
    · rw [if_neg h2]
theorem bEnd_t (st : RSt) : (bEnd st).2.2 = st.2 := by
  rw [bEnd, rEnd]; by_cases h : st.1 5 < 1
  · rw [if_pos h]
  · rw [if_neg h]; by_cases h2 : st.1 5 < 11
    · rw [if_pos h2]
    · rw [if_neg h2]
/-- the reader with another tree; its field k set -/
def bTr (r : Bool × TSt) (st : RSt) : Bool × RSt := (r.1, (st.1, r.2, st.2.2))
def qs (k : Nat) (v : Int32) (st : RSt) : RSt := (upd st.1 k v, st.2)
/-- Reader.takeTerm, takeFieldOfSum, compare, takeBehindPart, takeBehindTerm, takePart, takeToken -/
def bTerm (st : RSt) : Bool × RSt := if st.1 11 = 2 then bTr (tApp 11 (st.1 13) st.2.1) (qs 9 4 st) else if st.1 11 = 3 then bTr (tApp 12 (st.1 13) st.2.1) (qs 9 4 st) else if st.1 11 = 6 then bTr (tApp 13 (-1) st.2.1) (qs 9 3 st) else if st.1 11 = 7 then bTr (tApp 14 (-1) st.2.1) (qs 9 3 st) else (false, st)
def bFos (st : RSt) : Bool × RSt := if st.1 11 = 3 then (true, (upd st.1 9 4, tSet (st.1 13) st.2.1, st.2.2)) else (false, st)
def bCmp (st : RSt) : Bool × RSt := if (tIns (st.1 7) (rKind st) st.2.1).1 = true then (true, (upd (upd (upd st.1 8 1) 7 (nI (tIns (st.1 7) (rKind st) st.2.1).2.2.2.2)) 9 2, (tIns (st.1 7) (rKind st) st.2.1).2, st.2.2)) else (false, (st.1, (tIns (st.1 7) (rKind st) st.2.1).2, st.2.2))
def bBP1 (st : RSt) : Bool × RSt :=
  if st.1 11 = 38 then bTr (tIns (st.2.2.2.1 (st.1 5).toNatClampNeg) 1 st.2.1) (qs 9 0 st)
  else if st.1 11 = 41 then bEnd st
  else if st.1 11 = 124 then ((tIns (st.2.2.1 (st.1 5).toNatClampNeg) 0 st.2.1).1, (upd st.1 9 0, (tIns (st.2.2.1 (st.1 5).toNatClampNeg) 0 st.2.1).2, st.2.2.1, upd st.2.2.2.1 (st.1 5).toNatClampNeg (nI (tIns (st.2.2.1 (st.1 5).toNatClampNeg) 0 st.2.1).2.2.2.2), st.2.2.2.2))
  else (decide (st.1 11 = 0) && decide (st.1 5 = 0), st)
def bBP (st : RSt) : Bool × RSt := if st.1 5 < 0 then (false, st) else if st.1 5 < 11 then bBP1 (qs 6 (st.2.2.2.2 (st.1 5).toNatClampNeg) st) else (false, st)
def bBT (st : RSt) : Bool × RSt :=
  if st.1 11 = 43 ∨ st.1 11 = 45 then bTr (tIns (st.1 7) (rKind st) st.2.1) (qs 9 2 st)
  else if st.1 11 = 35 ∨ st.1 11 = 60 ∨ st.1 11 = 61 ∨ st.1 11 = 62 then (if st.1 8 = 0 then bCmp st else (false, st))
  else if st.1 8 = 0 then (false, st) else bBP st
def bAnd (r : Bool × RSt) (k : RSt → Bool × RSt) : Bool × RSt := if r.1 = true then k r.2 else (false, r.2)
def bPart (st : RSt) : Bool × RSt :=
  if st.1 11 = 33 then bAnd (bGo st) (fun s => bTr (tApp 2 (-1) s.2.1) s)
  else if st.1 11 = 40 then bAnd (bGo st) (fun s => bBeg (s.1 5 + 1) s)
  else if st.1 11 = 4 then bAnd (bGo (qs 9 1 st)) (fun s => bTr (tApp 3 (-1) s.2.1) s)
  else if st.1 11 = 5 then bAnd (bGo (qs 9 1 st)) (fun s => bTr (tApp 4 (-1) s.2.1) s)
  else bTerm (qs 7 (nI st.2.1.2.2.2) (qs 8 0 st))
def bTake (st : RSt) : Bool × RSt :=
  if st.1 9 = 0 then bPart st
  else if st.1 9 = 1 then (if st.1 11 = 40 then bBeg (st.1 5 + 1) st else (false, st))
  else if st.1 9 = 2 then bTerm st
  else if st.1 9 = 3 then bFos st
  else if st.1 9 = 4 then bBT st
  else bBP st
abbrev uok (st : RSt) : Prop := st.2.1.2.2.2 ≤ 40
theorem bTr_u {r : Bool × TSt} {st : RSt} (h : r.2.2.2.2 ≤ 40) : uok (bTr r st).2 := h
theorem bTerm_u {st : RSt} (h : uok st) : uok (bTerm st).2 := by
  rw [bTerm]
  repeat' split
  all_goals first | exact tApp_u h | exact h
theorem bFos_u {st : RSt} (h : uok st) : uok (bFos st).2 := by
  rw [bFos]
  repeat' split
  all_goals exact h
theorem bCmp_u {st : RSt} (h : uok st) : uok (bCmp st).2 := by
  rw [bCmp]
  repeat' split
  all_goals exact tIns_u h
theorem bBP_u {st : RSt} (h : uok st) : uok (bBP st).2 := by
  rw [bBP]
  repeat' split
  all_goals try exact h
  rw [bBP1]
  repeat' split
  all_goals first | exact tIns_u h | (rw [uok, bEnd_t]; exact h) | exact h
theorem bBT_u {st : RSt} (h : uok st) : uok (bBT st).2 := by
  rw [bBT]
  repeat' split
  all_goals first | exact tIns_u h | exact bCmp_u h | exact h | exact bBP_u h
theorem bAnd_u {r : Bool × RSt} {k : RSt → Bool × RSt} (h : uok r.2) (hk : uok r.2 → uok (k r.2).2) : uok (bAnd r k).2 := by
  rw [bAnd]; split
  · exact hk h
  · exact h
theorem bGo_u {st : RSt} (h : uok st) : uok (bGo st).2 := by rw [uok, bGo_t]; exact h
theorem bBeg_u {nx : Int32} {st : RSt} (h : uok st) : uok (bBeg nx st).2 := by rw [uok, bBeg_t]; exact h
theorem bPart_u {st : RSt} (h : uok st) : uok (bPart st).2 := by
  rw [bPart]
  repeat' split
  · exact bAnd_u (bGo_u h) (fun q => tApp_u q)
  · exact bAnd_u (bGo_u h) (fun q => bBeg_u q)
  · exact bAnd_u (bGo_u (st := qs 9 1 st) h) (fun q => tApp_u q)
  · exact bAnd_u (bGo_u (st := qs 9 1 st) h) (fun q => tApp_u q)
  · exact bTerm_u (st := qs 7 (nI st.2.1.2.2.2) (qs 8 0 st)) h
theorem bTake_u {st : RSt} (h : uok st) : uok (bTake st).2 := by
  rw [bTake]
  repeat' split
  all_goals first | exact bPart_u h | exact bBeg_u h | exact bTerm_u h | exact bFos_u h | exact bBT_u h | exact bBP_u h | exact h
/-- Reader.readText behind its start: n rounds; -1 if the text is a rule -/
def bRun (g : Nat → Int32) (len : Nat) : Nat → RSt → Int32 × RSt
  | 0, st => (st.1 12, st)
  | n + 1, st => if (bTake (zTok g len st.1, st.2)).1 = true then (if (bTake (zTok g len st.1, st.2)).2.1 11 = 0 then (-1, (bTake (zTok g len st.1, st.2)).2) else bRun g len n (bTake (zTok g len st.1, st.2)).2) else ((bTake (zTok g len st.1, st.2)).2.1 12, (bTake (zTok g len st.1, st.2)).2)
theorem bRun_u {g : Nat → Int32} {len : Nat} : ∀ (n : Nat) {st : RSt}, uok st → uok (bRun g len n st).2
  | 0, _, h => h
  | n + 1, st, h => by
    have hu := bTake_u (st := (zTok g len st.1, st.2)) h
    rw [bRun]
    generalize bTake (zTok g len st.1, st.2) = r at hu ⊢
    by_cases h1 : r.1 = true
    · rw [if_pos h1]
      by_cases h2 : r.2.1 11 = 0
      · rw [if_pos h2]; exact hu
      · rw [if_neg h2]; exact bRun_u n hu
    · rw [if_neg h1]; exact hu
def bText (g : Nat → Int32) (len : Nat) (st : RSt) : Int32 × RSt := bRun g len 201 (bBeg 0 (upd (upd st.1 10 0) 6 0, (st.2.1.1, st.2.1.2.1, st.2.1.2.2.1, 0), st.2.2)).2
section
variable {l : Launch} {D : va_G} {ck : Nat → ClassId} {ad : (Nat → Nat) × (Nat → Nat)} {b0 N : Nat} {f : Nat → va_E}
variable {A : Nat → Nat} {g : Nat → Int32} {len : Nat} {st : RSt}
set_option maxHeartbeats 4000000 in
set_option maxRecDepth 100000 in
theorem c_Tre_insertO {tr ka va ra u : Nat} {K V R : Nat → Int32} (hP : zP b0 N f (wTre ck tr ka va ra 40 K V R u)) (hu : u ≤ 40) {pl kd : Int32} (ho : pl < 0 ∨ nI u < pl) : zK l D ck ad b0 y_Tre_insert prog_7_method_7_code 4 ((some FieldType.boolean)) 1 0 0 [.ref tr, .int pl, .int kd] N f (fun r N' f' => r = some (.int 0) ∧ N = N' ∧ f = f') := by
  refine zM.of zG_w (by decide) (Nat.le_of_ble_eq_true rfl) ?_
  intro zp ze zst zm zar zbe zme zc X hnm hb0
  refine z_iload_n X d_Tre_insert_0 rfl ?_
  refine z_if_lt X 21 d_Tre_insert_1 (by decide) (fun h1 => ?_) (fun h1 => ?_)
  · skip
    refine z_iconst X d_Tre_insert_21 (v := 0) (by decide) ?_
    exact z_zret X d_Tre_insert_22 rfl ⟨rfl, rfl, rfl⟩
  · skip
    refine z_iload_n X d_Tre_insert_4 rfl ?_
    refine z_aload_n X d_Tre_insert_5 rfl ?_
    refine z_get X d_Tre_insert_6 (hP.lo 0 rfl) (hP.at 0 rfl) cl_Tre in_Tre 3 (by decide) fl_Tre_21 rfl rfl ?_
    refine z_icmp_gt X 21 d_Tre_insert_9 (by decide) (fun h9 => ?_) (fun h9 => ?_)
    · skip
      refine z_iconst X d_Tre_insert_21 (v := 0) (by decide) ?_
      exact z_zret X d_Tre_insert_22 rfl ⟨rfl, rfl, rfl⟩
    · skip
      exact (ho.elim h1 h9).elim
set_option maxHeartbeats 4000000 in
set_option maxRecDepth 100000 in
theorem c_Tre_setLast0 {tr ka va ra : Nat} {K V R : Nat → Int32} (hP : zP b0 N f (wTre ck tr ka va ra 40 K V R 0)) {x : Int32} : zK l D ck ad b0 y_Tre_setLastValue prog_7_method_8_code 2 (none) 0 0 0 [.ref tr, .int x] N f (fun r N' f' => r = none ∧ N = N' ∧ f = f') := by
  refine zM.of zG_w (by decide) (Nat.le_of_ble_eq_true rfl) ?_
  intro zp ze zst zm zar zbe zme zc X hnm hb0
  refine z_aload_n X d_Tre_setLastValue_0 rfl ?_
  refine z_get X d_Tre_setLastValue_1 (hP.lo 0 rfl) (hP.at 0 rfl) cl_Tre in_Tre 3 (by decide) fl_Tre_21 rfl rfl ?_
  refine z_if_le X 31 d_Tre_setLastValue_4 (by decide) (fun h4 => ?_) (fun h4 => ?_)
  · skip
    exact z_vret X d_Tre_setLastValue_31 ⟨rfl, rfl, rfl⟩
  · skip
    exact absurd (by decide) h4
set_option maxHeartbeats 4000000 in
set_option maxRecDepth 100000 in
theorem c_Tre_appendT {tr ka va ra : Nat} {ts : TSt} (hP : zP b0 N f (wT ck tr ka va ra ts)) (hu : ts.2.2.2 ≤ 40) {kd x : Int32} : zK l D ck ad b0 y_Tre_append prog_7_method_6_code 3 ((some FieldType.boolean)) 0 0 0 [.ref tr, .int kd, .int x] N f (fun r N' f' => r = some (.int (zb (tApp kd x ts).1)) ∧ N = N' ∧ zP b0 N f' (wT ck tr ka va ra ((tApp kd x ts).2)) ∧ zF N f f' [tr, ka, va, ra]) := by
  refine (c_Tre_append hP hu (by omega)).mono ?_
  rintro r N1 f1 ⟨rfl, rfl, h1, h2⟩
  rw [tApp]
  by_cases q : ts.2.2.2 < 40
  · rw [if_pos q, if_pos q]; exact ⟨rfl, rfl, h1 q⟩
  · rw [if_neg q, if_neg q, ← h2 q]; exact ⟨rfl, rfl, hP, zF.rf⟩
set_option maxHeartbeats 4000000 in
set_option maxRecDepth 100000 in
theorem c_Tre_insertT {tr ka va ra : Nat} {ts : TSt} (hP : zP b0 N f (wT ck tr ka va ra ts)) (hu : ts.2.2.2 ≤ 40) {pl kd : Int32} : zK l D ck ad b0 y_Tre_insert prog_7_method_7_code 4 ((some FieldType.boolean)) 1 0 0 [.ref tr, .int pl, .int kd] N f (fun r N' f' => r = some (.int (zb (tIns pl kd ts).1)) ∧ N = N' ∧ zP b0 N f' (wT ck tr ka va ra ((tIns pl kd ts).2)) ∧ zF N f f' [tr, ka, va, ra]) := by
  by_cases z : pl < 0 ∨ nI ts.2.2.2 < pl
  · refine (c_Tre_insertO hP hu z).mono ?_
    rintro r N1 f1 ⟨rfl, rfl, rfl⟩
    rw [tIns, if_pos z]
    exact ⟨rfl, rfl, hP, zF.rf⟩
  · have z1 : ¬ pl < 0 := fun q => z (Or.inl q)
    have z2 : ¬ nI ts.2.2.2 < pl := fun q => z (Or.inr q)
    obtain ⟨q9, hq9, rfl⟩ := nI_of z1
    have e2 : q9 ≤ ts.2.2.2 := (nI_leI (by omega) (by omega)).mp (Int32.not_lt.mp z2)
    refine (c_Tre_insert hP hu (by omega) e2).mono ?_
    rintro r N1 f1 ⟨rfl, rfl, h1, h2⟩
    rw [tIns, if_neg z, nI_clamp hq9]
    by_cases q : ts.2.2.2 < 40
    · rw [if_pos q, if_pos q]; exact ⟨rfl, rfl, h1 q⟩
    · rw [if_neg q, if_neg q, ← h2 q]; exact ⟨rfl, rfl, hP, zF.rf⟩
set_option maxHeartbeats 4000000 in
set_option maxRecDepth 100000 in
theorem c_Tre_setLastT {tr ka va ra : Nat} {ts : TSt} (hP : zP b0 N f (wT ck tr ka va ra ts)) (hu : ts.2.2.2 ≤ 40) {x : Int32} : zK l D ck ad b0 y_Tre_setLastValue prog_7_method_8_code 2 (none) 0 0 0 [.ref tr, .int x] N f (fun r N' f' => r = none ∧ N = N' ∧ zP b0 N f' (wT ck tr ka va ra (tSet x ts)) ∧ zF N f f' [tr, ka, va, ra]) := by
  obtain ⟨K, V, R, u⟩ := ts
  cases u with
  | zero =>
    refine (c_Tre_setLast0 hP).mono ?_
    rintro r N1 f1 ⟨rfl, rfl, rfl⟩
    exact ⟨rfl, rfl, hP, zF.rf⟩
  | succ u =>
    refine (c_Tre_setLastValue hP hu (by omega) (Nat.succ_pos _)).mono ?_
    rintro r N1 f1 ⟨rfl, rfl, rfl⟩
    exact ⟨rfl, rfl, hP.put 2 rfl _, zF.rf.put (by simp) _⟩
theorem zP.tre (hP : zP b0 N f (wRdr ck A g len st)) {f' : Nat → va_E} {ts : TSt} (h1 : zP b0 N f' (wT ck (A 6) (A 7) (A 8) (A 9) ts)) (hF : zF N f f' [A 6, A 7, A 8, A 9]) : zP b0 N f' (wRdr ck A g len (st.1, ts, st.2.2)) :=
  (hP.jn [6, 7, 8, 9] [0, 1, 2, 3, 4, 5] rfl (by decide) (by simp) (by decide) hF (Nat.le_refl _) h1 (fun _ h => Or.inl h)).eq rfl
theorem zF.tre {f0 f f' : Nat → va_E} (h : zF N f0 f (AA A)) (hF : zF N f f' [A 6, A 7, A 8, A 9]) : zF N f0 f' (AA A) := h.join hF (Nat.le_refl _) (fun b hb => Or.inl (List.mem_of_mem_drop (i := 6) (l := AA A) hb))
set_option maxHeartbeats 4000000 in
set_option maxRecDepth 100000 in
theorem c_Rdr_goDeeperB (hP : zP b0 N f (wRdr ck A g len st)) : zK l D ck ad b0 y_Rdr_goDeeper prog_4_method_12_code 1 ((some FieldType.boolean)) 0 0 0 [.ref (A 0)] N f (fun r N' f' => r = some (.int (zb (bGo st).1)) ∧ N = N' ∧ zP b0 N f' (wRdr ck A g len ((bGo st).2)) ∧ zF N f f' (AA A)) := by
  refine (c_Rdr_goDeeper hP).mono ?_
  rintro r N1 f1 ⟨rfl, rfl, h1, h2⟩
  exact ⟨by rw [(rGo_b st).1], rfl, by rw [← (rGo_b st).2]; exact h1, h2⟩
set_option maxHeartbeats 4000000 in
set_option maxRecDepth 100000 in
theorem c_Rdr_endLevelB (hP : zP b0 N f (wRdr ck A g len st)) : zK l D ck ad b0 y_Rdr_endLevel prog_4_method_14_code 1 ((some FieldType.boolean)) 0 0 0 [.ref (A 0)] N f (fun r N' f' => r = some (.int (zb (bEnd st).1)) ∧ N = N' ∧ zP b0 N f' (wRdr ck A g len ((bEnd st).2)) ∧ zF N f f' (AA A)) := by
  refine (c_Rdr_endLevel hP).mono ?_
  rintro r N1 f1 ⟨rfl, rfl, h1, h2⟩
  exact ⟨by rw [rEnd_b], rfl, h1, h2⟩
set_option maxHeartbeats 4000000 in
set_option maxRecDepth 100000 in
theorem c_Rdr_beginLevelB (hP : zP b0 N f (wRdr ck A g len st)) {nx : Int32} : zK l D ck ad b0 y_Rdr_beginLevel prog_4_method_13_code 2 ((some FieldType.boolean)) 1 0 0 [.ref (A 0), .int nx] N f (fun r N' f' => r = some (.int (zb (bBeg nx st).1)) ∧ N = N' ∧ zP b0 N f' (wRdr ck A g len ((bBeg nx st).2)) ∧ zF N f f' (AA A)) := by
  refine (c_Rdr_beginLevel hP).mono ?_
  rintro r N1 f1 ⟨rfl, rfl, h1, h2⟩
  exact ⟨by rw [rBeg_b], rfl, h1, h2⟩
theorem d_Rdr_takeTerm_0 : decode prog_4_method_6_code 0 = .ok (.aload_n 0, 1) := by decide +kernel
theorem d_Rdr_takeTerm_1 : decode prog_4_method_6_code 1 = .ok (.getfield 63, 3) := by decide +kernel
theorem d_Rdr_takeTerm_4 : decode prog_4_method_6_code 4 = .ok (.tableswitch 110 2 7 #[40, 59, 110, 110, 78, 94], 40) := by decide +kernel
theorem d_Rdr_takeTerm_44 : decode prog_4_method_6_code 44 = .ok (.aload_n 0, 1) := by decide +kernel
theorem d_Rdr_takeTerm_45 : decode prog_4_method_6_code 45 = .ok (.iconst 4, 1) := by decide +kernel
theorem d_Rdr_takeTerm_46 : decode prog_4_method_6_code 46 = .ok (.putfield 66, 3) := by decide +kernel
theorem d_Rdr_takeTerm_49 : decode prog_4_method_6_code 49 = .ok (.aload_n 0, 1) := by decide +kernel
theorem d_Rdr_takeTerm_50 : decode prog_4_method_6_code 50 = .ok (.getfield 21, 3) := by decide +kernel
theorem d_Rdr_takeTerm_53 : decode prog_4_method_6_code 53 = .ok (.bipush 11, 2) := by decide +kernel
theorem d_Rdr_takeTerm_55 : decode prog_4_method_6_code 55 = .ok (.aload_n 0, 1) := by decide +kernel
theorem d_Rdr_takeTerm_56 : decode prog_4_method_6_code 56 = .ok (.getfield 105, 3) := by decide +kernel
theorem d_Rdr_takeTerm_59 : decode prog_4_method_6_code 59 = .ok (.invokevirtual 90, 3) := by decide +kernel
theorem d_Rdr_takeTerm_62 : decode prog_4_method_6_code 62 = .ok (.ireturn, 1) := by decide +kernel
theorem d_Rdr_takeTerm_63 : decode prog_4_method_6_code 63 = .ok (.aload_n 0, 1) := by decide +kernel
theorem d_Rdr_takeTerm_64 : decode prog_4_method_6_code 64 = .ok (.iconst 4, 1) := by decide +kernel
theorem d_Rdr_takeTerm_65 : decode prog_4_method_6_code 65 = .ok (.putfield 66, 3) := by decide +kernel
theorem d_Rdr_takeTerm_68 : decode prog_4_method_6_code 68 = .ok (.aload_n 0, 1) := by decide +kernel
theorem d_Rdr_takeTerm_69 : decode prog_4_method_6_code 69 = .ok (.getfield 21, 3) := by decide +kernel
theorem d_Rdr_takeTerm_72 : decode prog_4_method_6_code 72 = .ok (.bipush 12, 2) := by decide +kernel
theorem d_Rdr_takeTerm_74 : decode prog_4_method_6_code 74 = .ok (.aload_n 0, 1) := by decide +kernel
theorem d_Rdr_takeTerm_75 : decode prog_4_method_6_code 75 = .ok (.getfield 105, 3) := by decide +kernel
theorem d_Rdr_takeTerm_78 : decode prog_4_method_6_code 78 = .ok (.invokevirtual 90, 3) := by decide +kernel
theorem d_Rdr_takeTerm_81 : decode prog_4_method_6_code 81 = .ok (.ireturn, 1) := by decide +kernel
theorem d_Rdr_takeTerm_82 : decode prog_4_method_6_code 82 = .ok (.aload_n 0, 1) := by decide +kernel
theorem d_Rdr_takeTerm_83 : decode prog_4_method_6_code 83 = .ok (.iconst 3, 1) := by decide +kernel
theorem d_Rdr_takeTerm_84 : decode prog_4_method_6_code 84 = .ok (.putfield 66, 3) := by decide +kernel
theorem d_Rdr_takeTerm_87 : decode prog_4_method_6_code 87 = .ok (.aload_n 0, 1) := by decide +kernel
theorem d_Rdr_takeTerm_88 : decode prog_4_method_6_code 88 = .ok (.getfield 21, 3) := by decide +kernel
theorem d_Rdr_takeTerm_91 : decode prog_4_method_6_code 91 = .ok (.bipush 13, 2) := by decide +kernel
theorem d_Rdr_takeTerm_93 : decode prog_4_method_6_code 93 = .ok (.iconst (-1), 1) := by decide +kernel
theorem d_Rdr_takeTerm_94 : decode prog_4_method_6_code 94 = .ok (.invokevirtual 90, 3) := by decide +kernel
theorem d_Rdr_takeTerm_97 : decode prog_4_method_6_code 97 = .ok (.ireturn, 1) := by decide +kernel
theorem d_Rdr_takeTerm_98 : decode prog_4_method_6_code 98 = .ok (.aload_n 0, 1) := by decide +kernel
theorem d_Rdr_takeTerm_99 : decode prog_4_method_6_code 99 = .ok (.iconst 3, 1) := by decide +kernel
theorem d_Rdr_takeTerm_100 : decode prog_4_method_6_code 100 = .ok (.putfield 66, 3) := by decide +kernel
theorem d_Rdr_takeTerm_103 : decode prog_4_method_6_code 103 = .ok (.aload_n 0, 1) := by decide +kernel
theorem d_Rdr_takeTerm_104 : decode prog_4_method_6_code 104 = .ok (.getfield 21, 3) := by decide +kernel
theorem d_Rdr_takeTerm_107 : decode prog_4_method_6_code 107 = .ok (.bipush 14, 2) := by decide +kernel
theorem d_Rdr_takeTerm_109 : decode prog_4_method_6_code 109 = .ok (.iconst (-1), 1) := by decide +kernel
theorem d_Rdr_takeTerm_110 : decode prog_4_method_6_code 110 = .ok (.invokevirtual 90, 3) := by decide +kernel
theorem d_Rdr_takeTerm_113 : decode prog_4_method_6_code 113 = .ok (.ireturn, 1) := by decide +kernel
theorem d_Rdr_takeTerm_114 : decode prog_4_method_6_code 114 = .ok (.iconst 0, 1) := by decide +kernel
theorem d_Rdr_takeTerm_115 : decode prog_4_method_6_code 115 = .ok (.ireturn, 1) := by decide +kernel
set_option maxHeartbeats 4000000 in
set_option maxRecDepth 100000 in
theorem c_Rdr_takeTerm (hP : zP b0 N f (wRdr ck A g len st)) (hu : uok st) : zK l D ck ad b0 y_Rdr_takeTerm prog_4_method_6_code 1 ((some FieldType.boolean)) 1 0 0 [.ref (A 0)] N f (fun r N' f' => r = some (.int (zb (bTerm st).1)) ∧ N = N' ∧ zP b0 N f' (wRdr ck A g len ((bTerm st).2)) ∧ zF N f f' (AA A)) := by
  refine zM.of zG_w (by decide) (Nat.le_of_ble_eq_true rfl) ?_
  intro zp ze zst zm zar zbe zme zc X hnm hb0
  have hF : zF N f f (AA A) := zF.rf
  refine z_aload_n X d_Rdr_takeTerm_0 rfl ?_
  refine z_get X d_Rdr_takeTerm_1 (hP.lo 0 rfl) (hP.at 0 rfl) cl_Rdr in_Rdr 11 (by decide) fl_Rdr_63 rfl rfl ?_
  refine z_tableL X 114 [44, 63, 114, 114, 82, 98] d_Rdr_takeTerm_4 (by decide) (by decide) (by decide) (fun i hi hx => ?_) (fun hd => ?_) (by decide)
  · match i, hi, hx with
    | 0, _, hx =>
      have g4 : _ = (2 : Int32) := hx
      have g4 : st.1 11 = 2 := g4
      have e9 : bTerm st = bTr (tApp 11 (st.1 13) st.2.1) (qs 9 4 st) := by rw [bTerm, g4]; rfl
      refine zW.topc (pc' := 44) rfl ?_
      refine z_aload_n X d_Rdr_takeTerm_44 rfl ?_
      refine z_iconst X d_Rdr_takeTerm_45 (v := 4) (by decide) ?_
      refine z_putP X t_Rdr ty_Rdr n_Rdr d_Rdr_takeTerm_46 hP 0 rfl cl_Rdr in_Rdr 9 (by decide) fl_Rdr_66 rfl rfl rfl rfl rfl (Nat.le_of_ble_eq_true rfl) (fun hP => ?_)
      have hF := hF.by (by simp) hP
      refine z_aload_n X d_Rdr_takeTerm_49 rfl ?_
      refine z_get X d_Rdr_takeTerm_50 (hP.lo 0 rfl) (hP.at 0 rfl) cl_Rdr in_Rdr 1 (by decide) fl_Rdr_21 rfl rfl ?_
      refine z_bipush X d_Rdr_takeTerm_53 (v := 11) (by decide) ?_
      refine z_aload_n X d_Rdr_takeTerm_55 rfl ?_
      refine z_get X d_Rdr_takeTerm_56 (hP.lo 0 rfl) (hP.at 0 rfl) cl_Rdr in_Rdr 13 (by decide) fl_Rdr_105 rfl rfl ?_
      refine z_callV X zG_ok (c_Tre_appendT (ts := (qs 9 4 st).2.1) (hP.sub [6, 7, 8, 9] (by decide) rfl) hu) d_Rdr_takeTerm_59 ⟨(z_cb (n := 2) X.2.2.2.2.1 ml_Rdr_90 mc_Tre_append ini_Tre (by decide +kernel) rfl rfl ⟨Nat.le_of_ble_eq_true rfl, Nat.le_of_ble_eq_true rfl⟩), X.2.2.2.2.1 _ im_Tre_append, X.2.2.2.2.1 _ sel_Tre_append⟩ (hP.lo 6 rfl) (hP.at 6 rfl) cl_Tre rfl rfl (Nat.le_of_ble_eq_true rfl) ⟨Nat.le_of_ble_eq_true rfl, Nat.le_of_ble_eq_true rfl⟩ (fun r N1 f1 hp hN1 => ?_)
      obtain ⟨rfl, rfl, hT, hF1⟩ := hp
      have hP := zP.tre (g := g) (len := len) (st := qs 9 4 st) hP hT hF1
      have hF := hF.tre hF1
      exact z_zret X d_Rdr_takeTerm_62 (zb_n _) ⟨by rw [e9]; rfl, rfl, by rw [e9]; exact hP, hF⟩
    | 1, _, hx =>
      have g4 : _ = (3 : Int32) := hx
      have g4 : st.1 11 = 3 := g4
      have e9 : bTerm st = bTr (tApp 12 (st.1 13) st.2.1) (qs 9 4 st) := by rw [bTerm, g4]; rfl
      refine zW.topc (pc' := 63) rfl ?_
      refine z_aload_n X d_Rdr_takeTerm_63 rfl ?_
      refine z_iconst X d_Rdr_takeTerm_64 (v := 4) (by decide) ?_
      refine z_putP X t_Rdr ty_Rdr n_Rdr d_Rdr_takeTerm_65 hP 0 rfl cl_Rdr in_Rdr 9 (by decide) fl_Rdr_66 rfl rfl rfl rfl rfl (Nat.le_of_ble_eq_true rfl) (fun hP => ?_)
      have hF := hF.by (by simp) hP
      refine z_aload_n X d_Rdr_takeTerm_68 rfl ?_
      refine z_get X d_Rdr_takeTerm_69 (hP.lo 0 rfl) (hP.at 0 rfl) cl_Rdr in_Rdr 1 (by decide) fl_Rdr_21 rfl rfl ?_
      refine z_bipush X d_Rdr_takeTerm_72 (v := 12) (by decide) ?_
      refine z_aload_n X d_Rdr_takeTerm_74 rfl ?_
      refine z_get X d_Rdr_takeTerm_75 (hP.lo 0 rfl) (hP.at 0 rfl) cl_Rdr in_Rdr 13 (by decide) fl_Rdr_105 rfl rfl ?_
      refine z_callV X zG_ok (c_Tre_appendT (ts := (qs 9 4 st).2.1) (hP.sub [6, 7, 8, 9] (by decide) rfl) hu) d_Rdr_takeTerm_78 ⟨(z_cb (n := 2) X.2.2.2.2.1 ml_Rdr_90 mc_Tre_append ini_Tre (by decide +kernel) rfl rfl ⟨Nat.le_of_ble_eq_true rfl, Nat.le_of_ble_eq_true rfl⟩), X.2.2.2.2.1 _ im_Tre_append, X.2.2.2.2.1 _ sel_Tre_append⟩ (hP.lo 6 rfl) (hP.at 6 rfl) cl_Tre rfl rfl (Nat.le_of_ble_eq_true rfl) ⟨Nat.le_of_ble_eq_true rfl, Nat.le_of_ble_eq_true rfl⟩ (fun r N1 f1 hp hN1 => ?_)
      obtain ⟨rfl, rfl, hT, hF1⟩ := hp
      have hP := zP.tre (g := g) (len := len) (st := qs 9 4 st) hP hT hF1
      have hF := hF.tre hF1
      exact z_zret X d_Rdr_takeTerm_81 (zb_n _) ⟨by rw [e9]; rfl, rfl, by rw [e9]; exact hP, hF⟩
    | 2, _, hx =>
      have g4 : _ = (4 : Int32) := hx
      have g4 : st.1 11 = 4 := g4
      have e9 : bTerm st = (false, st) := by rw [bTerm, g4]; rfl
      refine zW.topc (pc' := 114) rfl ?_
      refine z_iconst X d_Rdr_takeTerm_114 (v := 0) (by decide) ?_
      exact z_zret X d_Rdr_takeTerm_115 rfl ⟨by rw [e9]; rfl, rfl, by rw [e9]; exact hP, hF⟩
    | 3, _, hx =>
      have g4 : _ = (5 : Int32) := hx
      have g4 : st.1 11 = 5 := g4
      have e9 : bTerm st = (false, st) := by rw [bTerm, g4]; rfl
      refine zW.topc (pc' := 114) rfl ?_
      refine z_iconst X d_Rdr_takeTerm_114 (v := 0) (by decide) ?_
      exact z_zret X d_Rdr_takeTerm_115 rfl ⟨by rw [e9]; rfl, rfl, by rw [e9]; exact hP, hF⟩
    | 4, _, hx =>
      have g4 : _ = (6 : Int32) := hx
      have g4 : st.1 11 = 6 := g4
      have e9 : bTerm st = bTr (tApp 13 (-1) st.2.1) (qs 9 3 st) := by rw [bTerm, g4]; rfl
      refine zW.topc (pc' := 82) rfl ?_
      refine z_aload_n X d_Rdr_takeTerm_82 rfl ?_
      refine z_iconst X d_Rdr_takeTerm_83 (v := 3) (by decide) ?_
      refine z_putP X t_Rdr ty_Rdr n_Rdr d_Rdr_takeTerm_84 hP 0 rfl cl_Rdr in_Rdr 9 (by decide) fl_Rdr_66 rfl rfl rfl rfl rfl (Nat.le_of_ble_eq_true rfl) (fun hP => ?_)
      have hF := hF.by (by simp) hP
      refine z_aload_n X d_Rdr_takeTerm_87 rfl ?_
      refine z_get X d_Rdr_takeTerm_88 (hP.lo 0 rfl) (hP.at 0 rfl) cl_Rdr in_Rdr 1 (by decide) fl_Rdr_21 rfl rfl ?_
      refine z_bipush X d_Rdr_takeTerm_91 (v := 13) (by decide) ?_
      refine z_iconst X d_Rdr_takeTerm_93 (v := -1) (by decide) ?_
      refine z_callV X zG_ok (c_Tre_appendT (ts := (qs 9 3 st).2.1) (hP.sub [6, 7, 8, 9] (by decide) rfl) hu) d_Rdr_takeTerm_94 ⟨(z_cb (n := 2) X.2.2.2.2.1 ml_Rdr_90 mc_Tre_append ini_Tre (by decide +kernel) rfl rfl ⟨Nat.le_of_ble_eq_true rfl, Nat.le_of_ble_eq_true rfl⟩), X.2.2.2.2.1 _ im_Tre_append, X.2.2.2.2.1 _ sel_Tre_append⟩ (hP.lo 6 rfl) (hP.at 6 rfl) cl_Tre rfl rfl (Nat.le_of_ble_eq_true rfl) ⟨Nat.le_of_ble_eq_true rfl, Nat.le_of_ble_eq_true rfl⟩ (fun r N1 f1 hp hN1 => ?_)
      obtain ⟨rfl, rfl, hT, hF1⟩ := hp
      have hP := zP.tre (g := g) (len := len) (st := qs 9 3 st) hP hT hF1
      have hF := hF.tre hF1
      exact z_zret X d_Rdr_takeTerm_97 (zb_n _) ⟨by rw [e9]; rfl, rfl, by rw [e9]; exact hP, hF⟩
    | 5, _, hx =>
      have g4 : _ = (7 : Int32) := hx
      have g4 : st.1 11 = 7 := g4
      have e9 : bTerm st = bTr (tApp 14 (-1) st.2.1) (qs 9 3 st) := by rw [bTerm, g4]; rfl
      refine zW.topc (pc' := 98) rfl ?_
      refine z_aload_n X d_Rdr_takeTerm_98 rfl ?_
      refine z_iconst X d_Rdr_takeTerm_99 (v := 3) (by decide) ?_
      refine z_putP X t_Rdr ty_Rdr n_Rdr d_Rdr_takeTerm_100 hP 0 rfl cl_Rdr in_Rdr 9 (by decide) fl_Rdr_66 rfl rfl rfl rfl rfl (Nat.le_of_ble_eq_true rfl) (fun hP => ?_)
      have hF := hF.by (by simp) hP
      refine z_aload_n X d_Rdr_takeTerm_103 rfl ?_
      refine z_get X d_Rdr_takeTerm_104 (hP.lo 0 rfl) (hP.at 0 rfl) cl_Rdr in_Rdr 1 (by decide) fl_Rdr_21 rfl rfl ?_
      refine z_bipush X d_Rdr_takeTerm_107 (v := 14) (by decide) ?_
      refine z_iconst X d_Rdr_takeTerm_109 (v := -1) (by decide) ?_
      refine z_callV X zG_ok (c_Tre_appendT (ts := (qs 9 3 st).2.1) (hP.sub [6, 7, 8, 9] (by decide) rfl) hu) d_Rdr_takeTerm_110 ⟨(z_cb (n := 2) X.2.2.2.2.1 ml_Rdr_90 mc_Tre_append ini_Tre (by decide +kernel) rfl rfl ⟨Nat.le_of_ble_eq_true rfl, Nat.le_of_ble_eq_true rfl⟩), X.2.2.2.2.1 _ im_Tre_append, X.2.2.2.2.1 _ sel_Tre_append⟩ (hP.lo 6 rfl) (hP.at 6 rfl) cl_Tre rfl rfl (Nat.le_of_ble_eq_true rfl) ⟨Nat.le_of_ble_eq_true rfl, Nat.le_of_ble_eq_true rfl⟩ (fun r N1 f1 hp hN1 => ?_)
      obtain ⟨rfl, rfl, hT, hF1⟩ := hp
      have hP := zP.tre (g := g) (len := len) (st := qs 9 3 st) hP hT hF1
      have hF := hF.tre hF1
      exact z_zret X d_Rdr_takeTerm_113 (zb_n _) ⟨by rw [e9]; rfl, rfl, by rw [e9]; exact hP, hF⟩
    | j + 6, hi, _ => exact absurd hi (by simp)
  · skip
    have g4_0 : ¬ _ = (2 : Int32) := hd 0 (by decide)
    have g4_1 : ¬ _ = (3 : Int32) := hd 1 (by decide)
    have g4_2 : ¬ _ = (4 : Int32) := hd 2 (by decide)
    have g4_3 : ¬ _ = (5 : Int32) := hd 3 (by decide)
    have g4_4 : ¬ _ = (6 : Int32) := hd 4 (by decide)
    have g4_5 : ¬ _ = (7 : Int32) := hd 5 (by decide)
    have e9 : bTerm st = (false, st) := by rw [bTerm, if_neg g4_0, if_neg g4_1, if_neg g4_4, if_neg g4_5]
    refine z_iconst X d_Rdr_takeTerm_114 (v := 0) (by decide) ?_
    exact z_zret X d_Rdr_takeTerm_115 rfl ⟨by rw [e9]; rfl, rfl, by rw [e9]; exact hP, hF⟩
theorem d_Rdr_takeFieldOfSum_0 : decode prog_4_method_7_code 0 = .ok (.aload_n 0, 1) := by decide +kernel
theorem d_Rdr_takeFieldOfSum_1 : decode prog_4_method_7_code 1 = .ok (.getfield 63, 3) := by decide +kernel
theorem d_Rdr_takeFieldOfSum_4 : decode prog_4_method_7_code 4 = .ok (.iconst 3, 1) := by decide +kernel
theorem d_Rdr_takeFieldOfSum_5 : decode prog_4_method_7_code 5 = .ok (.if_icmp .eq 5, 3) := by decide +kernel
theorem d_Rdr_takeFieldOfSum_8 : decode prog_4_method_7_code 8 = .ok (.iconst 0, 1) := by decide +kernel
theorem d_Rdr_takeFieldOfSum_9 : decode prog_4_method_7_code 9 = .ok (.ireturn, 1) := by decide +kernel
theorem d_Rdr_takeFieldOfSum_10 : decode prog_4_method_7_code 10 = .ok (.aload_n 0, 1) := by decide +kernel
theorem d_Rdr_takeFieldOfSum_11 : decode prog_4_method_7_code 11 = .ok (.getfield 21, 3) := by decide +kernel
theorem d_Rdr_takeFieldOfSum_14 : decode prog_4_method_7_code 14 = .ok (.aload_n 0, 1) := by decide +kernel
theorem d_Rdr_takeFieldOfSum_15 : decode prog_4_method_7_code 15 = .ok (.getfield 105, 3) := by decide +kernel
theorem d_Rdr_takeFieldOfSum_18 : decode prog_4_method_7_code 18 = .ok (.invokevirtual 108, 3) := by decide +kernel
theorem d_Rdr_takeFieldOfSum_21 : decode prog_4_method_7_code 21 = .ok (.aload_n 0, 1) := by decide +kernel
theorem d_Rdr_takeFieldOfSum_22 : decode prog_4_method_7_code 22 = .ok (.iconst 4, 1) := by decide +kernel
theorem d_Rdr_takeFieldOfSum_23 : decode prog_4_method_7_code 23 = .ok (.putfield 66, 3) := by decide +kernel
theorem d_Rdr_takeFieldOfSum_26 : decode prog_4_method_7_code 26 = .ok (.iconst 1, 1) := by decide +kernel
theorem d_Rdr_takeFieldOfSum_27 : decode prog_4_method_7_code 27 = .ok (.ireturn, 1) := by decide +kernel
set_option maxHeartbeats 4000000 in
set_option maxRecDepth 100000 in
theorem c_Rdr_takeFieldOfSum (hP : zP b0 N f (wRdr ck A g len st)) (hu : uok st) : zK l D ck ad b0 y_Rdr_takeFieldOfSum prog_4_method_7_code 1 ((some FieldType.boolean)) 1 0 0 [.ref (A 0)] N f (fun r N' f' => r = some (.int (zb (bFos st).1)) ∧ N = N' ∧ zP b0 N f' (wRdr ck A g len ((bFos st).2)) ∧ zF N f f' (AA A)) := by
  refine zM.of zG_w (by decide) (Nat.le_of_ble_eq_true rfl) ?_
  intro zp ze zst zm zar zbe zme zc X hnm hb0
  have hF : zF N f f (AA A) := zF.rf
  refine z_aload_n X d_Rdr_takeFieldOfSum_0 rfl ?_
  refine z_get X d_Rdr_takeFieldOfSum_1 (hP.lo 0 rfl) (hP.at 0 rfl) cl_Rdr in_Rdr 11 (by decide) fl_Rdr_63 rfl rfl ?_
  refine z_iconst X d_Rdr_takeFieldOfSum_4 (v := 3) (by decide) ?_
  refine z_icmp_eq X 10 d_Rdr_takeFieldOfSum_5 (by decide) (fun h5 => ?_) (fun h5 => ?_)
  · skip
    have e9 : bFos st = (true, (upd st.1 9 4, tSet (st.1 13) st.2.1, st.2.2)) := by rw [bFos, if_pos h5]
    refine z_aload_n X d_Rdr_takeFieldOfSum_10 rfl ?_
    refine z_get X d_Rdr_takeFieldOfSum_11 (hP.lo 0 rfl) (hP.at 0 rfl) cl_Rdr in_Rdr 1 (by decide) fl_Rdr_21 rfl rfl ?_
    refine z_aload_n X d_Rdr_takeFieldOfSum_14 rfl ?_
    refine z_get X d_Rdr_takeFieldOfSum_15 (hP.lo 0 rfl) (hP.at 0 rfl) cl_Rdr in_Rdr 13 (by decide) fl_Rdr_105 rfl rfl ?_
    refine z_callV X zG_ok (c_Tre_setLastT (ts := st.2.1) (hP.sub [6, 7, 8, 9] (by decide) rfl) hu) d_Rdr_takeFieldOfSum_18 ⟨(z_cb (n := 1) X.2.2.2.2.1 ml_Rdr_108 mc_Tre_setLastValue ini_Tre (by decide +kernel) rfl rfl ⟨Nat.le_of_ble_eq_true rfl, Nat.le_of_ble_eq_true rfl⟩), X.2.2.2.2.1 _ im_Tre_setLastValue, X.2.2.2.2.1 _ sel_Tre_setLastValue⟩ (hP.lo 6 rfl) (hP.at 6 rfl) cl_Tre rfl rfl (Nat.le_of_ble_eq_true rfl) ⟨Nat.le_of_ble_eq_true rfl, Nat.le_of_ble_eq_true rfl⟩ (fun r N1 f1 hp hN1 => ?_)
    obtain ⟨rfl, rfl, hT, hF1⟩ := hp
    have hP := zP.tre (g := g) (len := len) (st := st) hP hT hF1
    have hF := hF.tre hF1
    refine z_aload_n X d_Rdr_takeFieldOfSum_21 rfl ?_
    refine z_iconst X d_Rdr_takeFieldOfSum_22 (v := 4) (by decide) ?_
    refine z_putP X t_Rdr ty_Rdr n_Rdr d_Rdr_takeFieldOfSum_23 hP 0 rfl cl_Rdr in_Rdr 9 (by decide) fl_Rdr_66 rfl rfl rfl rfl rfl (Nat.le_of_ble_eq_true rfl) (fun hP => ?_)
    have hF := hF.by (by simp) hP
    refine z_iconst X d_Rdr_takeFieldOfSum_26 (v := 1) (by decide) ?_
    exact z_zret X d_Rdr_takeFieldOfSum_27 rfl ⟨by rw [e9]; rfl, rfl, by rw [e9]; exact hP, hF⟩
  · skip
    have e9 : bFos st = (false, st) := by rw [bFos, if_neg h5]
    refine z_iconst X d_Rdr_takeFieldOfSum_8 (v := 0) (by decide) ?_
    exact z_zret X d_Rdr_takeFieldOfSum_9 rfl ⟨by rw [e9]; rfl, rfl, by rw [e9]; exact hP, hF⟩
theorem d_Rdr_compare_0 : decode prog_4_method_9_code 0 = .ok (.aload_n 0, 1) := by decide +kernel
theorem d_Rdr_compare_1 : decode prog_4_method_9_code 1 = .ok (.getfield 21, 3) := by decide +kernel
theorem d_Rdr_compare_4 : decode prog_4_method_9_code 4 = .ok (.aload_n 0, 1) := by decide +kernel
theorem d_Rdr_compare_5 : decode prog_4_method_9_code 5 = .ok (.getfield 102, 3) := by decide +kernel
theorem d_Rdr_compare_8 : decode prog_4_method_9_code 8 = .ok (.aload_n 0, 1) := by decide +kernel
theorem d_Rdr_compare_9 : decode prog_4_method_9_code 9 = .ok (.invokevirtual 112, 3) := by decide +kernel
theorem d_Rdr_compare_12 : decode prog_4_method_9_code 12 = .ok (.invokevirtual 115, 3) := by decide +kernel
theorem d_Rdr_compare_15 : decode prog_4_method_9_code 15 = .ok (.ifCond .ne 5, 3) := by decide +kernel
theorem d_Rdr_compare_18 : decode prog_4_method_9_code 18 = .ok (.iconst 0, 1) := by decide +kernel
theorem d_Rdr_compare_19 : decode prog_4_method_9_code 19 = .ok (.ireturn, 1) := by decide +kernel
theorem d_Rdr_compare_20 : decode prog_4_method_9_code 20 = .ok (.aload_n 0, 1) := by decide +kernel
theorem d_Rdr_compare_21 : decode prog_4_method_9_code 21 = .ok (.iconst 1, 1) := by decide +kernel
theorem d_Rdr_compare_22 : decode prog_4_method_9_code 22 = .ok (.putfield 94, 3) := by decide +kernel
theorem d_Rdr_compare_25 : decode prog_4_method_9_code 25 = .ok (.aload_n 0, 1) := by decide +kernel
theorem d_Rdr_compare_26 : decode prog_4_method_9_code 26 = .ok (.aload_n 0, 1) := by decide +kernel
theorem d_Rdr_compare_27 : decode prog_4_method_9_code 27 = .ok (.getfield 21, 3) := by decide +kernel
theorem d_Rdr_compare_30 : decode prog_4_method_9_code 30 = .ok (.invokevirtual 98, 3) := by decide +kernel
theorem d_Rdr_compare_33 : decode prog_4_method_9_code 33 = .ok (.putfield 102, 3) := by decide +kernel
theorem d_Rdr_compare_36 : decode prog_4_method_9_code 36 = .ok (.aload_n 0, 1) := by decide +kernel
theorem d_Rdr_compare_37 : decode prog_4_method_9_code 37 = .ok (.iconst 2, 1) := by decide +kernel
theorem d_Rdr_compare_38 : decode prog_4_method_9_code 38 = .ok (.putfield 66, 3) := by decide +kernel
theorem d_Rdr_compare_41 : decode prog_4_method_9_code 41 = .ok (.iconst 1, 1) := by decide +kernel
theorem d_Rdr_compare_42 : decode prog_4_method_9_code 42 = .ok (.ireturn, 1) := by decide +kernel
set_option maxHeartbeats 4000000 in
set_option maxRecDepth 100000 in
theorem c_Rdr_compare (hP : zP b0 N f (wRdr ck A g len st)) (hu : uok st) : zK l D ck ad b0 y_Rdr_compare prog_4_method_9_code 1 ((some FieldType.boolean)) 5 0 0 [.ref (A 0)] N f (fun r N' f' => r = some (.int (zb (bCmp st).1)) ∧ N = N' ∧ zP b0 N f' (wRdr ck A g len ((bCmp st).2)) ∧ zF N f f' (AA A)) := by
  refine zM.of zG_w (by decide) (Nat.le_of_ble_eq_true rfl) ?_
  intro zp ze zst zm zar zbe zme zc X hnm hb0
  have hF : zF N f f (AA A) := zF.rf
  refine z_aload_n X d_Rdr_compare_0 rfl ?_
  refine z_get X d_Rdr_compare_1 (hP.lo 0 rfl) (hP.at 0 rfl) cl_Rdr in_Rdr 1 (by decide) fl_Rdr_21 rfl rfl ?_
  refine z_aload_n X d_Rdr_compare_4 rfl ?_
  refine z_get X d_Rdr_compare_5 (hP.lo 0 rfl) (hP.at 0 rfl) cl_Rdr in_Rdr 7 (by decide) fl_Rdr_102 rfl rfl ?_
  refine z_aload_n X d_Rdr_compare_8 rfl ?_
  refine z_callV X zG_ok (c_Rdr_kindOfToken hP) d_Rdr_compare_9 ⟨(z_cb (n := 0) X.2.2.2.2.1 ml_Rdr_112 mc_Rdr_kindOfToken ini_Rdr (by decide +kernel) rfl rfl ⟨Nat.le_of_ble_eq_true rfl, Nat.le_of_ble_eq_true rfl⟩), X.2.2.2.2.1 _ im_Rdr_kindOfToken, X.2.2.2.2.1 _ sel_Rdr_kindOfToken⟩ (hP.lo 0 rfl) (hP.at 0 rfl) cl_Rdr rfl rfl (Nat.le_of_ble_eq_true rfl) ⟨Nat.le_of_ble_eq_true rfl, Nat.le_of_ble_eq_true rfl⟩ (fun r N1 f1 hp hN1 => ?_)
  obtain ⟨rfl, rfl, rfl⟩ := hp
  refine z_callV X zG_ok (c_Tre_insertT (ts := (st).2.1) (hP.sub [6, 7, 8, 9] (by decide) rfl) hu) d_Rdr_compare_12 ⟨(z_cb (n := 2) X.2.2.2.2.1 ml_Rdr_115 mc_Tre_insert ini_Tre (by decide +kernel) rfl rfl ⟨Nat.le_of_ble_eq_true rfl, Nat.le_of_ble_eq_true rfl⟩), X.2.2.2.2.1 _ im_Tre_insert, X.2.2.2.2.1 _ sel_Tre_insert⟩ (hP.lo 6 rfl) (hP.at 6 rfl) cl_Tre rfl rfl (Nat.le_of_ble_eq_true rfl) ⟨Nat.le_of_ble_eq_true rfl, Nat.le_of_ble_eq_true rfl⟩ (fun r N1 f1 hp hN1 => ?_)
  obtain ⟨rfl, rfl, hT, hF1⟩ := hp
  have hP := zP.tre (g := g) (len := len) (st := st) hP hT hF1
  have hF := hF.tre hF1
  refine z_if_ne X 20 d_Rdr_compare_15 (by decide) (fun h15 => ?_) (fun h15 => ?_)
  · skip
    have nb : (tIns (st.1 7) (rKind st) st.2.1).1 = true := by
      cases hq : (tIns (st.1 7) (rKind st) st.2.1).1
      · exact absurd (zb_0.mpr hq) h15
      · rfl
    have e8 := show bCmp st = _ from if_pos nb
    refine z_aload_n X d_Rdr_compare_20 rfl ?_
    refine z_iconst X d_Rdr_compare_21 (v := 1) (by decide) ?_
    refine z_putP X t_Rdr ty_Rdr n_Rdr d_Rdr_compare_22 hP 0 rfl cl_Rdr in_Rdr 8 (by decide) fl_Rdr_94 rfl rfl rfl rfl rfl (Nat.le_of_ble_eq_true rfl) (fun hP => ?_)
    have hF := hF.by (by simp) hP
    refine z_aload_n X d_Rdr_compare_25 rfl ?_
    refine z_aload_n X d_Rdr_compare_26 rfl ?_
    refine z_get X d_Rdr_compare_27 (hP.lo 0 rfl) (hP.at 0 rfl) cl_Rdr in_Rdr 1 (by decide) fl_Rdr_21 rfl rfl ?_
    refine z_callV X zG_ok (c_Tre_size (hP.sub [6, 7, 8, 9] (by decide) rfl)) d_Rdr_compare_30 ⟨(z_cb (n := 0) X.2.2.2.2.1 ml_Rdr_98 mc_Tre_size ini_Tre (by decide +kernel) rfl rfl ⟨Nat.le_of_ble_eq_true rfl, Nat.le_of_ble_eq_true rfl⟩), X.2.2.2.2.1 _ im_Tre_size, X.2.2.2.2.1 _ sel_Tre_size⟩ (hP.lo 6 rfl) (hP.at 6 rfl) cl_Tre rfl rfl (Nat.le_of_ble_eq_true rfl) ⟨Nat.le_of_ble_eq_true rfl, Nat.le_of_ble_eq_true rfl⟩ (fun r N1 f1 hp hN1 => ?_)
    obtain ⟨rfl, rfl, rfl⟩ := hp
    refine z_putP X t_Rdr ty_Rdr n_Rdr d_Rdr_compare_33 hP 0 rfl cl_Rdr in_Rdr 7 (by decide) fl_Rdr_102 rfl rfl rfl rfl rfl (Nat.le_of_ble_eq_true rfl) (fun hP => ?_)
    have hF := hF.by (by simp) hP
    refine z_aload_n X d_Rdr_compare_36 rfl ?_
    refine z_iconst X d_Rdr_compare_37 (v := 2) (by decide) ?_
    refine z_putP X t_Rdr ty_Rdr n_Rdr d_Rdr_compare_38 hP 0 rfl cl_Rdr in_Rdr 9 (by decide) fl_Rdr_66 rfl rfl rfl rfl rfl (Nat.le_of_ble_eq_true rfl) (fun hP => ?_)
    have hF := hF.by (by simp) hP
    refine z_iconst X d_Rdr_compare_41 (v := 1) (by decide) ?_
    exact z_zret X d_Rdr_compare_42 rfl ⟨by rw [e8]; rfl, rfl, by rw [e8]; exact hP, hF⟩
  · skip
    have e8 := show bCmp st = _ from if_neg (by rw [zb_0.mp h15]; decide)
    refine z_iconst X d_Rdr_compare_18 (v := 0) (by decide) ?_
    exact z_zret X d_Rdr_compare_19 rfl ⟨by rw [e8]; rfl, rfl, by rw [e8]; exact hP, hF⟩
end
