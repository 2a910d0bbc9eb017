/-- what was printed: signs and how many -/
abbrev PSt : Type := (Nat → Int32) × Nat
def pAdd (ps : PSt) (x : Int32) : PSt := if ps.2 < 200 then (upd ps.1 ps.2 x, ps.2 + 1) else ps
def pPut (l : List Int32) (ps : PSt) : PSt := l.foldl pAdd ps
theorem pAdd_len {ps : PSt} {x : Int32} (h : ps.2 ≤ 200) : (pAdd ps x).2 ≤ 200 := by
  rw [pAdd]; by_cases q : ps.2 < 200
  · rw [if_pos q]; show ps.2 + 1 ≤ 200; omega
  · rw [if_neg q]; exact h
theorem pPut_len {l : List Int32} : ∀ {ps : PSt}, ps.2 ≤ 200 → (pPut l ps).2 ≤ 200 := by
  induction l with
  | nil => intro ps h; exact h
  | cons x l ih => intro ps h; exact ih (pAdd_len h)
theorem pPut_app (a b : List Int32) (ps : PSt) : pPut (a ++ b) ps = pPut b (pPut a ps) := List.foldl_append
theorem pPut_1 (x : Int32) (ps : PSt) : pPut [x] ps = pAdd ps x := rfl
/-- the printer's cells: itself, the signs, their row -/
abbrev wPr (ck : Nat → ClassId) (A : Nat → Nat) (ps : PSt) : va_W := [(A 0, .inr (1, [.ref (A 1)])), (A 1, oSgn (A 2) (nI ps.2)), (A 2, aI ck 200 ps.1)]
/-- ... beside a tree -/
abbrev wPT (ck : Nat → ClassId) (A : Nat → Nat) (ps : PSt) (n : Nat) (K V R : Nat → Int32) (u : Nat) : va_W := wPr ck A ps ++ wTre ck (A 3) (A 4) (A 5) (A 6) n K V R u
/-- Printer.addNumber -/
def uN (t : Nat) : Int32 := match t with
  | 0 => 1000000
  | 1 => 100000
  | 2 => 10000
  | 3 => 1000
  | 4 => 100
  | 5 => 10
  | 6 => 1
  | _ => 0
theorem uN_p : ∀ t, t < 7 → (¬ uN t ≤ 0) ∧ (¬ uN t = 0) ∧ uN t / 10 = uN (t + 1) := by decide
def pNumT (v : Int32) : Nat → List Int32
  | 0 => []
  | t + 1 => pNumT v t ++ (if uN t ≤ v ∨ uN t = 1 then [48 + (v / uN t - v / uN t / 10 * 10)] else [])
def pNum (v : Int32) : List Int32 := pNumT v 7
/-- Printer.addSignOf, needsBrackets, printTerm -/
def pSig (k : Int32) : List Int32 := if k < 0 then [] else if 11 ≤ k then [] else [(zSb 14).getD k.toNatClampNeg 0]
def pBr (k b : Int32) (r : Bool) : Bool := if k = 2 then decide (b = 0) || decide (b = 1) else if k = 1 then decide (b = 0) || (decide (b = 1) && r) else if k = 0 then decide (b = 0) && r else false
def pTerm (k v : Int32) : List Int32 := (if k = 13 then zSb 12 else []) ++ ((if k = 14 then zSb 13 else []) ++ ((if k = 11 then [] else [102]) ++ pNum v))
/-- Printer.printBelow, over what prints a node; printNode, n levels deep at most -/
def pBel (K R : Nat → Int32) (u : Nat) (T : Int32 → List Int32) (i b : Int32) : List Int32 := if pBr (sgv K u i) (sgv K u b) (decide (b = sgv R u i)) = true then [40] ++ (T b ++ [41]) else T b
def pTxt (K V R : Nat → Int32) (u : Nat) : Nat → Int32 → List Int32
  | 0, _ => []
  | n + 1, i =>
    if sgv K u i = 2 then [33] ++ pBel K R u (pTxt K V R u n) i (tleft K u i)
    else if sgv K u i = 3 then zSb 10 ++ (pBel K R u (pTxt K V R u n) i (tleft K u i) ++ [41])
    else if sgv K u i = 4 then zSb 11 ++ (pBel K R u (pTxt K V R u n) i (tleft K u i) ++ [41])
    else if sgv K u i = 11 ∨ sgv K u i = 12 ∨ sgv K u i = 13 ∨ sgv K u i = 14 then pTerm (sgv K u i) (sgv V u i)
    else pBel K R u (pTxt K V R u n) i (tleft K u i) ++ (pSig (sgv K u i) ++ pBel K R u (pTxt K V R u n) i (sgv R u i))
section
variable {l : Launch} {D : va_G} {ck : Nat → ClassId} {ad : (Nat → Nat) × (Nat → Nat)} {b0 N : Nat} {f : Nat → va_E}
variable {A : Nat → Nat} {ps : PSt}
set_option maxHeartbeats 4000000 in
set_option maxRecDepth 100000 in
theorem c_Sgn_addT {sg ra : Nat} {ps : PSt} (hP : zP b0 N f [(sg, oSgn ra (nI ps.2)), (ra, aI ck 200 ps.1)]) (hl : ps.2 ≤ 200) {x : Int32} : zK l D ck ad b0 y_Sgn_add prog_6_method_4_code 2 ((some FieldType.boolean)) 0 0 0 [.ref sg, .int x] N f (fun r N' f' => (∃ y : Int32, r = some (.int y)) ∧ N = N' ∧ zP b0 N f' [(sg, oSgn ra (nI (pAdd ps x).2)), (ra, aI ck 200 (pAdd ps x).1)] ∧ zF N f f' [sg, ra]) := by
  refine (c_Sgn_add hP hl).mono ?_
  intro r N1 f1 h
  rw [pAdd]
  by_cases q : ps.2 < 200
  · rw [if_pos q] at h ⊢
    obtain ⟨rfl, rfl, rfl⟩ := h
    exact ⟨⟨_, rfl⟩, rfl, (hP.put 1 rfl _).put 0 rfl _, (zF.rf.put (by simp) _).put (by simp) _⟩
  · rw [if_neg q] at h ⊢
    obtain ⟨rfl, rfl, rfl⟩ := h
    exact ⟨⟨_, rfl⟩, rfl, hP, zF.rf⟩
theorem zP.pra {f' : Nat → va_E} {ps' : PSt} (hP : zP b0 N f (wPr ck A ps)) (h1 : zP b0 N f' [(A 1, oSgn (A 2) (nI ps'.2)), (A 2, aI ck 200 ps'.1)]) (hF : zF N f f' [A 1, A 2]) : zP b0 N f' (wPr ck A ps') :=
  (hP.jn [1, 2] [0] rfl (by decide) (by simp) (by decide) hF (Nat.le_refl _) h1 (fun _ h => Or.inl h)).eq rfl
theorem zP.prt {f' : Nat → va_E} {ps' : PSt} {n : Nat} {K V R : Nat → Int32} {u : Nat} (hP : zP b0 N f (wPT ck A ps n K V R u)) (h1 : zP b0 N f' (wPr ck A ps')) (hF : zF N f f' [A 1, A 2]) : zP b0 N f' (wPT ck A ps' n K V R u) :=
  ((hP.jn [1, 2] [0, 3, 4, 5, 6] rfl (by decide) (by simp) (by decide) hF (Nat.le_refl _) (h1.sub (wc := [(A 1, oSgn (A 2) (nI ps'.2)), (A 2, aI ck 200 ps'.1)]) [1, 2] (by decide) rfl) (fun _ h => Or.inl h)).sub (wc := wPT ck A ps' n K V R u) [0, 5, 6, 1, 2, 3, 4] (by decide) rfl)
theorem d_Prt_addWord_0 : decode prog_3_method_8_code 0 = .ok (.iconst 0, 1) := by decide +kernel
theorem d_Prt_addWord_1 : decode prog_3_method_8_code 1 = .ok (.istore_n 2, 1) := by decide +kernel
theorem d_Prt_addWord_2 : decode prog_3_method_8_code 2 = .ok (.iload_n 2, 1) := by decide +kernel
theorem d_Prt_addWord_3 : decode prog_3_method_8_code 3 = .ok (.aload_n 1, 1) := by decide +kernel
theorem d_Prt_addWord_4 : decode prog_3_method_8_code 4 = .ok (.invokevirtual 76, 3) := by decide +kernel
theorem d_Prt_addWord_7 : decode prog_3_method_8_code 7 = .ok (.if_icmp .ge 22, 3) := by decide +kernel
theorem d_Prt_addWord_10 : decode prog_3_method_8_code 10 = .ok (.aload_n 0, 1) := by decide +kernel
theorem d_Prt_addWord_11 : decode prog_3_method_8_code 11 = .ok (.getfield 12, 3) := by decide +kernel
theorem d_Prt_addWord_14 : decode prog_3_method_8_code 14 = .ok (.aload_n 1, 1) := by decide +kernel
theorem d_Prt_addWord_15 : decode prog_3_method_8_code 15 = .ok (.iload_n 2, 1) := by decide +kernel
theorem d_Prt_addWord_16 : decode prog_3_method_8_code 16 = .ok (.invokevirtual 82, 3) := by decide +kernel
theorem d_Prt_addWord_19 : decode prog_3_method_8_code 19 = .ok (.invokevirtual 31, 3) := by decide +kernel
theorem d_Prt_addWord_22 : decode prog_3_method_8_code 22 = .ok (.pop, 1) := by decide +kernel
theorem d_Prt_addWord_23 : decode prog_3_method_8_code 23 = .ok (.iinc 2 1, 3) := by decide +kernel
theorem d_Prt_addWord_26 : decode prog_3_method_8_code 26 = .ok (.goto (-24), 3) := by decide +kernel
theorem d_Prt_addWord_29 : decode prog_3_method_8_code 29 = .ok (.return_, 1) := by decide +kernel
theorem zSb_tk {j k : Nat} (h : k < (zSb j).length) : (zSb j).take (k + 1) = (zSb j).take k ++ [(zSb j).getD k 0] := by
  rw [List.take_succ, List.getElem?_eq_getElem h, List.getD_eq_getElem?_getD, List.getElem?_eq_getElem h]
  rfl
set_option maxHeartbeats 4000000 in
set_option maxRecDepth 100000 in
theorem c_Prt_addWord (hP : zP b0 N f (wPr ck A ps)) (hl : ps.2 ≤ 200) {j : Nat} (hj : j < 16) : zK l D ck ad b0 y_Prt_addWord prog_3_method_8_code 3 (none) 4 0 0 [.ref (A 0), .ref (ad.1 j)] N f (fun r N' f' => r = none ∧ N = N' ∧ zP b0 N f' (wPr ck A (pPut (zSb j) ps)) ∧ zF N f f' [A 1, A 2]) := by
  refine zM.of zG_w (by decide) (Nat.le_of_ble_eq_true rfl) ?_
  intro zp ze zst zm zar zbe zme zc X hnm hb0
  have hF : zF N f f [A 1, A 2] := zF.rf
  have hl9 := (zSb_ok j hj).1
  have L2 : ∀ (nn : Nat) (k : Nat) (f1 : Nat → va_E), (k ≤ (zSb j).length ∧ k + nn = (zSb j).length + 1) → zP b0 N f1 (wPr ck A (pPut ((zSb j).take k) ps)) → zF N f f1 [A 1, A 2] → zW zp l ze (zR 4 0 0) zst zm zar zbe zme zc D zcl b0 3 0 0 (MQ zbe (zQ D zcl b0 (fun r N' f' => r = none ∧ N = N' ∧ zP b0 N f' (wPr ck A (pPut (zSb j) ps)) ∧ zF N f f' [A 1, A 2])) zar zst 0 0 (zA b0)) N f1 2 [(0, .ref (A 0)), (1, .ref (ad.1 j)), (2, .int (nI k))] [] := by
    intro nn
    induction nn with
    | zero =>
      intro k f1 hk hP hF
      omega
    | succ nn ih =>
      intro k f1 hk hP hF
      refine z_iload_n X d_Prt_addWord_2 rfl ?_
      refine z_aload_n X d_Prt_addWord_3 rfl ?_
      refine z_callVK X zG_ok (c_String_length hj) d_Prt_addWord_4 ⟨(z_cb (n := 0) X.2.2.2.2.1 ml_Prt_76 mc_String_length ini_String (by decide +kernel) rfl rfl ⟨Nat.le_of_ble_eq_true rfl, Nat.le_of_ble_eq_true rfl⟩), X.2.2.2.2.1 _ im_String_length, X.2.2.2.2.1 _ sel_String_length⟩ (zG_so X.2.2.2.2.2.1 hj) rfl rfl (Nat.le_of_ble_eq_true rfl) ⟨Nat.le_of_ble_eq_true rfl, Nat.le_of_ble_eq_true rfl⟩ (fun r N1 f1 hp hN1 => ?_)
      obtain ⟨rfl, rfl, rfl⟩ := hp
      refine z_icmp_ge X 29 d_Prt_addWord_7 (by decide) (fun h7 => ?_) (fun h7 => ?_)
      · skip
        have hk2 : k = (zSb j).length := by have := (nI_leI (a := (zSb j).length) (b := k) (by omega) (by omega)).mp h7; omega
        subst hk2
        exact z_vret X d_Prt_addWord_29 ⟨rfl, rfl, by rw [List.take_length] at hP; exact hP, hF⟩
      · skip
        have hk2 : k < (zSb j).length := by
          rcases Nat.lt_or_ge k (zSb j).length with z | z
          · exact z
          · exact absurd (nI_le z (by omega)) h7
        refine z_aload_n X d_Prt_addWord_10 rfl ?_
        refine z_get X d_Prt_addWord_11 (hP.lo 0 rfl) (hP.at 0 rfl) cl_Prt in_Prt 0 (by decide) fl_Prt_12 rfl rfl ?_
        refine z_aload_n X d_Prt_addWord_14 rfl ?_
        refine z_iload_n X d_Prt_addWord_15 rfl ?_
        refine z_callVK X zG_ok (c_String_charAt hj (k := k) hk2) d_Prt_addWord_16 ⟨(z_cb (n := 1) X.2.2.2.2.1 ml_Prt_82 mc_String_charAt ini_String (by decide +kernel) rfl rfl ⟨Nat.le_of_ble_eq_true rfl, Nat.le_of_ble_eq_true rfl⟩), X.2.2.2.2.1 _ im_String_charAt, X.2.2.2.2.1 _ sel_String_charAt⟩ (zG_so X.2.2.2.2.2.1 hj) rfl rfl (Nat.le_of_ble_eq_true rfl) ⟨Nat.le_of_ble_eq_true rfl, Nat.le_of_ble_eq_true rfl⟩ (fun r N1 f1 hp hN1 => ?_)
        obtain ⟨rfl, rfl, rfl⟩ := hp
        refine z_callV X zG_ok (c_Sgn_addT (ps := pPut ((zSb j).take k) ps) (hP.sub [1, 2] (by decide) rfl) (by first | exact hl | exact pPut_len hl | exact pPut_len (pPut_len hl))) d_Prt_addWord_19 ⟨(z_cb (n := 1) X.2.2.2.2.1 ml_Prt_31 mc_Sgn_add ini_Sgn (by decide +kernel) rfl rfl ⟨Nat.le_of_ble_eq_true rfl, Nat.le_of_ble_eq_true rfl⟩), X.2.2.2.2.1 _ im_Sgn_add, X.2.2.2.2.1 _ sel_Sgn_add⟩ (hP.lo 1 rfl) (hP.at 1 rfl) cl_Sgn rfl rfl (Nat.le_of_ble_eq_true rfl) ⟨Nat.le_of_ble_eq_true rfl, Nat.le_of_ble_eq_true rfl⟩ (fun r N1 f1 hp hN1 => ?_)
        obtain ⟨⟨y9, rfl⟩, rfl, hP1, hF1⟩ := hp
        have hP := zP.pra (ck := ck) (ps := pPut ((zSb j).take k) ps) hP hP1 hF1
        have hF := hF.join hF1 (Nat.le_refl _) (fun _ h => Or.inl h)
        refine z_pop X d_Prt_addWord_22 rfl ?_
        refine z_iinc X d_Prt_addWord_23 rfl (nI_1 _) (by decide) rfl ?_
        refine z_goto X 2 d_Prt_addWord_26 (by decide) ?_
        refine ih (k + 1) _ (by omega) ?_ hF
        rw [show pPut ((zSb j).take (k + 1)) ps = pAdd (pPut ((zSb j).take k) ps) ((zSb j).getD k 0) by rw [zSb_tk hk2, pPut_app, pPut_1]]
        exact hP
  refine z_iconst X d_Prt_addWord_0 (v := 0) (by decide) ?_
  refine z_istore_n X d_Prt_addWord_1 (by decide) rfl ?_
  exact L2 ((zSb j).length + 1) 0 f (by omega) hP hF
theorem d_Prt_addNumber_0 : decode prog_3_method_7_code 0 = .ok (.ldc 75, 2) := by decide +kernel
theorem d_Prt_addNumber_2 : decode prog_3_method_7_code 2 = .ok (.istore_n 2, 1) := by decide +kernel
theorem d_Prt_addNumber_3 : decode prog_3_method_7_code 3 = .ok (.iload_n 2, 1) := by decide +kernel
theorem d_Prt_addNumber_4 : decode prog_3_method_7_code 4 = .ok (.ifCond .le 38, 3) := by decide +kernel
theorem d_Prt_addNumber_7 : decode prog_3_method_7_code 7 = .ok (.iload_n 1, 1) := by decide +kernel
theorem d_Prt_addNumber_8 : decode prog_3_method_7_code 8 = .ok (.iload_n 2, 1) := by decide +kernel
theorem d_Prt_addNumber_9 : decode prog_3_method_7_code 9 = .ok (.if_icmp .ge 8, 3) := by decide +kernel
theorem d_Prt_addNumber_12 : decode prog_3_method_7_code 12 = .ok (.iload_n 2, 1) := by decide +kernel
theorem d_Prt_addNumber_13 : decode prog_3_method_7_code 13 = .ok (.iconst 1, 1) := by decide +kernel
theorem d_Prt_addNumber_14 : decode prog_3_method_7_code 14 = .ok (.if_icmp .ne 20, 3) := by decide +kernel
theorem d_Prt_addNumber_17 : decode prog_3_method_7_code 17 = .ok (.aload_n 0, 1) := by decide +kernel
theorem d_Prt_addNumber_18 : decode prog_3_method_7_code 18 = .ok (.getfield 12, 3) := by decide +kernel
theorem d_Prt_addNumber_21 : decode prog_3_method_7_code 21 = .ok (.bipush 48, 2) := by decide +kernel
theorem d_Prt_addNumber_23 : decode prog_3_method_7_code 23 = .ok (.iload_n 1, 1) := by decide +kernel
theorem d_Prt_addNumber_24 : decode prog_3_method_7_code 24 = .ok (.iload_n 2, 1) := by decide +kernel
theorem d_Prt_addNumber_25 : decode prog_3_method_7_code 25 = .ok (.idiv, 1) := by decide +kernel
theorem d_Prt_addNumber_26 : decode prog_3_method_7_code 26 = .ok (.bipush 10, 2) := by decide +kernel
theorem d_Prt_addNumber_28 : decode prog_3_method_7_code 28 = .ok (.irem, 1) := by decide +kernel
theorem d_Prt_addNumber_29 : decode prog_3_method_7_code 29 = .ok (.iadd, 1) := by decide +kernel
theorem d_Prt_addNumber_30 : decode prog_3_method_7_code 30 = .ok (.invokevirtual 31, 3) := by decide +kernel
theorem d_Prt_addNumber_33 : decode prog_3_method_7_code 33 = .ok (.pop, 1) := by decide +kernel
theorem d_Prt_addNumber_34 : decode prog_3_method_7_code 34 = .ok (.iload_n 2, 1) := by decide +kernel
theorem d_Prt_addNumber_35 : decode prog_3_method_7_code 35 = .ok (.bipush 10, 2) := by decide +kernel
theorem d_Prt_addNumber_37 : decode prog_3_method_7_code 37 = .ok (.idiv, 1) := by decide +kernel
theorem d_Prt_addNumber_38 : decode prog_3_method_7_code 38 = .ok (.istore_n 2, 1) := by decide +kernel
theorem d_Prt_addNumber_39 : decode prog_3_method_7_code 39 = .ok (.goto (-36), 3) := by decide +kernel
theorem d_Prt_addNumber_42 : decode prog_3_method_7_code 42 = .ok (.return_, 1) := by decide +kernel
set_option maxHeartbeats 4000000 in
set_option maxRecDepth 100000 in
theorem c_Prt_addNumber (hP : zP b0 N f (wPr ck A ps)) (hl : ps.2 ≤ 200) {v : Int32} : zK l D ck ad b0 y_Prt_addNumber prog_3_method_7_code 3 (none) 1 0 0 [.ref (A 0), .int v] N f (fun r N' f' => r = none ∧ N = N' ∧ zP b0 N f' (wPr ck A (pPut (pNum v) ps)) ∧ zF N f f' [A 1, A 2]) := by
  refine zM.of zG_w (by decide) (Nat.le_of_ble_eq_true rfl) ?_
  intro zp ze zst zm zar zbe zme zc X hnm hb0
  have hF : zF N f f [A 1, A 2] := zF.rf
  have L3 : ∀ (nn : Nat) (t : Nat) (f1 : Nat → va_E), (t ≤ 7 ∧ t + nn = 8) → zP b0 N f1 (wPr ck A (pPut (pNumT v t) ps)) → zF N f f1 [A 1, A 2] → zW zp l ze (zR 1 0 0) zst zm zar zbe zme zc D zcl b0 3 0 0 (MQ zbe (zQ D zcl b0 (fun r N' f' => r = none ∧ N = N' ∧ zP b0 N f' (wPr ck A (pPut (pNum v) ps)) ∧ zF N f f' [A 1, A 2])) zar zst 0 0 (zA b0)) N f1 3 [(0, .ref (A 0)), (1, .int v), (2, .int (uN t))] [] := by
    intro nn
    induction nn with
    | zero =>
      intro t f1 ht hP hF
      omega
    | succ nn ih =>
      intro t f1 ht hP hF
      refine z_iload_n X d_Prt_addNumber_3 rfl ?_
      refine z_if_le X 42 d_Prt_addNumber_4 (by decide) (fun h4 => ?_) (fun h4 => ?_)
      · skip
        have ht2 : t = 7 := by
          rcases Nat.lt_or_ge t 7 with z | z
          · exact absurd h4 (uN_p t z).1
          · omega
        subst ht2
        exact z_vret X d_Prt_addNumber_42 ⟨rfl, rfl, hP, hF⟩
      · skip
        have ht2 : t < 7 := by
          rcases Nat.lt_or_ge t 7 with z | z
          · exact z
          · rw [show t = 7 by omega] at h4; exact absurd (by decide) h4
        refine z_iload_n X d_Prt_addNumber_7 rfl ?_
        refine z_iload_n X d_Prt_addNumber_8 rfl ?_
        refine z_icmp_ge X 17 d_Prt_addNumber_9 (by decide) (fun h9 => ?_) (fun h9 => ?_)
        · skip
          have hE : pNumT v (t + 1) = pNumT v t ++ [48 + (v / uN t - v / uN t / 10 * 10)] := by rw [pNumT, if_pos (Or.inl h9)]
          refine z_aload_n X d_Prt_addNumber_17 rfl ?_
          refine z_get X d_Prt_addNumber_18 (hP.lo 0 rfl) (hP.at 0 rfl) cl_Prt in_Prt 0 (by decide) fl_Prt_12 rfl rfl ?_
          refine z_bipush X d_Prt_addNumber_21 (v := 48) (by decide) ?_
          refine z_iload_n X d_Prt_addNumber_23 rfl ?_
          refine z_iload_n X d_Prt_addNumber_24 rfl ?_
          refine z_idiv X d_Prt_addNumber_25 (uN_p t ht2).2.1 ?_
          refine z_bipush X d_Prt_addNumber_26 (v := 10) (by decide) ?_
          refine z_irem X d_Prt_addNumber_28 (by decide) ?_
          refine z_iadd X d_Prt_addNumber_29 ?_
          refine z_callV X zG_ok (c_Sgn_addT (ps := pPut (pNumT v t) ps) (hP.sub [1, 2] (by decide) rfl) (by first | exact hl | exact pPut_len hl | exact pPut_len (pPut_len hl))) d_Prt_addNumber_30 ⟨(z_cb (n := 1) X.2.2.2.2.1 ml_Prt_31 mc_Sgn_add ini_Sgn (by decide +kernel) rfl rfl ⟨Nat.le_of_ble_eq_true rfl, Nat.le_of_ble_eq_true rfl⟩), X.2.2.2.2.1 _ im_Sgn_add, X.2.2.2.2.1 _ sel_Sgn_add⟩ (hP.lo 1 rfl) (hP.at 1 rfl) cl_Sgn rfl rfl (Nat.le_of_ble_eq_true rfl) ⟨Nat.le_of_ble_eq_true rfl, Nat.le_of_ble_eq_true rfl⟩ (fun r N1 f1 hp hN1 => ?_)
          obtain ⟨⟨y9, rfl⟩, rfl, hP1, hF1⟩ := hp
          have hP := zP.pra (ck := ck) (ps := pPut (pNumT v t) ps) hP hP1 hF1
          have hF := hF.join hF1 (Nat.le_refl _) (fun _ h => Or.inl h)
          refine z_pop X d_Prt_addNumber_33 rfl ?_
          refine z_iload_n X d_Prt_addNumber_34 rfl ?_
          refine z_bipush X d_Prt_addNumber_35 (v := 10) (by decide) ?_
          refine z_idiv X d_Prt_addNumber_37 (by decide) ?_
          refine z_istore_n X d_Prt_addNumber_38 (by decide) rfl ?_
          refine z_goto X 3 d_Prt_addNumber_39 (by decide) ?_
          refine zW.pick [0, 1, 2] (lv' := [(0, .ref (A 0)), (1, .int v), (2, .int (uN (t + 1)))]) (by rw [← (uN_p t ht2).2.2]; rfl) ?_
          refine ih (t + 1) _ (by omega) ?_ hF
          rw [hE]
          first | exact hP | (rw [pPut_app, pPut_1]; exact hP)
        · skip
          refine z_iload_n X d_Prt_addNumber_12 rfl ?_
          refine z_iconst X d_Prt_addNumber_13 (v := 1) (by decide) ?_
          refine z_icmp_ne X 34 d_Prt_addNumber_14 (by decide) (fun h14 => ?_) (fun h14 => ?_)
          · skip
            have hE : pNumT v (t + 1) = pNumT v t := by rw [pNumT, if_neg (fun z => z.elim h9 h14), List.append_nil]
            refine z_iload_n X d_Prt_addNumber_34 rfl ?_
            refine z_bipush X d_Prt_addNumber_35 (v := 10) (by decide) ?_
            refine z_idiv X d_Prt_addNumber_37 (by decide) ?_
            refine z_istore_n X d_Prt_addNumber_38 (by decide) rfl ?_
            refine z_goto X 3 d_Prt_addNumber_39 (by decide) ?_
            refine zW.pick [0, 1, 2] (lv' := [(0, .ref (A 0)), (1, .int v), (2, .int (uN (t + 1)))]) (by rw [← (uN_p t ht2).2.2]; rfl) ?_
            refine ih (t + 1) _ (by omega) ?_ hF
            rw [hE]
            first | exact hP | (rw [pPut_app, pPut_1]; exact hP)
          · skip
            have hE : pNumT v (t + 1) = pNumT v t ++ [48 + (v / uN t - v / uN t / 10 * 10)] := by rw [pNumT, if_pos (Or.inr h14)]
            refine z_aload_n X d_Prt_addNumber_17 rfl ?_
            refine z_get X d_Prt_addNumber_18 (hP.lo 0 rfl) (hP.at 0 rfl) cl_Prt in_Prt 0 (by decide) fl_Prt_12 rfl rfl ?_
            refine z_bipush X d_Prt_addNumber_21 (v := 48) (by decide) ?_
            refine z_iload_n X d_Prt_addNumber_23 rfl ?_
            refine z_iload_n X d_Prt_addNumber_24 rfl ?_
            refine z_idiv X d_Prt_addNumber_25 (uN_p t ht2).2.1 ?_
            refine z_bipush X d_Prt_addNumber_26 (v := 10) (by decide) ?_
            refine z_irem X d_Prt_addNumber_28 (by decide) ?_
            refine z_iadd X d_Prt_addNumber_29 ?_
            refine z_callV X zG_ok (c_Sgn_addT (ps := pPut (pNumT v t) ps) (hP.sub [1, 2] (by decide) rfl) (by first | exact hl | exact pPut_len hl | exact pPut_len (pPut_len hl))) d_Prt_addNumber_30 ⟨(z_cb (n := 1) X.2.2.2.2.1 ml_Prt_31 mc_Sgn_add ini_Sgn (by decide +kernel) rfl rfl ⟨Nat.le_of_ble_eq_true rfl, Nat.le_of_ble_eq_true rfl⟩), X.2.2.2.2.1 _ im_Sgn_add, X.2.2.2.2.1 _ sel_Sgn_add⟩ (hP.lo 1 rfl) (hP.at 1 rfl) cl_Sgn rfl rfl (Nat.le_of_ble_eq_true rfl) ⟨Nat.le_of_ble_eq_true rfl, Nat.le_of_ble_eq_true rfl⟩ (fun r N1 f1 hp hN1 => ?_)
            obtain ⟨⟨y9, rfl⟩, rfl, hP1, hF1⟩ := hp
            have hP := zP.pra (ck := ck) (ps := pPut (pNumT v t) ps) hP hP1 hF1
            have hF := hF.join hF1 (Nat.le_refl _) (fun _ h => Or.inl h)
            refine z_pop X d_Prt_addNumber_33 rfl ?_
            refine z_iload_n X d_Prt_addNumber_34 rfl ?_
            refine z_bipush X d_Prt_addNumber_35 (v := 10) (by decide) ?_
            refine z_idiv X d_Prt_addNumber_37 (by decide) ?_
            refine z_istore_n X d_Prt_addNumber_38 (by decide) rfl ?_
            refine z_goto X 3 d_Prt_addNumber_39 (by decide) ?_
            refine zW.pick [0, 1, 2] (lv' := [(0, .ref (A 0)), (1, .int v), (2, .int (uN (t + 1)))]) (by rw [← (uN_p t ht2).2.2]; rfl) ?_
            refine ih (t + 1) _ (by omega) ?_ hF
            rw [hE]
            first | exact hP | (rw [pPut_app, pPut_1]; exact hP)
  refine z_ldc X d_Prt_addNumber_0 k_Prt_75 ?_
  refine z_istore_n X d_Prt_addNumber_2 (by decide) rfl ?_
  exact L3 8 0 f (by omega) hP hF
theorem d_Prt_addSignOf_0 : decode prog_3_method_9_code 0 = .ok (.iload_n 1, 1) := by decide +kernel
theorem d_Prt_addSignOf_1 : decode prog_3_method_9_code 1 = .ok (.ifCond .lt 26, 3) := by decide +kernel
theorem d_Prt_addSignOf_4 : decode prog_3_method_9_code 4 = .ok (.iload_n 1, 1) := by decide +kernel
theorem d_Prt_addSignOf_5 : decode prog_3_method_9_code 5 = .ok (.ldc 86, 2) := by decide +kernel
theorem d_Prt_addSignOf_7 : decode prog_3_method_9_code 7 = .ok (.invokevirtual 76, 3) := by decide +kernel
theorem d_Prt_addSignOf_10 : decode prog_3_method_9_code 10 = .ok (.if_icmp .ge 17, 3) := by decide +kernel
theorem d_Prt_addSignOf_13 : decode prog_3_method_9_code 13 = .ok (.aload_n 0, 1) := by decide +kernel
theorem d_Prt_addSignOf_14 : decode prog_3_method_9_code 14 = .ok (.getfield 12, 3) := by decide +kernel
theorem d_Prt_addSignOf_17 : decode prog_3_method_9_code 17 = .ok (.ldc 86, 2) := by decide +kernel
theorem d_Prt_addSignOf_19 : decode prog_3_method_9_code 19 = .ok (.iload_n 1, 1) := by decide +kernel
theorem d_Prt_addSignOf_20 : decode prog_3_method_9_code 20 = .ok (.invokevirtual 82, 3) := by decide +kernel
theorem d_Prt_addSignOf_23 : decode prog_3_method_9_code 23 = .ok (.invokevirtual 31, 3) := by decide +kernel
theorem d_Prt_addSignOf_26 : decode prog_3_method_9_code 26 = .ok (.pop, 1) := by decide +kernel
theorem d_Prt_addSignOf_27 : decode prog_3_method_9_code 27 = .ok (.return_, 1) := by decide +kernel
set_option maxHeartbeats 4000000 in
set_option maxRecDepth 100000 in
theorem c_Prt_addSignOf (hP : zP b0 N f (wPr ck A ps)) (hl : ps.2 ≤ 200) {kd : Int32} : zK l D ck ad b0 y_Prt_addSignOf prog_3_method_9_code 2 (none) 4 0 0 [.ref (A 0), .int kd] N f (fun r N' f' => r = none ∧ N = N' ∧ zP b0 N f' (wPr ck A (pPut (pSig kd) ps)) ∧ zF N f f' [A 1, A 2]) := by
  refine zM.of zG_w (by decide) (Nat.le_of_ble_eq_true rfl) ?_
  intro zp ze zst zm zar zbe zme zc X hnm hb0
  have hF : zF N f f [A 1, A 2] := zF.rf
  refine z_iload_n X d_Prt_addSignOf_0 rfl ?_
  refine z_if_lt X 27 d_Prt_addSignOf_1 (by decide) (fun h1 => ?_) (fun h1 => ?_)
  · skip
    have e9 : pSig kd = [] := by rw [pSig, if_pos h1]
    exact z_vret X d_Prt_addSignOf_27 ⟨rfl, rfl, by rw [e9]; exact hP, hF⟩
  · skip
    refine z_iload_n X d_Prt_addSignOf_4 rfl ?_
    refine z_ldcS X d_Prt_addSignOf_5 (zG_sr (j := 14) X.2.2.2.2.2.1 (by decide)) ?_
    refine z_callVK X zG_ok (c_String_length (j := 14) (by decide)) d_Prt_addSignOf_7 ⟨(z_cb (n := 0) X.2.2.2.2.1 ml_Prt_76 mc_String_length ini_String (by decide +kernel) rfl rfl ⟨Nat.le_of_ble_eq_true rfl, Nat.le_of_ble_eq_true rfl⟩), X.2.2.2.2.1 _ im_String_length, X.2.2.2.2.1 _ sel_String_length⟩ (zG_so (j := 14) X.2.2.2.2.2.1 (by decide)) rfl rfl (Nat.le_of_ble_eq_true rfl) ⟨Nat.le_of_ble_eq_true rfl, Nat.le_of_ble_eq_true rfl⟩ (fun r N1 f1 hp hN1 => ?_)
    obtain ⟨rfl, rfl, rfl⟩ := hp
    refine z_icmp_ge X 27 d_Prt_addSignOf_10 (by decide) (fun h10 => ?_) (fun h10 => ?_)
    · skip
      have h10 : 11 ≤ kd := h10
      have e9 : pSig kd = [] := by rw [pSig, if_neg h1, if_pos h10]
      exact z_vret X d_Prt_addSignOf_27 ⟨rfl, rfl, by rw [e9]; exact hP, hF⟩
    · skip
      have h10 : ¬ 11 ≤ kd := h10
      have e9 : pSig kd = [(zSb 14).getD kd.toNatClampNeg 0] := by rw [pSig, if_neg h1, if_neg h10]
      obtain ⟨k9, hk8, rfl⟩ := nI_of h1
      have hk9 : k9 < (zSb 14).length := by
        rcases Nat.lt_or_ge k9 11 with z | z
        · exact z
        · exact absurd (nI_le (a := 11) z hk8) h10
      rw [nI_clamp hk8] at e9
      refine z_aload_n X d_Prt_addSignOf_13 rfl ?_
      refine z_get X d_Prt_addSignOf_14 (hP.lo 0 rfl) (hP.at 0 rfl) cl_Prt in_Prt 0 (by decide) fl_Prt_12 rfl rfl ?_
      refine z_ldcS X d_Prt_addSignOf_17 (zG_sr (j := 14) X.2.2.2.2.2.1 (by decide)) ?_
      refine z_iload_n X d_Prt_addSignOf_19 rfl ?_
      refine z_callVK X zG_ok (c_String_charAt (j := 14) (by decide) (k := k9) hk9) d_Prt_addSignOf_20 ⟨(z_cb (n := 1) X.2.2.2.2.1 ml_Prt_82 mc_String_charAt ini_String (by decide +kernel) rfl rfl ⟨Nat.le_of_ble_eq_true rfl, Nat.le_of_ble_eq_true rfl⟩), X.2.2.2.2.1 _ im_String_charAt, X.2.2.2.2.1 _ sel_String_charAt⟩ (zG_so (j := 14) X.2.2.2.2.2.1 (by decide)) rfl rfl (Nat.le_of_ble_eq_true rfl) ⟨Nat.le_of_ble_eq_true rfl, Nat.le_of_ble_eq_true rfl⟩ (fun r N1 f1 hp hN1 => ?_)
      obtain ⟨rfl, rfl, rfl⟩ := hp
      refine z_callV X zG_ok (c_Sgn_addT (ps := ps) (hP.sub [1, 2] (by decide) rfl) (by first | exact hl | exact pPut_len hl | exact pPut_len (pPut_len hl))) d_Prt_addSignOf_23 ⟨(z_cb (n := 1) X.2.2.2.2.1 ml_Prt_31 mc_Sgn_add ini_Sgn (by decide +kernel) rfl rfl ⟨Nat.le_of_ble_eq_true rfl, Nat.le_of_ble_eq_true rfl⟩), X.2.2.2.2.1 _ im_Sgn_add, X.2.2.2.2.1 _ sel_Sgn_add⟩ (hP.lo 1 rfl) (hP.at 1 rfl) cl_Sgn rfl rfl (Nat.le_of_ble_eq_true rfl) ⟨Nat.le_of_ble_eq_true rfl, Nat.le_of_ble_eq_true rfl⟩ (fun r N1 f1 hp hN1 => ?_)
      obtain ⟨⟨y9, rfl⟩, rfl, hP1, hF1⟩ := hp
      have hP := zP.pra (ck := ck) (ps := ps) hP hP1 hF1
      have hF := hF.join hF1 (Nat.le_refl _) (fun _ h => Or.inl h)
      refine z_pop X d_Prt_addSignOf_26 rfl ?_
      exact z_vret X d_Prt_addSignOf_27 ⟨rfl, rfl, by rw [e9]; exact hP, hF⟩
theorem d_Prt_needsBrackets_0 : decode prog_3_method_5_code 0 = .ok (.iload_n 0, 1) := by decide +kernel
theorem d_Prt_needsBrackets_1 : decode prog_3_method_5_code 1 = .ok (.tableswitch 75 0 2 #[61, 42, 27], 27) := by decide +kernel
theorem d_Prt_needsBrackets_28 : decode prog_3_method_5_code 28 = .ok (.iload_n 1, 1) := by decide +kernel
theorem d_Prt_needsBrackets_29 : decode prog_3_method_5_code 29 = .ok (.ifCond .eq 8, 3) := by decide +kernel
theorem d_Prt_needsBrackets_32 : decode prog_3_method_5_code 32 = .ok (.iload_n 1, 1) := by decide +kernel
theorem d_Prt_needsBrackets_33 : decode prog_3_method_5_code 33 = .ok (.iconst 1, 1) := by decide +kernel
theorem d_Prt_needsBrackets_34 : decode prog_3_method_5_code 34 = .ok (.if_icmp .ne 7, 3) := by decide +kernel
theorem d_Prt_needsBrackets_37 : decode prog_3_method_5_code 37 = .ok (.iconst 1, 1) := by decide +kernel
theorem d_Prt_needsBrackets_38 : decode prog_3_method_5_code 38 = .ok (.goto 4, 3) := by decide +kernel
theorem d_Prt_needsBrackets_41 : decode prog_3_method_5_code 41 = .ok (.iconst 0, 1) := by decide +kernel
theorem d_Prt_needsBrackets_42 : decode prog_3_method_5_code 42 = .ok (.ireturn, 1) := by decide +kernel
theorem d_Prt_needsBrackets_43 : decode prog_3_method_5_code 43 = .ok (.iload_n 1, 1) := by decide +kernel
theorem d_Prt_needsBrackets_44 : decode prog_3_method_5_code 44 = .ok (.ifCond .eq 12, 3) := by decide +kernel
theorem d_Prt_needsBrackets_47 : decode prog_3_method_5_code 47 = .ok (.iload_n 1, 1) := by decide +kernel
theorem d_Prt_needsBrackets_48 : decode prog_3_method_5_code 48 = .ok (.iconst 1, 1) := by decide +kernel
theorem d_Prt_needsBrackets_49 : decode prog_3_method_5_code 49 = .ok (.if_icmp .ne 11, 3) := by decide +kernel
theorem d_Prt_needsBrackets_52 : decode prog_3_method_5_code 52 = .ok (.iload_n 2, 1) := by decide +kernel
theorem d_Prt_needsBrackets_53 : decode prog_3_method_5_code 53 = .ok (.ifCond .eq 7, 3) := by decide +kernel
theorem d_Prt_needsBrackets_56 : decode prog_3_method_5_code 56 = .ok (.iconst 1, 1) := by decide +kernel
theorem d_Prt_needsBrackets_57 : decode prog_3_method_5_code 57 = .ok (.goto 4, 3) := by decide +kernel
theorem d_Prt_needsBrackets_60 : decode prog_3_method_5_code 60 = .ok (.iconst 0, 1) := by decide +kernel
theorem d_Prt_needsBrackets_61 : decode prog_3_method_5_code 61 = .ok (.ireturn, 1) := by decide +kernel
theorem d_Prt_needsBrackets_62 : decode prog_3_method_5_code 62 = .ok (.iload_n 1, 1) := by decide +kernel
theorem d_Prt_needsBrackets_63 : decode prog_3_method_5_code 63 = .ok (.ifCond .ne 11, 3) := by decide +kernel
theorem d_Prt_needsBrackets_66 : decode prog_3_method_5_code 66 = .ok (.iload_n 2, 1) := by decide +kernel
theorem d_Prt_needsBrackets_67 : decode prog_3_method_5_code 67 = .ok (.ifCond .eq 7, 3) := by decide +kernel
theorem d_Prt_needsBrackets_70 : decode prog_3_method_5_code 70 = .ok (.iconst 1, 1) := by decide +kernel
theorem d_Prt_needsBrackets_71 : decode prog_3_method_5_code 71 = .ok (.goto 4, 3) := by decide +kernel
theorem d_Prt_needsBrackets_74 : decode prog_3_method_5_code 74 = .ok (.iconst 0, 1) := by decide +kernel
theorem d_Prt_needsBrackets_75 : decode prog_3_method_5_code 75 = .ok (.ireturn, 1) := by decide +kernel
theorem d_Prt_needsBrackets_76 : decode prog_3_method_5_code 76 = .ok (.iconst 0, 1) := by decide +kernel
theorem d_Prt_needsBrackets_77 : decode prog_3_method_5_code 77 = .ok (.ireturn, 1) := by decide +kernel
set_option maxHeartbeats 4000000 in
set_option maxRecDepth 100000 in
theorem c_Prt_needsBrackets {kd b : Int32} {bb : Bool} : zK l D ck ad b0 y_Prt_needsBrackets prog_3_method_5_code 3 ((some FieldType.boolean)) 0 0 0 [.int kd, .int b, .int (zb bb)] N f (fun r N' f' => r = some (.int (zb (pBr kd b bb))) ∧ N = N' ∧ f = f') := by
  refine zM.of zG_w (by decide) (Nat.le_of_ble_eq_true rfl) ?_
  intro zp ze zst zm zar zbe zme zc X hnm hb0
  refine z_iload_n X d_Prt_needsBrackets_0 rfl ?_
  refine z_tableL X 76 [62, 43, 28] d_Prt_needsBrackets_1 (by decide) (by decide) (by decide) (fun i hi hx => ?_) (fun hd => ?_) (by decide)
  · match i, hi, hx with
    | 0, _, hx =>
      have g1 : _ = (0 : Int32) := hx
      have g1 : kd = 0 := g1
      subst g1
      refine zW.topc (pc' := 62) rfl ?_
      refine z_iload_n X d_Prt_needsBrackets_62 rfl ?_
      refine z_if_ne X 74 d_Prt_needsBrackets_63 (by decide) (fun h63 => ?_) (fun h63 => ?_)
      · skip
        refine z_iconst X d_Prt_needsBrackets_74 (v := 0) (by decide) ?_
        exact z_zret X d_Prt_needsBrackets_75 rfl ⟨by first | (rw [h63, g5]; rfl) | (simp [pBr, h63]; rfl), rfl, rfl⟩
      · skip
        refine z_iload_n X d_Prt_needsBrackets_66 rfl ?_
        refine z_if_eq X 74 d_Prt_needsBrackets_67 (by decide) (fun h67 => ?_) (fun h67 => ?_)
        · skip
          have g5 : bb = false := zb_0.mp h67
          refine z_iconst X d_Prt_needsBrackets_74 (v := 0) (by decide) ?_
          exact z_zret X d_Prt_needsBrackets_75 rfl ⟨by first | (rw [h63, g5]; rfl) | (simp [pBr, h63]; rfl), rfl, rfl⟩
        · skip
          have g5 : bb = true := by
            cases bb
            · exact absurd rfl h67
            · rfl
          refine z_iconst X d_Prt_needsBrackets_70 (v := 1) (by decide) ?_
          refine z_goto X 75 d_Prt_needsBrackets_71 (by decide) ?_
          exact z_zret X d_Prt_needsBrackets_75 rfl ⟨by first | (rw [h63, g5]; rfl) | (simp [pBr, h63]; rfl), rfl, rfl⟩
    | 1, _, hx =>
      have g1 : _ = (1 : Int32) := hx
      have g1 : kd = 1 := g1
      subst g1
      refine zW.topc (pc' := 43) rfl ?_
      refine z_iload_n X d_Prt_needsBrackets_43 rfl ?_
      refine z_if_eq X 56 d_Prt_needsBrackets_44 (by decide) (fun h44 => ?_) (fun h44 => ?_)
      · skip
        refine z_iconst X d_Prt_needsBrackets_56 (v := 1) (by decide) ?_
        refine z_goto X 61 d_Prt_needsBrackets_57 (by decide) ?_
        exact z_zret X d_Prt_needsBrackets_61 rfl ⟨by first | (rw [h44]; rfl) | (rw [h49, g5]; rfl) | (simp [pBr, h44, h49]; rfl), rfl, rfl⟩
      · skip
        refine z_iload_n X d_Prt_needsBrackets_47 rfl ?_
        refine z_iconst X d_Prt_needsBrackets_48 (v := 1) (by decide) ?_
        refine z_icmp_ne X 60 d_Prt_needsBrackets_49 (by decide) (fun h49 => ?_) (fun h49 => ?_)
        · skip
          refine z_iconst X d_Prt_needsBrackets_60 (v := 0) (by decide) ?_
          exact z_zret X d_Prt_needsBrackets_61 rfl ⟨by first | (rw [h44]; rfl) | (rw [h49, g5]; rfl) | (simp [pBr, h44, h49]; rfl), rfl, rfl⟩
        · skip
          refine z_iload_n X d_Prt_needsBrackets_52 rfl ?_
          refine z_if_eq X 60 d_Prt_needsBrackets_53 (by decide) (fun h53 => ?_) (fun h53 => ?_)
          · skip
            have g5 : bb = false := zb_0.mp h53
            refine z_iconst X d_Prt_needsBrackets_60 (v := 0) (by decide) ?_
            exact z_zret X d_Prt_needsBrackets_61 rfl ⟨by first | (rw [h44]; rfl) | (rw [h49, g5]; rfl) | (simp [pBr, h44, h49]; rfl), rfl, rfl⟩
          · skip
            have g5 : bb = true := by
              cases bb
              · exact absurd rfl h53
              · rfl
            refine z_iconst X d_Prt_needsBrackets_56 (v := 1) (by decide) ?_
            refine z_goto X 61 d_Prt_needsBrackets_57 (by decide) ?_
            exact z_zret X d_Prt_needsBrackets_61 rfl ⟨by first | (rw [h44]; rfl) | (rw [h49, g5]; rfl) | (simp [pBr, h44, h49]; rfl), rfl, rfl⟩
    | 2, _, hx =>
      have g1 : _ = (2 : Int32) := hx
      have g1 : kd = 2 := g1
      subst g1
      refine zW.topc (pc' := 28) rfl ?_
      refine z_iload_n X d_Prt_needsBrackets_28 rfl ?_
      refine z_if_eq X 37 d_Prt_needsBrackets_29 (by decide) (fun h29 => ?_) (fun h29 => ?_)
      · skip
        refine z_iconst X d_Prt_needsBrackets_37 (v := 1) (by decide) ?_
        refine z_goto X 42 d_Prt_needsBrackets_38 (by decide) ?_
        exact z_zret X d_Prt_needsBrackets_42 rfl ⟨by first | (rw [h29]; rfl) | (rw [h34]; rfl) | (simp [pBr, h29, h34]; rfl), rfl, rfl⟩
      · skip
        refine z_iload_n X d_Prt_needsBrackets_32 rfl ?_
        refine z_iconst X d_Prt_needsBrackets_33 (v := 1) (by decide) ?_
        refine z_icmp_ne X 41 d_Prt_needsBrackets_34 (by decide) (fun h34 => ?_) (fun h34 => ?_)
        · skip
          refine z_iconst X d_Prt_needsBrackets_41 (v := 0) (by decide) ?_
          exact z_zret X d_Prt_needsBrackets_42 rfl ⟨by first | (rw [h29]; rfl) | (rw [h34]; rfl) | (simp [pBr, h29, h34]; rfl), rfl, rfl⟩
        · skip
          refine z_iconst X d_Prt_needsBrackets_37 (v := 1) (by decide) ?_
          refine z_goto X 42 d_Prt_needsBrackets_38 (by decide) ?_
          exact z_zret X d_Prt_needsBrackets_42 rfl ⟨by first | (rw [h29]; rfl) | (rw [h34]; rfl) | (simp [pBr, h29, h34]; rfl), rfl, rfl⟩
    | j + 3, hi, _ => exact absurd hi (by simp)
  · skip
    have g1_0 : ¬ _ = (0 : Int32) := hd 0 (by decide)
    have g1_1 : ¬ _ = (1 : Int32) := hd 1 (by decide)
    have g1_2 : ¬ _ = (2 : Int32) := hd 2 (by decide)
    refine z_iconst X d_Prt_needsBrackets_76 (v := 0) (by decide) ?_
    exact z_zret X d_Prt_needsBrackets_77 rfl ⟨by rw [pBr, if_neg g1_2, if_neg g1_1, if_neg g1_0]; rfl, rfl, rfl⟩
end
