/-! the class's words -/
section TOKW
variable {g : Nat → Int32} {len p' e : Nat} {Q : Nat → Int32}
theorem zwk_s {k : Nat} (hl : len ≤ 200) (h : p' + k < len) : sgv g len (nI p' + nI k) = g (p' + k) := by
  rw [nI_add, sgv_p (by omega) (by omega), if_pos h]
theorem zwd_d (hl : len ≤ 200) (h1 : p' < e) (h2 : e ≤ len) (q1 : Q 10 = nI e) (q2 : Q 12 = nI p') (j : Nat) (hj : (zSb j).length < 100) : zwd g len Q j = (decide (e - p' = (zSb j).length) && zwk g len (nI p') (zSb j) (zSb j).length) := by
  rw [zwd, q1, q2, nI_subN (by omega)]
  congr 1
  exact decide_eq_decide.mpr (nI_eq (by omega) (by omega))
theorem zw1 (hl : len ≤ 200) (h1 : p' < e) (h2 : e ≤ len) (q1 : Q 10 = nI e) (q2 : Q 12 = nI p') : zwd g len Q 1 = decide (e - p' = 1 ∧ g p' = 102) := by
  rw [zwd_d hl h1 h2 q1 q2 1 (by decide)]
  show (decide (e - p' = 1) && (true && decide (sgv g len (nI p' + nI 0) = 102))) = _
  rw [zwk_s hl (by omega), Nat.add_zero]
  by_cases a : e - p' = 1 <;> simp [a]
theorem zw3 (hl : len ≤ 200) (h1 : p' < e) (h2 : e ≤ len) (q1 : Q 10 = nI e) (q2 : Q 12 = nI p') (j : Nat) (x y z : Int32) (hj : zSb j = [x, y, z]) : zwd g len Q j = decide (e - p' = 3 ∧ g p' = x ∧ g (p' + 1) = y ∧ g (p' + 2) = z) := by
  rw [zwd_d hl h1 h2 q1 q2 j (by rw [hj]; simp), hj]
  by_cases a : e - p' = 3
  · show (decide (e - p' = 3) && (((true && decide (sgv g len (nI p' + nI 0) = x)) && decide (sgv g len (nI p' + nI 1) = y)) && decide (sgv g len (nI p' + nI 2) = z))) = _
    rw [zwk_s hl (by omega), zwk_s hl (by omega), zwk_s hl (by omega), Nat.add_zero]
    by_cases c1 : g p' = x <;> by_cases c2 : g (p' + 1) = y <;> by_cases c3 : g (p' + 2) = z <;> simp [a, c1, c2, c3]
  · have : decide (e - p' = [x, y, z].length) = false := decide_eq_false a
    rw [this, Bool.false_and, decide_eq_false (fun z => a z.1)]
theorem zw5 (hl : len ≤ 200) (h1 : p' < e) (h2 : e ≤ len) (q1 : Q 10 = nI e) (q2 : Q 12 = nI p') : zwd g len Q 5 = decide (e - p' = 5 ∧ g p' = 99 ∧ g (p' + 1) = 111 ∧ g (p' + 2) = 117 ∧ g (p' + 3) = 110 ∧ g (p' + 4) = 116) := by
  rw [zwd_d hl h1 h2 q1 q2 5 (by decide)]
  by_cases a : e - p' = 5
  · show (decide (e - p' = 5) && (((((true && decide (sgv g len (nI p' + nI 0) = 99)) && decide (sgv g len (nI p' + nI 1) = 111)) && decide (sgv g len (nI p' + nI 2) = 117)) && decide (sgv g len (nI p' + nI 3) = 110)) && decide (sgv g len (nI p' + nI 4) = 116))) = _
    rw [zwk_s hl (by omega), zwk_s hl (by omega), zwk_s hl (by omega), zwk_s hl (by omega), zwk_s hl (by omega), Nat.add_zero]
    by_cases c1 : g p' = 99 <;> by_cases c2 : g (p' + 1) = 111 <;> by_cases c3 : g (p' + 2) = 117 <;> by_cases c4 : g (p' + 3) = 110 <;> simp [a, c1, c2, c3, c4]
  · have : decide (e - p' = (zSb 5).length) = false := decide_eq_false a
    rw [this, Bool.false_and, decide_eq_false (fun z => a z.1)]
/-- the token that a word is, f aside -/
def wtk (w : Int32) : Int32 := if w = 4 then 4 else if w = 5 then 5 else if w = 2 then 6 else if w = 3 then 7 else 1
/-- the field's number behind f at e: whether it is one -/
abbrev fE (g : Nat → Int32) (len e : Nat) : Nat := skp zdig g len 200 e
def fOk (g : Nat → Int32) (len e : Nat) : Bool := decide (1 ≤ fE g len e - e) && (decide (fE g len e - e ≤ 2) && !decide (20 ≤ dgv g e (min (fE g len e - e) 2)))
theorem fOk_iff : fOk g len e = true ↔ (1 ≤ fE g len e - e ∧ fE g len e - e ≤ 2 ∧ ¬ 20 ≤ dgv g e (min (fE g len e - e) 2)) := by
  rw [fOk, Bool.and_eq_true, Bool.and_eq_true, Bool.not_eq_true', decide_eq_true_eq, decide_eq_true_eq, decide_eq_false_iff_not]
end TOKW
theorem zWord_eq {g : Nat → Int32} {len p' : Nat} {q : Nat → Int32} (hl : len ≤ 200) (hp : p' < len) (q1 : q 10 = nI p') (q2 : q 12 = nI p') (hlt : zlet (g p') = true) :
    zWord g len q = if wcd g p' (skp zlet g len 200 p' - p') = 1 then ((if fOk g len (skp zlet g len 200 p') = true then 3 else 1), upd (upd (upd q 10 (nI (skp zlet g len 200 p'))) 13 (dgv g (skp zlet g len 200 p') (min (fE g len (skp zlet g len 200 p') - skp zlet g len 200 p') 2))) 10 (nI (fE g len (skp zlet g len 200 p')))) else (wtk (wcd g p' (skp zlet g len 200 p' - p')), upd q 10 (nI (skp zlet g len 200 p'))) := by
  have h1 : p' < skp zlet g len 200 p' := by
    rw [skp, if_pos ⟨hp, hlt⟩]
    have := skp_ge (P := zlet) (g := g) (len := len) 199 (p' + 1)
    omega
  have h2 : skp zlet g len 200 p' ≤ len := skp_le 200 _ (by omega)
  generalize hE : skp zlet g len 200 p' = E at h1 h2
  have e0 : zsk zlet g len 200 (q 10) = nI E := by rw [q1, zsk_nI (by decide) (by omega) 200 p' (by omega), hE]
  have Q1 : upd q 10 (nI E) 10 = nI E := by simp [upd]
  have Q2 : upd q 10 (nI E) 12 = nI p' := by simp [upd, q2]
  rw [zWord, e0, zw1 hl h1 h2 Q1 Q2, zw3 hl h1 h2 Q1 Q2 2 97 108 108 rfl, zw3 hl h1 h2 Q1 Q2 3 97 110 121 rfl, zw3 hl h1 h2 Q1 Q2 4 115 117 109 rfl, zw5 hl h1 h2 Q1 Q2]
  simp only [decide_eq_true_eq]
  by_cases a1 : E - p' = 1 ∧ g p' = 102
  · have w1 : wcd g p' (E - p') = 1 := by rw [wcd, if_pos a1]
    rw [if_pos a1, if_pos w1]
    have hz : znum 2 g len 200 0 (nI E) 0 = (nI (fE g len E), dgv g E (min (fE g len E - E) 2)) := znum_nI (g := g) (len := len) (most := 2) (p0 := E) (by omega) (by omega) 200 0 (by omega)
    have hge : E ≤ fE g len E := skp_ge 200 E
    have hle : fE g len E ≤ len := skp_le 200 E h2
    rw [zNum, Q1, hz]
    have ee : (decide (nI E < nI (fE g len E)) && !decide ((2 : Int32) < nI (fE g len E) - nI E)) = decide (1 ≤ fE g len E - E ∧ fE g len E - E ≤ 2) := by
      rw [nI_subN hge]
      by_cases c1 : 1 ≤ fE g len E - E
      · rw [decide_eq_true (nI_lt (a := E) (b := fE g len E) (by omega) (by omega)), Bool.true_and]
        by_cases c : fE g len E - E ≤ 2
        · rw [decide_eq_true (p := _ ∧ _) ⟨c1, c⟩, decide_eq_false (show ¬ (2 : Int32) < nI (fE g len E - E) from nI_nlt (a := 2) (b := fE g len E - E) c (by decide))]; rfl
        · rw [decide_eq_false (p := _ ∧ _) (fun z => c z.2), decide_eq_true (show (2 : Int32) < nI (fE g len E - E) from nI_lt (a := 2) (b := fE g len E - E) (by omega) (by omega))]; rfl
      · rw [decide_eq_false (p := _ ∧ _) (fun z => c1 z.1), decide_eq_false (nI_nlt (a := E) (b := fE g len E) (by omega) (by omega)), Bool.false_and]
    have e13 : upd (upd (upd q 10 (nI E)) 13 (dgv g E (min (fE g len E - E) 2))) 10 (nI (fE g len E)) 13 = dgv g E (min (fE g len E - E) 2) := by simp [upd]
    simp only [ee, decide_eq_true_eq, e13]
    congr 1
    by_cases f1 : 1 ≤ fE g len E - E ∧ fE g len E - E ≤ 2
    · rw [if_pos f1]
      by_cases f2 : 20 ≤ dgv g E (min (fE g len E - E) 2)
      · rw [if_pos f2, if_neg (fun z => (fOk_iff.mp z).2.2 f2)]
      · rw [if_neg f2, if_pos (fOk_iff.mpr ⟨f1.1, f1.2, f2⟩)]
    · rw [if_neg f1, if_neg (fun z => f1 ⟨(fOk_iff.mp z).1, (fOk_iff.mp z).2.1⟩)]
  · rw [if_neg a1]
    have w0 : wcd g p' (E - p') = (if E - p' = 3 ∧ g p' = 115 ∧ g (p' + 1) = 117 ∧ g (p' + 2) = 109 then 2
      else if E - p' = 5 ∧ g p' = 99 ∧ g (p' + 1) = 111 ∧ g (p' + 2) = 117 ∧ g (p' + 3) = 110 ∧ g (p' + 4) = 116 then 3
      else if E - p' = 3 ∧ g p' = 97 ∧ g (p' + 1) = 108 ∧ g (p' + 2) = 108 then 4 else if E - p' = 3 ∧ g p' = 97 ∧ g (p' + 1) = 110 ∧ g (p' + 2) = 121 then 5 else 0) := by rw [wcd, if_neg a1]
    by_cases b2 : E - p' = 3 ∧ g p' = 115 ∧ g (p' + 1) = 117 ∧ g (p' + 2) = 109
    · have n4 : ¬ (E - p' = 3 ∧ g p' = 97 ∧ g (p' + 1) = 108 ∧ g (p' + 2) = 108) := fun z => absurd (b2.2.1.symm.trans z.2.1) (by decide)
      have n5 : ¬ (E - p' = 3 ∧ g p' = 97 ∧ g (p' + 1) = 110 ∧ g (p' + 2) = 121) := fun z => absurd (b2.2.1.symm.trans z.2.1) (by decide)
      rw [show wcd g p' (E - p') = 2 by rw [w0, if_pos b2], if_neg n4, if_neg n5, if_pos b2]
      rfl
    · by_cases b3 : E - p' = 5 ∧ g p' = 99 ∧ g (p' + 1) = 111 ∧ g (p' + 2) = 117 ∧ g (p' + 3) = 110 ∧ g (p' + 4) = 116
      · have n4 : ¬ (E - p' = 3 ∧ g p' = 97 ∧ g (p' + 1) = 108 ∧ g (p' + 2) = 108) := fun z => absurd (b3.2.1.symm.trans z.2.1) (by decide)
        have n5 : ¬ (E - p' = 3 ∧ g p' = 97 ∧ g (p' + 1) = 110 ∧ g (p' + 2) = 121) := fun z => absurd (b3.2.1.symm.trans z.2.1) (by decide)
        rw [show wcd g p' (E - p') = 3 by rw [w0, if_neg b2, if_pos b3], if_neg n4, if_neg n5, if_neg b2, if_pos b3]
        rfl
      · by_cases b4 : E - p' = 3 ∧ g p' = 97 ∧ g (p' + 1) = 108 ∧ g (p' + 2) = 108
        · rw [show wcd g p' (E - p') = 4 by rw [w0, if_neg b2, if_neg b3, if_pos b4], if_pos b4]
          rfl
        · by_cases b5 : E - p' = 3 ∧ g p' = 97 ∧ g (p' + 1) = 110 ∧ g (p' + 2) = 121
          · rw [show wcd g p' (E - p') = 5 by rw [w0, if_neg b2, if_neg b3, if_neg b4, if_pos b5], if_neg b4, if_pos b5]
            rfl
          · rw [show wcd g p' (E - p') = 0 by rw [w0, if_neg b2, if_neg b3, if_neg b4, if_neg b5], if_neg b4, if_neg b5, if_neg b2, if_neg b3]
            rfl
theorem tok_word {g : Nat → Int32} {len p : Nat} {q : Nat → Int32} (hl : len ≤ 200) (hp : p ≤ 1000) (hq : q 10 = nI p) (h : pB g len p < len) (hm : ¬ g (pB g len p) = -1) (hd : zdig (g (pB g len p)) = false) (hlt : zlet (g (pB g len p)) = true) :
    zTok g len q = upd (zWord g len (qB g len p q)).2 11 (zWord g len (qB g len p q)).1 := by
  rw [zTok_B hl hp hq, zTok2, qB_10, sgv_p (by omega) (by omega), if_pos h, if_neg hm, hd, if_neg (by decide), if_pos hlt]
theorem tok_other {g : Nat → Int32} {len p : Nat} {q : Nat → Int32} (hl : len ≤ 200) (hp : p ≤ 1000) (hq : q 10 = nI p) (h : pB g len p < len) (hm : ¬ g (pB g len p) = -1) (hd : zdig (g (pB g len p)) = false) (hlt : zlet (g (pB g len p)) = false) :
    zTok g len q = upd (upd (qB g len p q) 11 (g (pB g len p))) 10 (nI (pB g len p + 1)) := by
  rw [zTok_B hl hp hq, zTok2, qB_10, sgv_p (by omega) (by omega), if_pos h, if_neg hm, hd, if_neg (by decide), hlt, if_neg (by decide), nI_1]
