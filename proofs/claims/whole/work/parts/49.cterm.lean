/-! a term, in the class's reader -/
def ClT (g : Nat → Int32) (len : Nat) (st : RSt) (n u : Nat) (r : (Int32 × Int32 × Nat) ⊕ Nat) : Prop := match r with
  | .inl q => ∃ n' st', bRun g len n st = bRun g len n' st' ∧ len + 1 ≤ n' + q.2.2 ∧ q.2.2 ≤ len ∧ st'.2.1 = (upd st.2.1.1 u q.1, upd st.2.1.2.1 u q.2.1, upd st.2.1.2.2.1 u (-1), u + 1) ∧ st'.2.2 = st.2.2 ∧ st'.1 10 = nI q.2.2 ∧ st'.1 9 = 4 ∧ st'.1 5 = st.1 5 ∧ st'.1 6 = st.1 6 ∧ st'.1 7 = (if st.1 9 = 0 then nI u else st.1 7) ∧ st'.1 8 = (if st.1 9 = 0 then 0 else st.1 8)
  | .inr w => (bRun g len n st).1 = nI w
/-- no part begins at b but a term -/
def nBeg (g : Nat → Int32) (len b : Nat) : Prop := b < len → ¬ g b = 33 ∧ ¬ g b = 40 ∧ ¬ wcd g b (wE g len b - b) = 4 ∧ ¬ wcd g b (wE g len b - b) = 5
theorem bRun_t {g : Nat → Int32} {len n : Nat} {st s : RSt} (h : bTake (zTok g len st.1, st.2) = (true, s)) (h0 : ¬ s.1 11 = 0) : bRun g len (n + 1) st = bRun g len n s := by
  rw [bRun, h, if_pos rfl, if_neg h0]
theorem bRun_f {g : Nat → Int32} {len n : Nat} {st s : RSt} (h : bTake (zTok g len st.1, st.2) = (false, s)) : (bRun g len (n + 1) st).1 = s.1 12 := by
  rw [bRun, h]
  show (if (false : Bool) = true then _ else (s.1 12, s)).1 = s.1 12
  rw [if_neg (by decide)]
section BTK
variable {st : RSt}
theorem bTake_0 (h : st.1 9 = 0) : bTake st = bPart st := by rw [bTake, if_pos h]
theorem bTake_1 (h : st.1 9 = 1) : bTake st = (if st.1 11 = 40 then bBeg (st.1 5 + 1) st else (false, st)) := by rw [bTake, if_neg (by rw [h]; decide), if_pos h]
theorem bTake_2 (h : st.1 9 = 2) : bTake st = bTerm st := by rw [bTake, if_neg (by rw [h]; decide), if_neg (by rw [h]; decide), if_pos h]
theorem bTake_3 (h : st.1 9 = 3) : bTake st = bFos st := by rw [bTake, if_neg (by rw [h]; decide), if_neg (by rw [h]; decide), if_neg (by rw [h]; decide), if_pos h]
theorem bTake_4 (h : st.1 9 = 4) : bTake st = bBT st := by rw [bTake, if_neg (by rw [h]; decide), if_neg (by rw [h]; decide), if_neg (by rw [h]; decide), if_neg (by rw [h]; decide), if_pos h]
theorem bTake_5 (h : st.1 9 = 5) : bTake st = bBP st := by rw [bTake, if_neg (by rw [h]; decide), if_neg (by rw [h]; decide), if_neg (by rw [h]; decide), if_neg (by rw [h]; decide), if_neg (by rw [h]; decide)]
theorem bPart_e {c : Int32} (h : st.1 11 = c) (k1 : ¬ c = 33) (k2 : ¬ c = 40) (k3 : ¬ c = 4) (k4 : ¬ c = 5) : bPart st = bTerm (qs 7 (nI st.2.1.2.2.2) (qs 8 0 st)) := by rw [bPart, h, if_neg k1, if_neg k2, if_neg k3, if_neg k4]
theorem bTerm_2 (h : st.1 11 = 2) : bTerm st = bTr (tApp 11 (st.1 13) st.2.1) (qs 9 4 st) := by rw [bTerm, if_pos h]
theorem bTerm_3 (h : st.1 11 = 3) : bTerm st = bTr (tApp 12 (st.1 13) st.2.1) (qs 9 4 st) := by rw [bTerm, if_neg (by rw [h]; decide), if_pos h]
theorem bTerm_6 (h : st.1 11 = 6) : bTerm st = bTr (tApp 13 (-1) st.2.1) (qs 9 3 st) := by rw [bTerm, if_neg (by rw [h]; decide), if_neg (by rw [h]; decide), if_pos h]
theorem bTerm_7 (h : st.1 11 = 7) : bTerm st = bTr (tApp 14 (-1) st.2.1) (qs 9 3 st) := by rw [bTerm, if_neg (by rw [h]; decide), if_neg (by rw [h]; decide), if_neg (by rw [h]; decide), if_pos h]
theorem bTerm_n {c : Int32} (h : st.1 11 = c) (h2 : ¬ c = 2) (h3 : ¬ c = 3) (h6 : ¬ c = 6) (h7 : ¬ c = 7) : bTerm st = (false, st) := by rw [bTerm, h, if_neg h2, if_neg h3, if_neg h6, if_neg h7]
theorem bFos_3 (h : st.1 11 = 3) : bFos st = (true, (upd st.1 9 4, tSet (st.1 13) st.2.1, st.2.2)) := by rw [bFos, if_pos h]
theorem bFos_n {c : Int32} (h : st.1 11 = c) (h3 : ¬ c = 3) : bFos st = (false, st) := by rw [bFos, h, if_neg h3]
theorem bBT_op {c : Int32} (h : st.1 11 = c) (hc : c = 43 ∨ c = 45) : bBT st = bTr (tIns (st.1 7) (rKind st) st.2.1) (qs 9 2 st) := by rw [bBT, h, if_pos hc]
theorem bBT_c {c : Int32} (h : st.1 11 = c) (n1 : ¬ (c = 43 ∨ c = 45)) (n2 : c = 35 ∨ c = 60 ∨ c = 61 ∨ c = 62) (h8 : st.1 8 = 0) : bBT st = bCmp st := by rw [bBT, h, if_neg n1, if_pos n2, if_pos h8]
theorem bBT_cn {c : Int32} (h : st.1 11 = c) (n1 : ¬ (c = 43 ∨ c = 45)) (n2 : c = 35 ∨ c = 60 ∨ c = 61 ∨ c = 62) (h8 : ¬ st.1 8 = 0) : bBT st = (false, st) := by rw [bBT, h, if_neg n1, if_pos n2, if_neg h8]
theorem bBT_n {c : Int32} (h : st.1 11 = c) (n1 : ¬ (c = 43 ∨ c = 45)) (n2 : ¬ (c = 35 ∨ c = 60 ∨ c = 61 ∨ c = 62)) (h8 : st.1 8 = 0) : bBT st = (false, st) := by rw [bBT, h, if_neg n1, if_neg n2, if_pos h8]
theorem bBT_p {c : Int32} (h : st.1 11 = c) (n1 : ¬ (c = 43 ∨ c = 45)) (n2 : ¬ (c = 35 ∨ c = 60 ∨ c = 61 ∨ c = 62)) (h8 : ¬ st.1 8 = 0) : bBT st = bBP st := by rw [bBT, h, if_neg n1, if_neg n2, if_neg h8]
end BTK
/-- the row of ints that a term is taken with -/
def q2 (u : Nat) (q q' : Nat → Int32) : Nat → Int32 := if q 9 = 0 then upd (upd q' 8 0) 7 (nI u) else q'
theorem bTake_T {g : Nat → Int32} {len u b e : Nat} {st : RSt} {c : Int32} (ht : tkF st.1 (zTok g len st.1) b c e) (hu : st.2.1.2.2.2 = u) (hs : st.1 9 = 2 ∨ (st.1 9 = 0 ∧ ¬ c = 33 ∧ ¬ c = 40 ∧ ¬ c = 4 ∧ ¬ c = 5)) : bTake (zTok g len st.1, st.2) = bTerm (q2 u st.1 (zTok g len st.1), st.2) := by
  obtain ⟨t1, t2, t3, t4⟩ := ht
  have h9 : zTok g len st.1 9 = st.1 9 := t4 9 (by decide) (by decide) (by decide) (by decide)
  rcases hs with hs | ⟨hs, k1, k2, k3, k4⟩
  · rw [q2, if_neg (by rw [hs]; decide)]
    exact bTake_2 (st := (zTok g len st.1, st.2)) (h9.trans hs)
  · rw [q2, if_pos hs, ← hu]
    exact (bTake_0 (st := (zTok g len st.1, st.2)) (h9.trans hs)).trans (bPart_e (st := (zTok g len st.1, st.2)) t1 k1 k2 k3 k4)
theorem q2_k {u : Nat} {q q' : Nat → Int32} {j : Nat} (h7 : j ≠ 7) (h8 : j ≠ 8) : q2 u q q' j = q' j := by
  rw [q2]
  split
  · simp [upd, h7, h8]
  · rfl
theorem q2_7 {u : Nat} {q q' : Nat → Int32} (h : q' 7 = q 7) : q2 u q q' 7 = (if q 9 = 0 then nI u else q 7) := by
  rw [q2]
  split
  · simp [upd]
  · exact h
theorem q2_8 {u : Nat} {q q' : Nat → Int32} (h : q' 8 = q 8) : q2 u q q' 8 = (if q 9 = 0 then 0 else q 8) := by
  rw [q2]
  split
  · simp [upd]
  · exact h
theorem cterm_leaf {g : Nat → Int32} {len n u b e : Nat} {st : RSt} {c k : Int32} (ht : tkF st.1 (zTok g len st.1) b c e) (hu : st.2.1.2.2.2 = u) (hs : st.1 9 = 2 ∨ (st.1 9 = 0 ∧ ¬ c = 33 ∧ ¬ c = 40 ∧ ¬ c = 4 ∧ ¬ c = 5)) (hc : (c = 2 ∧ k = 11) ∨ (c = 3 ∧ k = 12)) (hn : len ≤ n + b) (hbe : b < e) (hel : e ≤ len) :
    ClT g len st (n + 1) u (if u < 40 then .inl (k, (zTok g len st.1) 13, e) else .inr b) := by
  have hT := bTake_T ht hu hs
  obtain ⟨t1, t2, t3, t4⟩ := ht
  have q11 : q2 u st.1 (zTok g len st.1) 11 = c := by rw [q2_k (by decide) (by decide), t1]
  have q13 : q2 u st.1 (zTok g len st.1) 13 = (zTok g len st.1) 13 := q2_k (by decide) (by decide)
  have hB : bTerm (q2 u st.1 (zTok g len st.1), st.2) = bTr (tApp k ((zTok g len st.1) 13) st.2.1) (qs 9 4 (q2 u st.1 (zTok g len st.1), st.2)) := by
    rw [← q13]
    rcases hc with ⟨rfl, rfl⟩ | ⟨rfl, rfl⟩
    · exact bTerm_2 (st := (q2 u st.1 (zTok g len st.1), st.2)) q11
    · exact bTerm_3 (st := (q2 u st.1 (zTok g len st.1), st.2)) q11
  rw [hB, bTr, tApp, hu] at hT
  by_cases h4 : u < 40
  · rw [if_pos h4] at hT ⊢
    refine ⟨n, _, bRun_t hT ?_, by show len + 1 ≤ n + e; omega, hel, rfl, rfl, ?_, ?_, ?_, ?_, ?_, ?_⟩
    · show ¬ upd (q2 u st.1 (zTok g len st.1)) 9 4 11 = 0
      rw [upd, if_neg (by decide), q11]
      rcases hc with ⟨rfl, -⟩ | ⟨rfl, -⟩ <;> decide
    · show upd (q2 u st.1 (zTok g len st.1)) 9 4 10 = nI e
      rw [upd, if_neg (by decide), q2_k (by decide) (by decide), t3]
    · show upd (q2 u st.1 (zTok g len st.1)) 9 4 9 = 4
      rw [upd, if_pos rfl]
    · show upd (q2 u st.1 (zTok g len st.1)) 9 4 5 = _
      rw [upd, if_neg (by decide), q2_k (by decide) (by decide), t4 5 (by decide) (by decide) (by decide) (by decide)]
    · show upd (q2 u st.1 (zTok g len st.1)) 9 4 6 = _
      rw [upd, if_neg (by decide), q2_k (by decide) (by decide), t4 6 (by decide) (by decide) (by decide) (by decide)]
    · show upd (q2 u st.1 (zTok g len st.1)) 9 4 7 = _
      rw [upd, if_neg (by decide), q2_7 (t4 7 (by decide) (by decide) (by decide) (by decide))]
    · show upd (q2 u st.1 (zTok g len st.1)) 9 4 8 = _
      rw [upd, if_neg (by decide), q2_8 (t4 8 (by decide) (by decide) (by decide) (by decide))]
  · rw [if_neg h4] at hT ⊢
    show (bRun g len (n + 1) st).1 = nI b
    rw [bRun_f hT]
    show upd (q2 u st.1 (zTok g len st.1)) 9 4 12 = nI b
    rw [upd, if_neg (by decide), q2_k (by decide) (by decide), t2]
/-- a token that is no term -/
theorem cterm_no {g : Nat → Int32} {len n u b e : Nat} {st : RSt} {c : Int32} (ht : tkF st.1 (zTok g len st.1) b c e) (hu : st.2.1.2.2.2 = u) (hs : st.1 9 = 2 ∨ (st.1 9 = 0 ∧ ¬ c = 33 ∧ ¬ c = 40 ∧ ¬ c = 4 ∧ ¬ c = 5)) (h2 : ¬ c = 2) (h3 : ¬ c = 3) (h6 : ¬ c = 6) (h7 : ¬ c = 7) : (bRun g len (n + 1) st).1 = nI b := by
  have hT := bTake_T ht hu hs
  obtain ⟨t1, t2, t3, t4⟩ := ht
  have hB : bTerm (q2 u st.1 (zTok g len st.1), st.2) = (false, (q2 u st.1 (zTok g len st.1), st.2)) := bTerm_n (st := (q2 u st.1 (zTok g len st.1), st.2)) ((q2_k (by decide) (by decide)).trans t1) h2 h3 h6 h7
  rw [hB] at hT
  rw [bRun_f hT]
  show q2 u st.1 (zTok g len st.1) 12 = nI b
  rw [q2_k (by decide) (by decide), t2]
theorem ge32 {x c : Int32} (h : ¬ x < 32) (hc : c < 32) : ¬ x = c := fun e => h (by rw [e]; exact hc)
/-- the token at p: a field, or none -/
theorem tk_isF {g : Nat → Int32} {len p : Nat} {q : Nat → Int32} (hl : len ≤ 200) (hp : p ≤ 1000) (hq : q 10 = nI p) (hg : ∀ j, j < len → ¬ g j < 32) :
    (isF g len (pB g len p) ∧ tkF q (zTok g len q) (pB g len p) 3 (fE g len (wE g len (pB g len p))) ∧ (zTok g len q) 13 = fV g len (wE g len (pB g len p))) ∨ (¬ isF g len (pB g len p) ∧ ∃ c e, ¬ c = 3 ∧ tkF q (zTok g len q) (pB g len p) c e) := by
  by_cases h : pB g len p < len
  · have hm : ¬ g (pB g len p) = -1 := ge32 (hg _ h) (by decide)
    by_cases hd : zdig (g (pB g len p)) = true
    · right
      refine ⟨fun z => by have := z.2.1; rw [dig_let hd] at this; exact absurd this (by decide), _, _, ?_, (tk_num hl hp hq h hm hd).1⟩
      split <;> decide
    · have hd : zdig (g (pB g len p)) = false := by simpa using hd
      by_cases hz : zlet (g (pB g len p)) = true
      · by_cases hw : wcd g (pB g len p) (wE g len (pB g len p) - pB g len p) = 1
        · have hF := tk_field hl hp hq h hm hd hz hw
          by_cases hk : fOk g len (wE g len (pB g len p)) = true
          · left
            rw [if_pos hk] at hF
            exact ⟨⟨h, hz, hw, hk⟩, hF.1, hF.2⟩
          · right
            rw [if_neg hk] at hF
            exact ⟨fun z => hk z.2.2.2, 1, _, by decide, hF.1⟩
        · right
          refine ⟨fun z => hw z.2.2.1, _, _, ?_, tk_word hl hp hq h hm hd hz hw⟩
          rw [wtk]
          repeat' split
          all_goals decide
      · have hz : zlet (g (pB g len p)) = false := by simpa using hz
        right
        exact ⟨fun z => by have := z.2.1; rw [hz] at this; exact absurd this (by decide), _, _, ge32 (hg _ h) (by decide), tk_other hl hp hq h hm hd hz⟩
  · right
    exact ⟨fun z => h z.1, 0, _, by decide, tk_end hl hp hq h⟩
set_option maxHeartbeats 4000000 in
theorem cterm_sum {g : Nat → Int32} {len n u b e : Nat} {st : RSt} {c k : Int32} (hl : len ≤ 200) (hg : ∀ j, j < len → ¬ g j < 32) (ht : tkF st.1 (zTok g len st.1) b c e) (hu : st.2.1.2.2.2 = u) (hs : st.1 9 = 2 ∨ (st.1 9 = 0 ∧ ¬ c = 33 ∧ ¬ c = 40 ∧ ¬ c = 4 ∧ ¬ c = 5)) (hc : (c = 6 ∧ k = 13) ∨ (c = 7 ∧ k = 14)) (hn : len ≤ n + b) (hbe : b < e) (hel : e ≤ len) :
    ClT g len st (n + 1) u (if u < 40 then (if isFb g len (pB g len e) = true then .inl (k, fV g len (wE g len (pB g len e)), fE g len (wE g len (pB g len e))) else .inr (pB g len e)) else .inr b) := by
  have hT := bTake_T ht hu hs
  obtain ⟨t1, t2, t3, t4⟩ := ht
  have q11 : q2 u st.1 (zTok g len st.1) 11 = c := by rw [q2_k (by decide) (by decide), t1]
  have hB : bTerm (q2 u st.1 (zTok g len st.1), st.2) = bTr (tApp k (-1) st.2.1) (qs 9 3 (q2 u st.1 (zTok g len st.1), st.2)) := by
    rcases hc with ⟨rfl, rfl⟩ | ⟨rfl, rfl⟩
    · exact bTerm_6 (st := (q2 u st.1 (zTok g len st.1), st.2)) q11
    · exact bTerm_7 (st := (q2 u st.1 (zTok g len st.1), st.2)) q11
  rw [hB, bTr, tApp, hu] at hT
  by_cases h4 : u < 40
  · rw [if_pos h4] at hT
    rw [if_pos h4]
    have hT : bTake (zTok g len st.1, st.2) = (true, (upd (q2 u st.1 (zTok g len st.1)) 9 3, (upd st.2.1.1 u k, upd st.2.1.2.1 u (-1), upd st.2.1.2.2.1 u (-1), u + 1), st.2.2)) := hT
    generalize hq3 : upd (q2 u st.1 (zTok g len st.1)) 9 3 = q3 at hT
    have e1 : bRun g len (n + 1) st = bRun g len n (q3, (upd st.2.1.1 u k, upd st.2.1.2.1 u (-1), upd st.2.1.2.2.1 u (-1), u + 1), st.2.2) := bRun_t hT (by
      show ¬ q3 11 = 0
      rw [← hq3, upd, if_neg (by decide), q11]
      rcases hc with ⟨rfl, -⟩ | ⟨rfl, -⟩ <;> decide)
    have q10 : q3 10 = nI e := by rw [← hq3, upd, if_neg (by decide), q2_k (by decide) (by decide), t3]
    have q9 : q3 9 = 3 := by rw [← hq3, upd, if_pos rfl]
    obtain ⟨m, rfl⟩ : ∃ m, n = m + 1 := ⟨n - 1, by omega⟩
    rcases tk_isF hl (by omega) q10 hg with ⟨f1, f2, f3⟩ | ⟨f1, c3, e3, f2, f3⟩
    · rw [if_pos (isFb_iff.mpr f1)]
      obtain ⟨s1, s2, s3, s4⟩ := f2
      have z9 : zTok g len q3 9 = 3 := by rw [s4 9 (by decide) (by decide) (by decide) (by decide), q9]
      have hT2 : bTake (zTok g len q3, (upd st.2.1.1 u k, upd st.2.1.2.1 u (-1), upd st.2.1.2.2.1 u (-1), u + 1), st.2.2) = (true, (upd (zTok g len q3) 9 4, (upd st.2.1.1 u k, upd st.2.1.2.1 u (fV g len (wE g len (pB g len e))), upd st.2.1.2.2.1 u (-1), u + 1), st.2.2)) := by
        refine (bTake_3 (st := (zTok g len q3, (upd st.2.1.1 u k, upd st.2.1.2.1 u (-1), upd st.2.1.2.2.1 u (-1), u + 1), st.2.2)) z9).trans ?_
        refine (bFos_3 (st := (zTok g len q3, (upd st.2.1.1 u k, upd st.2.1.2.1 u (-1), upd st.2.1.2.2.1 u (-1), u + 1), st.2.2)) s1).trans ?_
        show (true, (upd (zTok g len q3) 9 4, tSet (zTok g len q3 13) (upd st.2.1.1 u k, upd st.2.1.2.1 u (-1), upd st.2.1.2.2.1 u (-1), u + 1), st.2.2)) = _
        rw [f3, tSet]
        show (true, (upd (zTok g len q3) 9 4, (upd st.2.1.1 u k, (if 0 < u + 1 then upd (upd st.2.1.2.1 u (-1)) (u + 1 - 1) (fV g len (wE g len (pB g len e))) else upd st.2.1.2.1 u (-1)), upd st.2.1.2.2.1 u (-1), u + 1), st.2.2)) = _
        rw [if_pos (by omega), Nat.add_sub_cancel, upd_upd]
      have hge : pB g len e < fE g len (wE g len (pB g len e)) := by
        have a1 : pB g len e ≤ wE g len (pB g len e) := skp_ge 200 _
        have a2 : wE g len (pB g len e) ≤ fE g len (wE g len (pB g len e)) := skp_ge 200 _
        have a3 := (fOk_iff.mp f1.2.2.2).1
        omega
      have hle : fE g len (wE g len (pB g len e)) ≤ len := skp_le 200 _ (skp_le 200 _ (Nat.le_of_lt f1.1))
      have hpe : e ≤ pB g len e := skp_ge 200 e
      refine ⟨m, _, e1.trans (bRun_t hT2 ?_), by show len + 1 ≤ m + fE g len (wE g len (pB g len e)); omega, hle, rfl, rfl, ?_, ?_, ?_, ?_, ?_, ?_⟩
      · show ¬ upd (zTok g len q3) 9 4 11 = 0
        rw [upd, if_neg (by decide), s1]
        decide
      · show upd (zTok g len q3) 9 4 10 = _
        rw [upd, if_neg (by decide), s3]
      · show upd (zTok g len q3) 9 4 9 = 4
        rw [upd, if_pos rfl]
      · show upd (zTok g len q3) 9 4 5 = _
        rw [upd, if_neg (by decide), s4 5 (by decide) (by decide) (by decide) (by decide), ← hq3, upd, if_neg (by decide), q2_k (by decide) (by decide), t4 5 (by decide) (by decide) (by decide) (by decide)]
      · show upd (zTok g len q3) 9 4 6 = _
        rw [upd, if_neg (by decide), s4 6 (by decide) (by decide) (by decide) (by decide), ← hq3, upd, if_neg (by decide), q2_k (by decide) (by decide), t4 6 (by decide) (by decide) (by decide) (by decide)]
      · show upd (zTok g len q3) 9 4 7 = _
        rw [upd, if_neg (by decide), s4 7 (by decide) (by decide) (by decide) (by decide), ← hq3, upd, if_neg (by decide), q2_7 (t4 7 (by decide) (by decide) (by decide) (by decide))]
      · show upd (zTok g len q3) 9 4 8 = _
        rw [upd, if_neg (by decide), s4 8 (by decide) (by decide) (by decide) (by decide), ← hq3, upd, if_neg (by decide), q2_8 (t4 8 (by decide) (by decide) (by decide) (by decide))]
    · rw [if_neg (fun z => f1 (isFb_iff.mp z))]
      obtain ⟨s1, s2, s3, s4⟩ := f3
      have z9 : zTok g len q3 9 = 3 := by rw [s4 9 (by decide) (by decide) (by decide) (by decide), q9]
      show (bRun g len (m + 1 + 1) st).1 = nI (pB g len e)
      rw [e1]
      have hT2 : bTake (zTok g len q3, (upd st.2.1.1 u k, upd st.2.1.2.1 u (-1), upd st.2.1.2.2.1 u (-1), u + 1), st.2.2) = (false, (zTok g len q3, (upd st.2.1.1 u k, upd st.2.1.2.1 u (-1), upd st.2.1.2.2.1 u (-1), u + 1), st.2.2)) := by
        exact (bTake_3 (st := (zTok g len q3, (upd st.2.1.1 u k, upd st.2.1.2.1 u (-1), upd st.2.1.2.2.1 u (-1), u + 1), st.2.2)) z9).trans (bFos_n (st := (zTok g len q3, (upd st.2.1.1 u k, upd st.2.1.2.1 u (-1), upd st.2.1.2.2.1 u (-1), u + 1), st.2.2)) s1 f2)
      have := bRun_f (n := m) (st := (q3, (upd st.2.1.1 u k, upd st.2.1.2.1 u (-1), upd st.2.1.2.2.1 u (-1), u + 1), st.2.2)) hT2
      rw [this]
      exact s2
  · rw [if_neg h4] at hT ⊢
    have hT : bTake (zTok g len st.1, st.2) = (false, (upd (q2 u st.1 (zTok g len st.1)) 9 3, st.2.1, st.2.2)) := hT
    have q12 : upd (q2 u st.1 (zTok g len st.1)) 9 3 12 = nI b := by rw [upd, if_neg (by decide), q2_k (by decide) (by decide), t2]
    exact (bRun_f (n := n) hT).trans q12
theorem cterm {g : Nat → Int32} {len n u p : Nat} {st : RSt} (hl : len ≤ 200) (hp : p ≤ len) (hg : ∀ j, j < len → ¬ g j < 32) (hq : st.1 10 = nI p) (hu : st.2.1.2.2.2 = u) (hs : st.1 9 = 2 ∨ (st.1 9 = 0 ∧ nBeg g len (pB g len p))) (hn : len ≤ n + pB g len p) : ClT g len st (n + 1) u (tmr g len (pB g len p) u) := by
  have hp' : p ≤ 1000 := by omega
  by_cases h : pB g len p < len
  · have hm : ¬ g (pB g len p) = -1 := ge32 (hg _ h) (by decide)
    have h33 := hg _ h
    by_cases hd : zdig (g (pB g len p)) = true
    · have hT := tk_num hl hp' hq h hm hd
      have hgt : pB g len p < skp zdig g len 200 (pB g len p) := by
        rw [skp, if_pos ⟨h, hd⟩]
        have := skp_ge (P := zdig) (g := g) (len := len) 199 (pB g len p + 1)
        omega
      have hle : skp zdig g len 200 (pB g len p) ≤ len := skp_le 200 _ (Nat.le_of_lt h)
      rw [tmr, if_pos ⟨h, hd⟩]
      by_cases c : skp zdig g len 200 (pB g len p) - pB g len p ≤ 7
      · rw [if_pos c] at hT
        have := cterm_leaf (n := n) (k := 11) hT.1 hu (hs.imp id (fun z => ⟨z.1, by decide, by decide, by decide, by decide⟩)) (Or.inl ⟨rfl, rfl⟩) hn hgt hle
        rw [hT.2, Nat.min_eq_left c] at this
        by_cases h4 : u < 40
        · rw [if_pos h4] at this; rw [if_pos ⟨c, h4⟩]; exact this
        · rw [if_neg h4] at this; rw [if_neg (fun z => h4 z.2)]; exact this
      · rw [if_neg c] at hT
        rw [if_neg (fun z => c z.1)]
        exact cterm_no hT.1 hu (hs.imp id (fun z => ⟨z.1, by decide, by decide, by decide, by decide⟩)) (by decide) (by decide) (by decide) (by decide)
    · have hd' : zdig (g (pB g len p)) = false := by simpa using hd
      rw [tmr, if_neg (fun z => hd z.2)]
      by_cases hz : zlet (g (pB g len p)) = true
      · rw [if_pos ⟨h, hz⟩]
        have hgt : pB g len p < wE g len (pB g len p) := by
          show _ < skp zlet g len 200 (pB g len p)
          rw [skp, if_pos ⟨h, hz⟩]
          have := skp_ge (P := zlet) (g := g) (len := len) 199 (pB g len p + 1)
          omega
        have hle : wE g len (pB g len p) ≤ len := skp_le 200 _ (Nat.le_of_lt h)
        by_cases w1 : wcd g (pB g len p) (wE g len (pB g len p) - pB g len p) = 1
        · rw [if_pos w1]
          have hT := tk_field hl hp' hq h hm hd' hz w1
          have hle2 : fE g len (wE g len (pB g len p)) ≤ len := skp_le 200 _ hle
          have hge2 : wE g len (pB g len p) ≤ fE g len (wE g len (pB g len p)) := skp_ge 200 _
          by_cases hk : fOk g len (wE g len (pB g len p)) = true
          · rw [if_pos hk] at hT
            have := cterm_leaf (n := n) (k := 12) hT.1 hu (hs.imp id (fun z => ⟨z.1, by decide, by decide, by decide, by decide⟩)) (Or.inr ⟨rfl, rfl⟩) hn (by omega) hle2
            rw [hT.2] at this
            by_cases h4 : u < 40
            · rw [if_pos h4] at this; rw [if_pos ⟨hk, h4⟩]; exact this
            · rw [if_neg h4] at this; rw [if_neg (fun z => h4 z.2)]; exact this
          · rw [if_neg hk] at hT
            rw [if_neg (fun z => hk z.1)]
            exact cterm_no hT.1 hu (hs.imp id (fun z => ⟨z.1, by decide, by decide, by decide, by decide⟩)) (by decide) (by decide) (by decide) (by decide)
        · rw [if_neg w1]
          have hT := tk_word hl hp' hq h hm hd' hz w1
          rcases wcd_inv g (pB g len p) (wE g len (pB g len p) - pB g len p) with z | z | z | z | z | z
          · exact absurd z.1 w1
          · rw [if_pos (Or.inl z.1), z.1]
            rw [z.1] at hT
            exact cterm_sum (k := 13) hl hg hT hu (hs.imp id (fun z => ⟨z.1, by decide, by decide, by decide, by decide⟩)) (Or.inl ⟨rfl, rfl⟩) hn hgt hle
          · rw [if_pos (Or.inr z.1), z.1]
            rw [z.1] at hT
            exact cterm_sum (k := 14) hl hg hT hu (hs.imp id (fun z => ⟨z.1, by decide, by decide, by decide, by decide⟩)) (Or.inr ⟨rfl, rfl⟩) hn hgt hle
          · rw [if_neg (by rw [z.1]; decide)]
            rw [z.1] at hT
            exact cterm_no hT hu (hs.imp id (fun y => absurd z.1 (y.2 h).2.2.1)) (by decide) (by decide) (by decide) (by decide)
          · rw [if_neg (by rw [z.1]; decide)]
            rw [z.1] at hT
            exact cterm_no hT hu (hs.imp id (fun y => absurd z.1 (y.2 h).2.2.2)) (by decide) (by decide) (by decide) (by decide)
          · rw [if_neg (by rw [z]; decide)]
            rw [z] at hT
            exact cterm_no hT hu (hs.imp id (fun z => ⟨z.1, by decide, by decide, by decide, by decide⟩)) (by decide) (by decide) (by decide) (by decide)
      · have hz' : zlet (g (pB g len p)) = false := by simpa using hz
        rw [if_neg (fun z => hz z.2)]
        have hT := tk_other hl hp' hq h hm hd' hz'
        exact cterm_no hT hu (hs.imp id (fun y => ⟨y.1, (y.2 h).1, (y.2 h).2.1, ge32 h33 (by decide), ge32 h33 (by decide)⟩)) (ge32 h33 (by decide)) (ge32 h33 (by decide)) (ge32 h33 (by decide)) (ge32 h33 (by decide))
  · rw [tmr, if_neg (fun z => h z.1), if_neg (fun z => h z.1)]
    exact cterm_no (tk_end hl hp' hq h) hu (hs.imp id (fun z => ⟨z.1, by decide, by decide, by decide, by decide⟩)) (by decide) (by decide) (by decide) (by decide)
