/-! the readers side by side: tokens and fields -/
theorem wcd_inv (g : Nat → Int32) (p n : Nat) : (wcd g p n = 1 ∧ n = 1 ∧ g p = 102) ∨ (wcd g p n = 2 ∧ n = 3) ∨ (wcd g p n = 3 ∧ n = 5) ∨ (wcd g p n = 4 ∧ n = 3) ∨ (wcd g p n = 5 ∧ n = 3) ∨ wcd g p n = 0 := by
  rw [wcd]
  split
  · next h => exact Or.inl ⟨rfl, h⟩
  · split
    · next h => exact Or.inr (Or.inl ⟨rfl, h.1⟩)
    · split
      · next h => exact Or.inr (Or.inr (Or.inl ⟨rfl, h.1⟩))
      · split
        · next h => exact Or.inr (Or.inr (Or.inr (Or.inl ⟨rfl, h.1⟩)))
        · split
          · next h => exact Or.inr (Or.inr (Or.inr (Or.inr (Or.inl ⟨rfl, h.1⟩))))
          · exact Or.inr (Or.inr (Or.inr (Or.inr (Or.inr rfl))))
theorem wcd_0 (g : Nat → Int32) (p : Nat) : wcd g p 0 = 0 := by
  rw [wcd, if_neg (fun z => absurd z.1 (by decide)), if_neg (fun z => absurd z.1 (by decide)), if_neg (fun z => absurd z.1 (by decide)), if_neg (fun z => absurd z.1 (by decide)), if_neg (fun z => absurd z.1 (by decide))]
/-- what a token is: its number, place behind it, value; the other ints stay -/
def tkF (q q' : Nat → Int32) (b : Nat) (c : Int32) (e : Nat) : Prop := q' 11 = c ∧ q' 12 = nI b ∧ q' 10 = nI e ∧ ∀ j, j ≠ 10 → j ≠ 11 → j ≠ 12 → j ≠ 13 → q' j = q j
section FLD
variable {g : Nat → Int32} {len p : Nat} {q : Nat → Int32}
theorem dig_let {x : Int32} (h : zdig x = true) : zlet x = false := by
  have h1 : ¬ 57 < x := by
    intro z
    simp [zdig, z] at h
  have : x < 97 := Int32.lt_of_le_of_lt (Int32.not_lt.mp h1) (by decide)
  simp [zlet, this]
theorem tk_end (hl : len ≤ 200) (hp : p ≤ 1000) (hq : q 10 = nI p) (h : ¬ pB g len p < len) : tkF q (zTok g len q) (pB g len p) 0 (pB g len p) := by
  rw [tok_end hl hp hq h]
  refine ⟨by simp [upd], by simp [upd], by simp [upd], fun j a b c d => by simp [upd, a, b, c]⟩
theorem tk_num (hl : len ≤ 200) (hp : p ≤ 1000) (hq : q 10 = nI p) (h : pB g len p < len) (hm : ¬ g (pB g len p) = -1) (hd : zdig (g (pB g len p)) = true) :
    tkF q (zTok g len q) (pB g len p) (if skp zdig g len 200 (pB g len p) - pB g len p ≤ 7 then 2 else 1) (skp zdig g len 200 (pB g len p)) ∧ (zTok g len q) 13 = dgv g (pB g len p) (min (skp zdig g len 200 (pB g len p) - pB g len p) 7) := by
  rw [tok_num hl hp hq h hm hd]
  exact ⟨⟨by simp [upd], by simp [upd], by simp [upd], fun j a b c d => by simp [upd, a, b, c, d]⟩, by simp [upd]⟩
theorem tk_other (hl : len ≤ 200) (hp : p ≤ 1000) (hq : q 10 = nI p) (h : pB g len p < len) (hm : ¬ g (pB g len p) = -1) (hd : zdig (g (pB g len p)) = false) (hlt : zlet (g (pB g len p)) = false) : tkF q (zTok g len q) (pB g len p) (g (pB g len p)) (pB g len p + 1) := by
  rw [tok_other hl hp hq h hm hd hlt]
  exact ⟨by simp [upd], by simp [upd], by simp [upd], fun j a b c d => by simp [upd, a, b, c]⟩
/-- the end of the word's letters -/
abbrev wE (g : Nat → Int32) (len b : Nat) : Nat := skp zlet g len 200 b
theorem tk_word (hl : len ≤ 200) (hp : p ≤ 1000) (hq : q 10 = nI p) (h : pB g len p < len) (hm : ¬ g (pB g len p) = -1) (hd : zdig (g (pB g len p)) = false) (hlt : zlet (g (pB g len p)) = true) (hw : ¬ wcd g (pB g len p) (wE g len (pB g len p) - pB g len p) = 1) :
    tkF q (zTok g len q) (pB g len p) (wtk (wcd g (pB g len p) (wE g len (pB g len p) - pB g len p))) (wE g len (pB g len p)) := by
  rw [tok_word hl hp hq h hm hd hlt, zWord_eq hl h qB_10 (by simp [qB, upd]) hlt, if_neg hw]
  exact ⟨by simp [upd], by simp [upd], by simp [upd], fun j a b c d => by simp [upd, a, b, c]⟩
theorem tk_field (hl : len ≤ 200) (hp : p ≤ 1000) (hq : q 10 = nI p) (h : pB g len p < len) (hm : ¬ g (pB g len p) = -1) (hd : zdig (g (pB g len p)) = false) (hlt : zlet (g (pB g len p)) = true) (hw : wcd g (pB g len p) (wE g len (pB g len p) - pB g len p) = 1) :
    tkF q (zTok g len q) (pB g len p) (if fOk g len (wE g len (pB g len p)) = true then 3 else 1) (fE g len (wE g len (pB g len p))) ∧ (zTok g len q) 13 = dgv g (wE g len (pB g len p)) (min (fE g len (wE g len (pB g len p)) - wE g len (pB g len p)) 2) := by
  rw [tok_word hl hp hq h hm hd hlt, zWord_eq hl h qB_10 (by simp [qB, upd]) hlt, if_pos hw]
  exact ⟨⟨by simp [upd], by simp [upd], by simp [upd], fun j a b c d => by simp [upd, a, b, c, d]⟩, by simp [upd]⟩
theorem pB_id (hl : len ≤ 200) : pB g len (pB g len p) = pB g len p := skp_no 200 (skp_end 200 p (by omega))
theorem pB_ge : p ≤ pB g len p := skp_ge 200 p
end FLD
/-- is the text a field at b (behind the blanks) -/
def isF (g : Nat → Int32) (len b : Nat) : Prop := b < len ∧ zlet (g b) = true ∧ wcd g b (wE g len b - b) = 1 ∧ fOk g len (wE g len b) = true
/-- the reference's field -/
theorem field_eq {len p : Nat} {μ : MS} (hl : len ≤ 200) (hp : p ≤ 1000) (h1 : μ.1 25 = nI p) (h2 : μ.1 2 = nI len) :
    (isF (μ.2.1 1) len (pB (μ.2.1 1) len p) ∧ m_field μ = some (dgv (μ.2.1 1) (wE (μ.2.1 1) len (pB (μ.2.1 1) len p)) (min (fE (μ.2.1 1) len (wE (μ.2.1 1) len (pB (μ.2.1 1) len p)) - wE (μ.2.1 1) len (pB (μ.2.1 1) len p)) 2), sI 25 (nI (fE (μ.2.1 1) len (wE (μ.2.1 1) len (pB (μ.2.1 1) len p)))) μ))
    ∨ (¬ isF (μ.2.1 1) len (pB (μ.2.1 1) len p) ∧ ∃ r a, m_field μ = some (r, mFail (nI (pB (μ.2.1 1) len p)) (sI 25 a μ))) := by
  have hb := pB_le (g := μ.2.1 1) hl hp
  have hs : ∀ a b c : Int32, sI 25 a (sI 25 b (sI 25 c μ)) = sI 25 a μ := fun a b c => by rw [sI_sI, sI_sI]
  rw [m_field, look_eq hl h1 h2 hp]
  generalize hB : skp zbl (μ.2.1 1) len 200 p = b at hb
  have hpb : pB (μ.2.1 1) len p = b := hB
  rw [hpb] at hb ⊢
  have h1' : (sI 25 (nI b) μ).1 25 = nI b := sI_at
  have h2' : (sI 25 (nI b) μ).1 2 = nI len := by rw [sI_ne (by decide)]; exact h2
  show (_ ∧ (if sgv (μ.2.1 1) len (nI b) = 102 then _ else _) = _) ∨ (_ ∧ ∃ r a, (if sgv (μ.2.1 1) len (nI b) = 102 then _ else _) = _)
  rw [sgv_p (by omega) (by omega), word_eq hl hb h1' h2']
  by_cases hlt : b < len
  · rw [if_pos hlt]
    by_cases hf : μ.2.1 1 b = 102
    · rw [if_pos hf]
      show (_ ∧ (if wcd (μ.2.1 1) b (wE (μ.2.1 1) len b - b) = 1 then _ else _) = _) ∨ (_ ∧ ∃ r a, (if wcd (μ.2.1 1) b (wE (μ.2.1 1) len b - b) = 1 then _ else _) = _)
      have hz : zlet (μ.2.1 1 b) = true := by rw [hf]; decide
      by_cases hw : wcd (μ.2.1 1) b (wE (μ.2.1 1) len b - b) = 1
      · rw [if_pos hw]
        have he : wE (μ.2.1 1) len b = b + 1 := by
          have hge : b < wE (μ.2.1 1) len b := by
            show b < skp zlet (μ.2.1 1) len 200 b
            rw [skp, if_pos ⟨hlt, hz⟩]
            have := skp_ge (P := zlet) (g := μ.2.1 1) (len := len) 199 (b + 1)
            omega
          rcases wcd_inv (μ.2.1 1) b (wE (μ.2.1 1) len b - b) with z | z | z | z | z | z
          · omega
          · rw [z.1] at hw; exact absurd hw (by decide)
          · rw [z.1] at hw; exact absurd hw (by decide)
          · rw [z.1] at hw; exact absurd hw (by decide)
          · rw [z.1] at hw; exact absurd hw (by decide)
          · rw [z] at hw; exact absurd hw (by decide)
        have e1 : (sI 25 (nI b) μ).1 25 + 1 = nI (b + 1) := by rw [h1', nI_1]
        show (_ ∧ (m_digits 2 ((sI 25 (nI b) μ).1 25) (sI 25 ((sI 25 (nI b) μ).1 25 + 1) (sI 25 (nI b) μ))).bind _ = _) ∨ (_ ∧ ∃ r a, (m_digits 2 ((sI 25 (nI b) μ).1 25) (sI 25 ((sI 25 (nI b) μ).1 25 + 1) (sI 25 (nI b) μ))).bind _ = _)
        rw [e1, h1', sI_sI, show (2 : Int32) = nI 2 from rfl, digits_eq (p0 := b + 1) (len := len) hl (by decide) (by omega) sI_at (by rw [sI_ne (by decide)]; exact h2)]
        have hmin := skp_min (P := zdig) (g := μ.2.1 1) (len := len) 3 200 (b + 1) (by decide)
        have hge := skp_ge (P := zdig) (g := μ.2.1 1) (len := len) 200 (b + 1)
        have hmin : skp zdig (μ.2.1 1) len (2 + 1) (b + 1) = min (b + 1 + 3) (fE (μ.2.1 1) len (b + 1)) := hmin
        have hge : b + 1 ≤ fE (μ.2.1 1) len (b + 1) := hge
        rw [he]
        show (_ ∧ Option.bind (if 1 ≤ skp zdig (μ.2.1 1) len (2 + 1) (b + 1) - (b + 1) ∧ skp zdig (μ.2.1 1) len (2 + 1) (b + 1) - (b + 1) ≤ 2 then some (dgv (μ.2.1 1) (b + 1) (skp zdig (μ.2.1 1) len (2 + 1) (b + 1) - (b + 1)), sI 25 (nI (skp zdig (μ.2.1 1) len (2 + 1) (b + 1))) (sI 25 (nI (b + 1)) μ)) else some (dgv (μ.2.1 1) (b + 1) (skp zdig (μ.2.1 1) len (2 + 1) (b + 1) - (b + 1)), mFail (nI b) (sI 25 (nI (skp zdig (μ.2.1 1) len (2 + 1) (b + 1))) (sI 25 (nI (b + 1)) μ)))) _ = _) ∨ (_ ∧ ∃ r a, Option.bind (if 1 ≤ skp zdig (μ.2.1 1) len (2 + 1) (b + 1) - (b + 1) ∧ skp zdig (μ.2.1 1) len (2 + 1) (b + 1) - (b + 1) ≤ 2 then some (dgv (μ.2.1 1) (b + 1) (skp zdig (μ.2.1 1) len (2 + 1) (b + 1) - (b + 1)), sI 25 (nI (skp zdig (μ.2.1 1) len (2 + 1) (b + 1))) (sI 25 (nI (b + 1)) μ)) else some (dgv (μ.2.1 1) (b + 1) (skp zdig (μ.2.1 1) len (2 + 1) (b + 1) - (b + 1)), mFail (nI b) (sI 25 (nI (skp zdig (μ.2.1 1) len (2 + 1) (b + 1))) (sI 25 (nI (b + 1)) μ)))) _ = _)
        rw [hmin, sI_sI]
        by_cases c : 1 ≤ fE (μ.2.1 1) len (b + 1) - (b + 1) ∧ fE (μ.2.1 1) len (b + 1) - (b + 1) ≤ 2
        · have em : min (b + 1 + 3) (fE (μ.2.1 1) len (b + 1)) = fE (μ.2.1 1) len (b + 1) := by omega
          have em2 : min (fE (μ.2.1 1) len (b + 1) - (b + 1)) 2 = fE (μ.2.1 1) len (b + 1) - (b + 1) := by omega
          rw [em, em2, if_pos c]
          show (_ ∧ (if dgv (μ.2.1 1) (b + 1) (fE (μ.2.1 1) len (b + 1) - (b + 1)) ≤ 19 then _ else _) = _) ∨ (_ ∧ ∃ r a, (if dgv (μ.2.1 1) (b + 1) (fE (μ.2.1 1) len (b + 1) - (b + 1)) ≤ 19 then _ else _) = _)
          by_cases d : dgv (μ.2.1 1) (b + 1) (fE (μ.2.1 1) len (b + 1) - (b + 1)) ≤ 19
          · left
            refine ⟨⟨hlt, hz, hw, ?_⟩, by rw [if_pos d]⟩
            rw [he, fOk_iff, em2]
            refine ⟨c.1, c.2, fun z => ?_⟩
            have := Int32.le_trans z d
            exact absurd this (by decide)
          · right
            refine ⟨fun z => ?_, dgv (μ.2.1 1) (b + 1) (fE (μ.2.1 1) len (b + 1) - (b + 1)), nI (fE (μ.2.1 1) len (b + 1)), ?_⟩
            · have := (fOk_iff.mp z.2.2.2).2.2
              rw [he, em2] at this
              have t1 := Int32.not_le.mp this
              have t2 := Int32.not_le.mp d
              rw [Int32.lt_iff_toInt_lt] at t1 t2
              have q1 : (20 : Int32).toInt = 20 := by decide
              have q2 : (19 : Int32).toInt = 19 := by decide
              omega
            · rw [if_neg d, fail_eq]
              rfl
        · right
          refine ⟨fun z => c ?_, ?_⟩
          · have := fOk_iff.mp z.2.2.2
            rw [he] at this
            exact ⟨this.1, this.2.1⟩
          · have nc : ¬ (1 ≤ min (b + 1 + 3) (fE (μ.2.1 1) len (b + 1)) - (b + 1) ∧ min (b + 1 + 3) (fE (μ.2.1 1) len (b + 1)) - (b + 1) ≤ 2) := by omega
            rw [if_neg nc]
            show ∃ r a, (if dgv (μ.2.1 1) (b + 1) (min (b + 1 + 3) (fE (μ.2.1 1) len (b + 1)) - (b + 1)) ≤ 19 then _ else _) = _
            by_cases d : dgv (μ.2.1 1) (b + 1) (min (b + 1 + 3) (fE (μ.2.1 1) len (b + 1)) - (b + 1)) ≤ 19
            · exact ⟨dgv (μ.2.1 1) (b + 1) (min (b + 1 + 3) (fE (μ.2.1 1) len (b + 1)) - (b + 1)), nI (min (b + 1 + 3) (fE (μ.2.1 1) len (b + 1))), by rw [if_pos d]⟩
            · refine ⟨dgv (μ.2.1 1) (b + 1) (min (b + 1 + 3) (fE (μ.2.1 1) len (b + 1)) - (b + 1)), nI (min (b + 1 + 3) (fE (μ.2.1 1) len (b + 1))), ?_⟩
              rw [if_neg d, fail_eq]
              show some (_, mFail (nI b) (mFail (nI b) (sI 25 _ μ))) = some (_, mFail (nI b) (sI 25 _ μ))
              rw [mFail_2x (by omega)]
      · right
        refine ⟨fun z => hw z.2.2.1, 0, nI b, ?_⟩
        rw [if_neg hw, h1', fail_eq]
        rfl
    · right
      refine ⟨fun z => ?_, 0, nI b, ?_⟩
      · rcases wcd_inv (μ.2.1 1) b (wE (μ.2.1 1) len b - b) with y | y | y | y | y | y
        · exact hf y.2.2
        · have := z.2.2.1; rw [y.1] at this; exact absurd this (by decide)
        · have := z.2.2.1; rw [y.1] at this; exact absurd this (by decide)
        · have := z.2.2.1; rw [y.1] at this; exact absurd this (by decide)
        · have := z.2.2.1; rw [y.1] at this; exact absurd this (by decide)
        · have := z.2.2.1; rw [y] at this; exact absurd this (by decide)
      · rw [if_neg hf, h1', fail_eq]
        rfl
  · right
    refine ⟨fun z => hlt z.1, 0, nI b, ?_⟩
    rw [if_neg hlt, if_neg (by decide), h1', fail_eq]
    rfl
