/-! the class's tokens, on natural numbers -/
theorem skp_min {P : Int32 → Bool} {g : Nat → Int32} {len : Nat} : ∀ (n m p : Nat), n ≤ m → skp P g len n p = min (p + n) (skp P g len m p)
  | 0, m, p, h => by
    have := skp_ge (P := P) (g := g) (len := len) m p
    rw [skp, Nat.add_zero, Nat.min_eq_left this]
  | n + 1, 0, p, h => by omega
  | n + 1, m + 1, p, h => by
    rw [skp, skp]
    by_cases q : p < len ∧ P (g p) = true
    · rw [if_pos q, if_pos q, skp_min n m (p + 1) (by omega), show p + 1 + n = p + (n + 1) by omega]
    · rw [if_neg q, if_neg q, Nat.min_eq_right (by omega)]
theorem nI_subN {a b : Nat} (h : b ≤ a) : nI a - nI b = nI (a - b) := by
  rw [show nI a = nI (a - b) + nI b by rw [nI_add, Nat.sub_add_cancel h], Int32.add_sub_cancel]
section TOKC
variable {g : Nat → Int32} {len p : Nat} {q : Nat → Int32}
/-- behind the blanks -/
abbrev pB (g : Nat → Int32) (len p : Nat) : Nat := skp zbl g len 200 p
abbrev qB (g : Nat → Int32) (len p : Nat) (q : Nat → Int32) : Nat → Int32 := upd (upd q 10 (nI (pB g len p))) 12 (nI (pB g len p))
theorem qB_10 : qB g len p q 10 = nI (pB g len p) := by simp [qB, upd]
theorem pB_le (hl : len ≤ 200) (hp : p ≤ 1000) : pB g len p ≤ 1000 := by
  rcases skp_le2 (P := zbl) (g := g) (len := len) 200 p with h | h <;> (show skp zbl g len 200 p ≤ 1000; omega)
theorem zTok_B (hl : len ≤ 200) (hp : p ≤ 1000) (hq : q 10 = nI p) : zTok g len q = zTok2 g len (qB g len p q) := by
  rw [zTok, hq, zsk_nI (by decide) (by omega) 200 p (by omega)]
theorem tok_end (hl : len ≤ 200) (hp : p ≤ 1000) (hq : q 10 = nI p) (h : ¬ pB g len p < len) : zTok g len q = upd (qB g len p q) 11 0 := by
  have := pB_le (g := g) hl hp
  rw [zTok_B hl hp hq, zTok2, qB_10, sgv_p (by omega) (by omega), if_neg h, if_pos rfl]
theorem tok_num (hl : len ≤ 200) (hp : p ≤ 1000) (hq : q 10 = nI p) (h : pB g len p < len) (hm : ¬ g (pB g len p) = -1) (hd : zdig (g (pB g len p)) = true) :
    zTok g len q = upd (upd (upd (qB g len p q) 13 (dgv g (pB g len p) (min (skp zdig g len 200 (pB g len p) - pB g len p) 7))) 10 (nI (skp zdig g len 200 (pB g len p)))) 11 (if skp zdig g len 200 (pB g len p) - pB g len p ≤ 7 then 2 else 1) := by
  have hb := pB_le (g := g) hl hp
  have hz : znum 7 g len 200 0 (nI (pB g len p)) 0 = (nI (skp zdig g len 200 (pB g len p)), dgv g (pB g len p) (min (skp zdig g len 200 (pB g len p) - pB g len p) 7)) :=
    znum_nI (g := g) (len := len) (most := 7) (p0 := pB g len p) (by omega) (by omega) 200 0 (by omega)
  have h1 : pB g len p < skp zdig g len 200 (pB g len p) := by
    rw [skp, if_pos ⟨h, hd⟩]
    have := skp_ge (P := zdig) (g := g) (len := len) 199 (pB g len p + 1)
    omega
  have h2 : skp zdig g len 200 (pB g len p) ≤ len := skp_le 200 _ (by omega)
  rw [zTok_B hl hp hq, zTok2, qB_10, sgv_p (by omega) (by omega), if_pos h, if_neg hm, if_pos hd, zNum, qB_10, hz]
  have e : (decide (nI (pB g len p) < nI (skp zdig g len 200 (pB g len p))) && !decide ((7 : Int32) < nI (skp zdig g len 200 (pB g len p)) - nI (pB g len p))) = decide (skp zdig g len 200 (pB g len p) - pB g len p ≤ 7) := by
    have e1 : nI (skp zdig g len 200 (pB g len p)) - nI (pB g len p) = nI (skp zdig g len 200 (pB g len p) - pB g len p) := nI_subN (by omega)
    rw [e1, decide_eq_true (nI_lt h1 (by omega)), Bool.true_and]
    by_cases c : skp zdig g len 200 (pB g len p) - pB g len p ≤ 7
    · rw [decide_eq_true c, decide_eq_false (show ¬ (7 : Int32) < nI (skp zdig g len 200 (pB g len p) - pB g len p) from nI_nlt (a := 7) (b := skp zdig g len 200 (pB g len p) - pB g len p) c (by decide))]; rfl
    · rw [decide_eq_false c, decide_eq_true (show (7 : Int32) < nI (skp zdig g len 200 (pB g len p) - pB g len p) from nI_lt (a := 7) (b := skp zdig g len 200 (pB g len p) - pB g len p) (by omega) (by omega))]; rfl
  simp only [e, decide_eq_true_eq]
end TOKC
