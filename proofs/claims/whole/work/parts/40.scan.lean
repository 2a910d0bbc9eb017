/-! reading, on natural numbers -/
theorem sgv_p {g : Nat → Int32} {len p : Nat} (hl : len < 2 ^ 31) (hp : p < 2 ^ 31) : sgv g len (nI p) = if p < len then g p else -1 := by
  rw [sgv, if_neg (nI_pos hp)]
  by_cases h : p < len
  · rw [if_pos h, if_neg (nI_ge h hl), nI_clamp hp]
  · rw [if_neg h, if_pos (nI_le (by omega) hp)]
/-- as long as the signs are of a kind, on natural numbers -/
def skp (P : Int32 → Bool) (g : Nat → Int32) (len : Nat) : Nat → Nat → Nat
  | 0, p => p
  | n + 1, p => if p < len ∧ P (g p) = true then skp P g len n (p + 1) else p
section SKP
variable {P : Int32 → Bool} {g : Nat → Int32} {len : Nat}
theorem zsk_nI (hP : P (-1) = false) (hl : len < 2 ^ 30) : ∀ (n p : Nat), p + n < 2 ^ 30 → zsk P g len n (nI p) = nI (skp P g len n p)
  | 0, p, _ => rfl
  | n + 1, p, h => by
    rw [zsk, skp, sgv_p (by omega) (by omega)]
    by_cases h1 : p < len
    · rw [if_pos h1]
      by_cases h2 : P (g p) = true
      · rw [if_pos h2, if_pos ⟨h1, h2⟩, nI_1, zsk_nI hP hl n (p + 1) (by omega)]
      · rw [if_neg h2, if_neg (fun z => h2 z.2)]
    · rw [if_neg h1, hP, if_neg (by decide), if_neg (fun z => h1 z.1)]
theorem skp_no (n : Nat) {p : Nat} (h : ¬ (p < len ∧ P (g p) = true)) : skp P g len n p = p := by
  cases n with
  | zero => rfl
  | succ n => rw [skp, if_neg h]
theorem skp_ge : ∀ (n p : Nat), p ≤ skp P g len n p
  | 0, p => Nat.le_refl _
  | n + 1, p => by
    rw [skp]
    by_cases h : p < len ∧ P (g p) = true
    · rw [if_pos h]; have := skp_ge n (p + 1); omega
    · rw [if_neg h]; exact Nat.le_refl _
theorem skp_le : ∀ (n p : Nat), p ≤ len → skp P g len n p ≤ len
  | 0, p, h => h
  | n + 1, p, h => by
    rw [skp]
    by_cases q : p < len ∧ P (g p) = true
    · rw [if_pos q]; exact skp_le n (p + 1) (by omega)
    · rw [if_neg q]; exact h
theorem skp_le2 (n p : Nat) : skp P g len n p ≤ len ∨ skp P g len n p = p := by
  rcases Nat.lt_or_ge len p with h | h
  · exact Or.inr (skp_no n (fun z => by omega))
  · exact Or.inl (skp_le n p h)
theorem skp_all : ∀ (n p j : Nat), p ≤ j → j < skp P g len n p → j < len ∧ P (g j) = true
  | 0, p, j, h1, h2 => by rw [skp] at h2; omega
  | n + 1, p, j, h1, h2 => by
    rw [skp] at h2
    by_cases q : p < len ∧ P (g p) = true
    · rw [if_pos q] at h2
      by_cases e : j = p
      · subst e; exact q
      · exact skp_all n (p + 1) j (by omega) h2
    · rw [if_neg q] at h2; omega
theorem skp_end : ∀ (n p : Nat), len ≤ p + n → ¬ (skp P g len n p < len ∧ P (g (skp P g len n p)) = true)
  | 0, p, h => by rw [skp]; omega
  | n + 1, p, h => by
    rw [skp]
    by_cases q : p < len ∧ P (g p) = true
    · rw [if_pos q]; exact skp_end n (p + 1) (by omega)
    · rw [if_neg q]; exact q
theorem skp_fuel : ∀ (n m p : Nat), len ≤ p + n → len ≤ p + m → skp P g len n p = skp P g len m p
  | 0, m, p, h1, h2 => by rw [skp_no m (fun z => by omega)]; rfl
  | n + 1, 0, p, h1, h2 => by rw [skp_no (n + 1) (fun z => by omega)]; rfl
  | n + 1, m + 1, p, h1, h2 => by
    rw [skp, skp]
    by_cases q : p < len ∧ P (g p) = true
    · rw [if_pos q, if_pos q]; exact skp_fuel n m (p + 1) (by omega) (by omega)
    · rw [if_neg q, if_neg q]
end SKP
theorem sI_id {k : Nat} {v : Int32} {μ : MS} (h : μ.1 k = v) : sI k v μ = μ := by
  have : upd μ.1 k v = μ.1 := by
    funext j
    rw [upd]
    by_cases e : j = k
    · rw [if_pos e, e, h]
    · rw [if_neg e]
  rw [sI, this]
theorem sI_sI {k : Nat} {v w : Int32} {μ : MS} : sI k v (sI k w μ) = sI k v μ := by
  have : upd (upd μ.1 k w) k v = upd μ.1 k v := by
    funext j
    rw [upd, upd, upd]
    by_cases e : j = k
    · rw [if_pos e, if_pos e]
    · rw [if_neg e, if_neg e, if_neg e]
  show (upd (upd μ.1 k w) k v, μ.2) = (upd μ.1 k v, μ.2)
  rw [this]
theorem sI_at {k : Nat} {v : Int32} {μ : MS} : (sI k v μ).1 k = v := by
  show upd μ.1 k v k = v
  rw [upd, if_pos rfl]
theorem sI_ne {k j : Nat} {v : Int32} {μ : MS} (h : j ≠ k) : (sI k v μ).1 j = μ.1 j := by
  show upd μ.1 k v j = μ.1 j
  rw [upd, if_neg h]
theorem inb_nI {i n : Nat} (h : i < n) (hn : n < 2 ^ 31) : inb (nI i) n = true := inb_of (vp_in_nI h hn)
/-- look, at fuel enough -/
theorem look_B {len : Nat} (hl : len ≤ 200) : ∀ (n p : Nat) (μ : MS), μ.1 25 = nI p → μ.1 2 = nI len → p ≤ 1000 → len ≤ p + n → m_look_B (n + 1) 0 μ = some (sgv (μ.2.1 1) len (nI (skp zbl (μ.2.1 1) len n p)), sI 25 (nI (skp zbl (μ.2.1 1) len n p)) μ) := by
  intro n
  induction n with
  | zero =>
    intro p μ h1 h2 hp hn
    rw [m_look_B, h1, h2, if_pos (nI_le (by omega) (by omega)), skp, sgv_p (by omega) (by omega), if_neg (by omega), sI_id h1]
  | succ n ih =>
    intro p μ h1 h2 hp hn
    rw [m_look_B, h1, h2]
    by_cases h : p < len
    · rw [if_neg (nI_ge h (by omega)), if_pos (inb_nI (by omega) (by omega)), nI_clamp (by omega)]
      by_cases e : μ.2.1 1 p = 32
      · rw [if_pos e, nI_1, ih (p + 1) (sI 25 (nI (p + 1)) μ) sI_at (by rw [sI_ne (by decide)]; exact h2) (by omega) (by omega), sI_sI]
        have e2 : skp zbl (μ.2.1 1) len (n + 1) p = skp zbl (μ.2.1 1) len n (p + 1) := by rw [skp, if_pos ⟨h, by rw [e]; rfl⟩]
        rw [e2]
        rfl
      · have e2 : skp zbl (μ.2.1 1) len (n + 1) p = p := skp_no _ (fun z => e (by have := z.2; simp only [zbl, decide_eq_true_eq] at this; exact this))
        rw [if_neg e, e2, sgv_p (by omega) (by omega), if_pos h, sI_id h1]
    · rw [if_pos (nI_le (by omega) (by omega)), skp_no _ (fun z => h z.1), sgv_p (by omega) (by omega), if_neg h, sI_id h1]
theorem look_eq {len p : Nat} {μ : MS} (hl : len ≤ 200) (h1 : μ.1 25 = nI p) (h2 : μ.1 2 = nI len) (hp : p ≤ 1000) : m_look μ = some (sgv (μ.2.1 1) len (nI (skp zbl (μ.2.1 1) len 200 p)), sI 25 (nI (skp zbl (μ.2.1 1) len 200 p)) μ) := by
  have := look_B hl 4095 p μ h1 h2 hp (by omega)
  rw [skp_fuel 4095 200 p (by omega) (by omega)] at this
  exact this
theorem isDigit_eq (x : Int32) : m_isDigit x = some (zb (zdig x)) := by
  rw [m_isDigit, m_in]
  by_cases h1 : x < 48
  · rw [if_pos h1, show zdig x = false by simp [zdig, h1]]; rfl
  · rw [if_neg h1]
    by_cases h2 : 57 < x
    · rw [if_pos h2, show zdig x = false by simp [zdig, h2]]; rfl
    · rw [if_neg h2, zdig_t h1 h2]; rfl
theorem isSmall_eq (x : Int32) : m_isSmall x = some (zb (zlet x)) := by
  rw [m_isSmall, m_in]
  by_cases h1 : x < 97
  · rw [if_pos h1, show zlet x = false by simp [zlet, h1]]; rfl
  · rw [if_neg h1]
    by_cases h2 : 122 < x
    · rw [if_pos h2, show zlet x = false by simp [zlet, h2]]; rfl
    · rw [if_neg h2, zlet_t h1 h2]; rfl
/-- the reference's fail -/
def mFail (w : Int32) (μ : MS) : MS := sI 27 (if 0 ≤ μ.1 27 then μ.1 27 else w) μ
theorem fail_eq (w : Int32) (μ : MS) : m_fail w μ = some (mFail w μ) := by
  rw [m_fail, mFail]
  by_cases h : 0 ≤ μ.1 27
  · rw [if_pos h, if_pos h]
  · rw [if_neg h, if_neg h]
/-- the number that k digits from p on make -/
def dgv (g : Nat → Int32) (p : Nat) : Nat → Int32
  | 0 => 0
  | k + 1 => dgv g p k * 10 + g (p + k) - 48
theorem znum_nI {g : Nat → Int32} {len most p0 : Nat} (hl : len < 2 ^ 30) (hm : most < 2 ^ 30) : ∀ (n i : Nat), p0 + i + n < 2 ^ 30 → znum (nI most) g len n i (nI (p0 + i)) (dgv g p0 (min i most)) = (nI (skp zdig g len n (p0 + i)), dgv g p0 (min (skp zdig g len n (p0 + i) - p0) most))
  | 0, i, _ => by rw [znum, skp, show p0 + i - p0 = i by omega]
  | n + 1, i, h => by
    rw [znum, skp, sgv_p (by omega) (by omega)]
    by_cases h1 : p0 + i < len
    · rw [if_pos h1]
      by_cases h2 : zdig (g (p0 + i)) = true
      · rw [if_pos h2, if_pos (show p0 + i < len ∧ zdig (g (p0 + i)) = true from ⟨h1, h2⟩), nI_1]
        have e : (if nI most ≤ nI i then dgv g p0 (min i most) else dgv g p0 (min i most) * 10 + g (p0 + i) - 48) = dgv g p0 (min (i + 1) most) := by
          by_cases q : most ≤ i
          · rw [if_pos (nI_le q (by omega)), Nat.min_eq_right q, Nat.min_eq_right (by omega)]
          · rw [if_neg (nI_ge (by omega) (by omega)), Nat.min_eq_left (by omega), Nat.min_eq_left (by omega)]; rfl
        rw [e]
        exact znum_nI hl hm n (i + 1) (by omega)
      · rw [if_neg h2, if_neg (fun z => h2 z.2), show p0 + i - p0 = i by omega]
    · rw [if_neg h1, show zdig (-1) = false by decide, if_neg (by decide), if_neg (fun z => h1 z.1), show p0 + i - p0 = i by omega]
theorem digits_B {len p0 most : Nat} {w : Int32} (hl : len ≤ 200) (hm : most ≤ 100) (hp : p0 ≤ 1000) : ∀ (n i : Nat) (μ : MS), μ.1 25 = nI (p0 + i) → μ.1 2 = nI len → i ≤ most + 1 → most + 2 ≤ i + n →
    m_digits_B n 0 (nI most) w (nI i) (dgv (μ.2.1 1) p0 i) μ = (if i ≤ skp zdig (μ.2.1 1) len (most + 1 - i) (p0 + i) - p0 ∧ 1 ≤ skp zdig (μ.2.1 1) len (most + 1 - i) (p0 + i) - p0 ∧ skp zdig (μ.2.1 1) len (most + 1 - i) (p0 + i) - p0 ≤ most then some (dgv (μ.2.1 1) p0 (skp zdig (μ.2.1 1) len (most + 1 - i) (p0 + i) - p0), sI 25 (nI (skp zdig (μ.2.1 1) len (most + 1 - i) (p0 + i))) μ) else some (dgv (μ.2.1 1) p0 (skp zdig (μ.2.1 1) len (most + 1 - i) (p0 + i) - p0), mFail w (sI 25 (nI (skp zdig (μ.2.1 1) len (most + 1 - i) (p0 + i))) μ))) := by
  have stop : ∀ (i : Nat) (μ : MS), μ.1 25 = nI (p0 + i) → i ≤ most + 1 → (if nI i = 0 then (m_fail w μ).bind (fun p83 => some (dgv (μ.2.1 1) p0 i, p83)) else (if nI i ≤ nI most then some (dgv (μ.2.1 1) p0 i, μ) else (m_fail w μ).bind (fun p83 => some (dgv (μ.2.1 1) p0 i, p83)))) = (if i ≤ p0 + i - p0 ∧ 1 ≤ p0 + i - p0 ∧ p0 + i - p0 ≤ most then some (dgv (μ.2.1 1) p0 (p0 + i - p0), sI 25 (nI (p0 + i)) μ) else some (dgv (μ.2.1 1) p0 (p0 + i - p0), mFail w (sI 25 (nI (p0 + i)) μ))) := by
    intro i μ h1 hi
    rw [sI_id h1, fail_eq, show p0 + i - p0 = i by omega]
    by_cases z : i = 0
    · subst z
      rw [if_pos nI_0, if_neg (by omega)]
      rfl
    · rw [if_neg (nI_ne0 (by omega) (by omega))]
      by_cases y : i ≤ most
      · rw [if_pos (nI_le y (by omega)), if_pos ⟨Nat.le_refl _, by omega, y⟩]
      · rw [if_neg (nI_ge (by omega) (by omega)), if_neg (by omega)]
        rfl
  intro n
  induction n with
  | zero => intro i μ h1 h2 hi hn; omega
  | succ n ih =>
    intro i μ h1 h2 hi hn
    rw [m_digits_B, h1, h2]
    by_cases h : p0 + i < len
    · rw [if_neg (nI_ge h (by omega)), if_pos (inb_nI (by omega) (by omega)), nI_clamp (by omega), isDigit_eq]
      show (if zb (zdig (μ.2.1 1 (p0 + i))) = 0 then _ else _) = _
      by_cases hd : zdig (μ.2.1 1 (p0 + i)) = true
      · rw [hd, if_neg (by decide)]
        by_cases hi2 : i ≤ most
        · rw [if_neg (nI_nlt hi2 (by omega)), nI_1, nI_1]
          have e := ih (i + 1) (sI 25 (nI (p0 + i + 1)) μ) sI_at (by rw [sI_ne (by decide)]; exact h2) (by omega) (by omega)
          have e3 : skp zdig (μ.2.1 1) len (most + 1 - i) (p0 + i) = skp zdig (μ.2.1 1) len (most + 1 - (i + 1)) (p0 + (i + 1)) := by
            rw [show most + 1 - i = (most + 1 - (i + 1)) + 1 by omega, skp, if_pos ⟨h, hd⟩]
            rfl
          have e4 : (10 * dgv (μ.2.1 1) p0 i + μ.2.1 1 (p0 + i)) - 48 = dgv (μ.2.1 1) p0 (i + 1) := by
            rw [dgv, Int32.mul_comm]
          rw [e4]
          refine Eq.trans e ?_
          rw [sI_sI, e3]
          have g5 := skp_ge (P := zdig) (g := μ.2.1 1) (len := len) (most + 1 - (i + 1)) (p0 + (i + 1))
          by_cases c : i ≤ skp zdig (μ.2.1 1) len (most + 1 - (i + 1)) (p0 + (i + 1)) - p0 ∧ 1 ≤ skp zdig (μ.2.1 1) len (most + 1 - (i + 1)) (p0 + (i + 1)) - p0 ∧ skp zdig (μ.2.1 1) len (most + 1 - (i + 1)) (p0 + (i + 1)) - p0 ≤ most
          · rw [if_pos c, if_pos ⟨by show i + 1 ≤ skp zdig (μ.2.1 1) len (most + 1 - (i + 1)) (p0 + (i + 1)) - p0; omega, c.2⟩]
            rfl
          · rw [if_neg c, if_neg (fun z => c ⟨by have := z.1; omega, z.2⟩)]
            rfl
        · have : i = most + 1 := by omega
          subst this
          rw [if_pos (nI_lt (by omega) (by omega)), stop _ μ h1 (Nat.le_refl _), Nat.sub_self]
          rfl
      · have hd : zdig (μ.2.1 1 (p0 + i)) = false := by simpa using hd
        rw [hd, if_pos (show zb false = 0 from rfl), stop i μ h1 hi, skp_no _ (fun z => by rw [hd] at z; exact absurd z.2 (by decide))]
    · rw [if_pos (nI_le (by omega) (by omega)), stop i μ h1 hi, skp_no _ (fun z => h z.1)]
