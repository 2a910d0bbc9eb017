theorem zlet_n {x : Int32} (h : zlet x = true) : ∃ t : Nat, 97 ≤ t ∧ t ≤ 122 ∧ x = nI t := by
  simp only [zlet, Bool.and_eq_true, Bool.not_eq_true', decide_eq_false_iff_not] at h
  obtain ⟨h1, h2⟩ := h
  have h0 : ¬ x < 0 := fun z => h1 (Int32.lt_trans z (by decide))
  obtain ⟨t, ht, rfl⟩ := nI_of h0
  refine ⟨t, ?_, ?_, rfl⟩
  · rcases Nat.lt_or_ge t 97 with z | z
    · exact absurd (nI_lt (b := 97) z (by decide)) h1
    · exact z
  · rcases Nat.lt_or_ge 122 t with z | z
    · exact absurd (nI_lt (a := 122) z ht) h2
    · exact z
/-- letters as digits to the base 100 -/
def wv (g : Nat → Int32) (p : Nat) : Nat → Nat
  | 0 => 0
  | k + 1 => 100 * wv g p k + ((g (p + k)).toNatClampNeg - 96)
/-- the word of n letters at p: f 1, sum 2, count 3, all 4, any 5 -/
def wcd (g : Nat → Int32) (p n : Nat) : Int32 :=
  if n = 1 ∧ g p = 102 then 1 else if n = 3 ∧ g p = 115 ∧ g (p + 1) = 117 ∧ g (p + 2) = 109 then 2
  else if n = 5 ∧ g p = 99 ∧ g (p + 1) = 111 ∧ g (p + 2) = 117 ∧ g (p + 3) = 110 ∧ g (p + 4) = 116 then 3
  else if n = 3 ∧ g p = 97 ∧ g (p + 1) = 108 ∧ g (p + 2) = 108 then 4 else if n = 3 ∧ g p = 97 ∧ g (p + 1) = 110 ∧ g (p + 2) = 121 then 5 else 0
theorem i64n {a b : Nat} (ha : a < 2 ^ 63) (hb : b < 2 ^ 63) : Int64.ofNat a = Int64.ofNat b ↔ a = b := by
  constructor
  · intro h
    have h2 := congrArg Int64.toInt h
    rw [Int64.toInt_ofNat_of_lt ha, Int64.toInt_ofNat_of_lt hb] at h2
    omega
  · intro h; rw [h]
def wfin (x2 : Int64) : Int32 := if lg_cmp x2 6 = 0 then 1 else if lg_cmp x2 192113 = 0 then 2 else if lg_cmp x2 315211420 = 0 then 3 else if lg_cmp x2 11212 = 0 then 4 else if lg_cmp x2 11425 = 0 then 5 else 0
theorem wfin_n {w : Nat} (h : w < 2 ^ 63) : wfin (Int64.ofNat w) = if w = 6 then 1 else if w = 192113 then 2 else if w = 315211420 then 3 else if w = 11212 then 4 else if w = 11425 then 5 else 0 := by
  have e : ∀ (c : Nat), c < 2 ^ 63 → ((lg_cmp (Int64.ofNat w) (Int64.ofNat c) = 0) = (w = c)) := fun c hc => propext ((lg_cmp_eq _ _).trans (i64n h hc))
  rw [wfin, show (6 : Int64) = Int64.ofNat 6 from rfl, show (192113 : Int64) = Int64.ofNat 192113 from rfl, show (315211420 : Int64) = Int64.ofNat 315211420 from rfl, show (11212 : Int64) = Int64.ofNat 11212 from rfl, show (11425 : Int64) = Int64.ofNat 11425 from rfl]
  simp only [e 6 (by decide), e 192113 (by decide), e 315211420 (by decide), e 11212 (by decide), e 11425 (by decide)]
theorem wv_lo {g : Nat → Int32} {p : Nat} : ∀ n, (∀ i, i < n + 1 → zlet (g (p + i)) = true) → 100 ^ n ≤ wv g p (n + 1)
  | 0, h => by
    obtain ⟨t, h1, h2, e⟩ := zlet_n (h 0 (by omega))
    rw [wv, wv, e, nI_clamp (by omega)]
    omega
  | n + 1, h => by
    have := wv_lo n (fun i hi => h i (by omega))
    rw [wv, Nat.pow_succ]
    omega
theorem wv_hi {g : Nat → Int32} {p : Nat} : ∀ n, (∀ i, i < n → zlet (g (p + i)) = true) → wv g p n < 100 ^ n
  | 0, h => by rw [wv]; decide
  | n + 1, h => by
    have := wv_hi n (fun i hi => h i (by omega))
    obtain ⟨t, h1, h2, e⟩ := zlet_n (h n (by omega))
    rw [wv, Nat.pow_succ, e, nI_clamp (by omega)]
    omega
theorem wfin_wcd {g : Nat → Int32} {p n : Nat} (hn : n ≤ 8) (h : ∀ i, i < n → zlet (g (p + i)) = true) : wfin (Int64.ofNat (wv g p n)) = wcd g p n := by
  have hh := wv_hi n h
  have h8 : (100 : Nat) ^ n ≤ 100 ^ 8 := Nat.pow_le_pow_right (by decide) hn
  rw [wfin_n (by omega), wcd]
  have big : 6 ≤ n → 100 ^ 5 ≤ wv g p n := fun z => by
    obtain ⟨k, rfl⟩ : ∃ k, n = k + 1 := ⟨n - 1, by omega⟩
    exact Nat.le_trans (Nat.pow_le_pow_right (by decide) (by omega)) (wv_lo k h)
  have eqn : ∀ {t c : Nat}, t < 2 ^ 31 → c < 2 ^ 31 → ((nI t = nI c) = (t = c)) := fun a b => propext (nI_eq a b)
  rcases Nat.lt_or_ge n 6 with z | z
  · match n, z, h with
    | 0, _, _ => simp [wv]
    | 1, _, h =>
      obtain ⟨t, h1, h2, e⟩ := zlet_n (h 0 (by omega))
      rw [Nat.add_zero] at e
      rw [wv, wv, Nat.add_zero, e, nI_clamp (by omega)]
      by_cases q : t = 102
      · subst q; rfl
      · have q2 : ¬ nI t = 102 := fun z => q ((nI_eq (by omega) (by decide)).mp (z : nI t = nI 102))
        simp only [q2, and_false, if_false]
        rw [if_neg (by omega), if_neg (by omega), if_neg (by omega), if_neg (by omega), if_neg (by omega)]
        simp
    | 2, _, h =>
      have a := wv_lo 1 h
      have b := wv_hi 2 h
      rw [if_neg (by omega), if_neg (by omega), if_neg (by omega), if_neg (by omega), if_neg (by omega)]
      simp
    | 3, _, h =>
      obtain ⟨t0, a1, a2, e0⟩ := zlet_n (h 0 (by omega))
      obtain ⟨t1, b1, b2, e1⟩ := zlet_n (h 1 (by omega))
      obtain ⟨t2, c1, c2, e2⟩ := zlet_n (h 2 (by omega))
      rw [Nat.add_zero] at e0
      have ew : wv g p 3 = 100 * (100 * (t0 - 96) + (t1 - 96)) + (t2 - 96) := by
        simp only [wv, Nat.add_zero, e0, e1, e2, Nat.mul_zero, Nat.zero_add]
        rw [nI_clamp (by omega), nI_clamp (by omega), nI_clamp (by omega)]
      have k : ∀ {t : Nat} (c : Nat), t ≤ 122 → c < 2 ^ 31 → ((nI t = nI c) = (t = c)) := fun c x y => propext (nI_eq (by omega) y)
      rw [ew, e0, e1, e2]
      have f0 : ∀ c : Nat, c < 2 ^ 31 → ((nI t0 = nI c) = (t0 = c)) := fun c y => k c a2 y
      have f1 : ∀ c : Nat, c < 2 ^ 31 → ((nI t1 = nI c) = (t1 = c)) := fun c y => k c b2 y
      have f2 : ∀ c : Nat, c < 2 ^ 31 → ((nI t2 = nI c) = (t2 = c)) := fun c y => k c c2 y
      rw [show (115 : Int32) = nI 115 from rfl, show (117 : Int32) = nI 117 from rfl, show (109 : Int32) = nI 109 from rfl, show (97 : Int32) = nI 97 from rfl, show (108 : Int32) = nI 108 from rfl, show (110 : Int32) = nI 110 from rfl, show (121 : Int32) = nI 121 from rfl]
      simp only [f0 115 (by decide), f1 117 (by decide), f2 109 (by decide), f0 97 (by decide), f1 108 (by decide), f2 108 (by decide), f1 110 (by decide), f2 121 (by decide)]
      rw [if_neg (show ¬ (100 * (100 * (t0 - 96) + (t1 - 96)) + (t2 - 96) = 6) by omega), if_neg (show ¬ (3 = 1 ∧ nI t0 = 102) by simp)]
      by_cases q1 : t0 = 115 ∧ t1 = 117 ∧ t2 = 109
      · rw [if_pos (by omega), if_pos ⟨rfl, q1⟩]
      · rw [if_neg (by omega), if_neg (fun z => q1 z.2), if_neg (by omega), if_neg (fun z => absurd z.1 (by decide))]
        by_cases q2 : t0 = 97 ∧ t1 = 108 ∧ t2 = 108
        · rw [if_pos (by omega), if_pos ⟨rfl, q2⟩]
        · rw [if_neg (by omega), if_neg (fun z => q2 z.2)]
          by_cases q3 : t0 = 97 ∧ t1 = 110 ∧ t2 = 121
          · rw [if_pos (by omega), if_pos ⟨rfl, q3⟩]
          · rw [if_neg (by omega), if_neg (fun z => q3 z.2)]
    | 4, _, h =>
      have a := wv_lo 3 h
      have b := wv_hi 4 h
      rw [if_neg (by omega), if_neg (by omega), if_neg (by omega), if_neg (by omega), if_neg (by omega)]
      simp
    | 5, _, h =>
      obtain ⟨t0, a1, a2, e0⟩ := zlet_n (h 0 (by omega))
      obtain ⟨t1, b1, b2, e1⟩ := zlet_n (h 1 (by omega))
      obtain ⟨t2, c1, c2, e2⟩ := zlet_n (h 2 (by omega))
      obtain ⟨t3, d1, d2, e3⟩ := zlet_n (h 3 (by omega))
      obtain ⟨t4, x1, x2, e4⟩ := zlet_n (h 4 (by omega))
      rw [Nat.add_zero] at e0
      have ew : wv g p 5 = 100 * (100 * (100 * (100 * (t0 - 96) + (t1 - 96)) + (t2 - 96)) + (t3 - 96)) + (t4 - 96) := by
        simp only [wv, Nat.add_zero, e0, e1, e2, e3, e4, Nat.mul_zero, Nat.zero_add]
        rw [nI_clamp (by omega), nI_clamp (by omega), nI_clamp (by omega), nI_clamp (by omega), nI_clamp (by omega)]
      have k : ∀ {t : Nat} (c : Nat), t ≤ 122 → c < 2 ^ 31 → ((nI t = nI c) = (t = c)) := fun c x y => propext (nI_eq (by omega) y)
      rw [ew, e0, e1, e2, e3, e4]
      rw [show (99 : Int32) = nI 99 from rfl, show (111 : Int32) = nI 111 from rfl, show (117 : Int32) = nI 117 from rfl, show (110 : Int32) = nI 110 from rfl, show (116 : Int32) = nI 116 from rfl]
      simp only [k 99 a2 (by decide), k 111 b2 (by decide), k 117 c2 (by decide), k 110 d2 (by decide), k 116 x2 (by decide)]
      rw [if_neg (by omega), if_neg (by omega)]
      by_cases q1 : t0 = 99 ∧ t1 = 111 ∧ t2 = 117 ∧ t3 = 110 ∧ t4 = 116
      · rw [if_pos (by omega), if_neg (by simp), if_neg (by simp), if_pos ⟨rfl, q1⟩]
      · rw [if_neg (by omega), if_neg (by omega), if_neg (by omega), if_neg (by simp), if_neg (by simp), if_neg (fun z => q1 z.2), if_neg (by simp), if_neg (by simp)]
  · have b := big z
    rw [if_neg (by omega), if_neg (by omega), if_neg (by omega), if_neg (by omega), if_neg (by omega), if_neg (by omega), if_neg (by omega), if_neg (by omega), if_neg (by omega), if_neg (by omega)]
theorem skp_run {P : Int32 → Bool} {g : Nat → Int32} {len : Nat} : ∀ (k n p : Nat), (∀ i, i < k → p + i < len ∧ P (g (p + i)) = true) → ¬ (p + k < len ∧ P (g (p + k)) = true) → k ≤ n → skp P g len n p = p + k
  | 0, n, p, _, h2, _ => skp_no n h2
  | k + 1, 0, p, _, _, h => by omega
  | k + 1, n + 1, p, h1, h2, h => by
    rw [skp, if_pos (h1 0 (by omega)), skp_run k n (p + 1) (fun i hi => by have := h1 (i + 1) (by omega); rw [show p + 1 + i = p + (i + 1) by omega]; exact this) (by rw [show p + 1 + k = p + (k + 1) by omega]; exact h2) (by omega)]
    omega
def wx (g : Nat → Int32) (p k : Nat) : Int64 := if k ≤ 8 then Int64.ofNat (wv g p k) else 1
theorem i64s (w t : Nat) (h : 97 ≤ t) (h2 : t ≤ 122) : ((100 : Int64) * Int64.ofNat w + (nI t).toInt64 - 97) + 1 = Int64.ofNat (100 * w + (t - 96)) := by
  have e1 : (nI t).toInt64 = Int64.ofNat t := nI_l (by omega)
  have e2 : Int64.ofNat t = Int64.ofNat (t - 96) + 96 := by rw [show (96 : Int64) = Int64.ofNat 96 from rfl, ← Int64.ofNat_add, show t - 96 + 96 = t by omega]
  rw [e1, e2, Int64.ofNat_add, Int64.ofNat_mul, show (100 : Int64) = Int64.ofNat 100 from rfl, Int64.sub_eq_add_neg, Int64.add_assoc, Int64.add_assoc, Int64.add_assoc, show (96 + (-97 + 1) : Int64) = 0 by decide, Int64.add_zero]
theorem word_end (x2 : Int64) (μ : MS) : (if (lg_cmp x2 6) = 0 then some ((1 : Int32), μ) else (if (lg_cmp x2 192113) = 0 then some (2, μ) else (if (lg_cmp x2 315211420) = 0 then some (3, μ) else (if (lg_cmp x2 11212) = 0 then some (4, μ) else (if (lg_cmp x2 11425) = 0 then some (5, μ) else some (0, μ)))))) = some (wfin x2, μ) := by
  rw [wfin]
  repeat' split
  all_goals rfl
theorem wx_wcd {g : Nat → Int32} {p k : Nat} (h : ∀ i, i < k → zlet (g (p + i)) = true) : wfin (wx g p k) = wcd g p k := by
  rw [wx]
  by_cases hk : k ≤ 8
  · rw [if_pos hk, wfin_wcd hk h]
  · rw [if_neg hk, wcd, if_neg (by omega), if_neg (by omega), if_neg (by omega), if_neg (by omega), if_neg (by omega)]
    decide
theorem word_B {len p : Nat} (hl : len ≤ 200) (hp : p ≤ 1000) : ∀ (n k : Nat) (μ : MS), μ.1 25 = nI p → μ.1 2 = nI len → (∀ i, i < k → p + i < len ∧ zlet (μ.2.1 1 (p + i)) = true) → k ≤ 200 → 200 < k + n → m_word_B n 0 (nI k) (wx (μ.2.1 1) p k) μ = some (wcd (μ.2.1 1) p (skp zlet (μ.2.1 1) len 200 p - p), μ) := by
  intro n
  induction n with
  | zero => intro k μ _ _ _ h1 h2; omega
  | succ n ih =>
    intro k μ h1 h2 hk hk2 hn
    have ex : ¬ (p + k < len ∧ zlet (μ.2.1 1 (p + k)) = true) → some (wfin (wx (μ.2.1 1) p k), μ) = some (wcd (μ.2.1 1) p (skp zlet (μ.2.1 1) len 200 p - p), μ) := fun z => by
      rw [skp_run k 200 p hk z hk2, show p + k - p = k by omega, wx_wcd (fun i hi => (hk i hi).2)]
    rw [m_word_B, h1, h2, nI_add, word_end]
    by_cases h : p + k < len
    · rw [if_neg (nI_ge h (by omega)), if_pos (inb_nI (by omega) (by omega)), nI_clamp (by omega), isSmall_eq]
      show (if zb (zlet (μ.2.1 1 (p + k))) = 0 then _ else _) = _
      by_cases hd : zlet (μ.2.1 1 (p + k)) = true
      · rw [hd, if_neg (by decide), nI_1]
        have hk3 : ∀ i, i < k + 1 → p + i < len ∧ zlet (μ.2.1 1 (p + i)) = true := fun i hi => by
          by_cases e : i = k
          · subst e; exact ⟨h, hd⟩
          · exact hk i (by omega)
        have e := ih (k + 1) μ h1 h2 hk3 (by omega) (by omega)
        by_cases q : 8 ≤ k
        · rw [if_pos (nI_le (a := 8) q (by omega))]
          rw [show wx (μ.2.1 1) p (k + 1) = 1 by rw [wx, if_neg (by omega)]] at e
          exact e
        · rw [if_neg (nI_ge (b := 8) (by omega) (by decide))]
          obtain ⟨t, a1, a2, a3⟩ := zlet_n hd
          rw [show wx (μ.2.1 1) p (k + 1) = ((100 : Int64) * wx (μ.2.1 1) p k + (μ.2.1 1 (p + k)).toInt64 - 97) + 1 by
            rw [wx, if_pos (by omega), wx, if_pos (by omega), a3, i64s _ _ a1 a2, wv, a3, nI_clamp (by omega)]] at e
          exact e
      · have hd : zlet (μ.2.1 1 (p + k)) = false := by simpa using hd
        rw [hd, if_pos rfl]
        exact ex (fun z => by rw [hd] at z; exact absurd z.2 (by decide))
    · rw [if_pos (nI_le (by omega) (by omega))]
      exact ex (fun z => h z.1)
theorem word_eq {len p : Nat} {μ : MS} (hl : len ≤ 200) (hp : p ≤ 1000) (h1 : μ.1 25 = nI p) (h2 : μ.1 2 = nI len) : m_word μ = some (wcd (μ.2.1 1) p (skp zlet (μ.2.1 1) len 200 p - p), μ) :=
  word_B hl hp 4096 0 μ h1 h2 (fun i hi => absurd hi (by omega)) (by omega) (by omega)
theorem digits_eq {len p0 : Nat} {most : Nat} {w : Int32} {μ : MS} (hl : len ≤ 200) (hm : most ≤ 100) (hp : p0 ≤ 1000) (h1 : μ.1 25 = nI p0) (h2 : μ.1 2 = nI len) : m_digits (nI most) w μ = (if 1 ≤ skp zdig (μ.2.1 1) len (most + 1) p0 - p0 ∧ skp zdig (μ.2.1 1) len (most + 1) p0 - p0 ≤ most then some (dgv (μ.2.1 1) p0 (skp zdig (μ.2.1 1) len (most + 1) p0 - p0), sI 25 (nI (skp zdig (μ.2.1 1) len (most + 1) p0)) μ) else some (dgv (μ.2.1 1) p0 (skp zdig (μ.2.1 1) len (most + 1) p0 - p0), mFail w (sI 25 (nI (skp zdig (μ.2.1 1) len (most + 1) p0)) μ))) := by
  have e := digits_B (w := w) hl hm hp 4096 0 μ h1 h2 (by omega) (by omega)
  rw [Nat.sub_zero, Nat.add_zero] at e
  refine Eq.trans e ?_
  by_cases c : 1 ≤ skp zdig (μ.2.1 1) len (most + 1) p0 - p0 ∧ skp zdig (μ.2.1 1) len (most + 1) p0 - p0 ≤ most
  · rw [if_pos c, if_pos ⟨Nat.zero_le _, c⟩]
  · rw [if_neg c, if_neg (fun z => c z.2)]
