theorem zlet_n {x : Int32} (h : zlet x = true) : ∃ t : Nat, 97 ≤ t ∧ t ≤ 122 ∧ x = nI t := by
  simp only [zlet, Bool.and_eq_true, Bool.not_eq_true', decide_eq_false_iff_not] at h
  obtain ⟨h1, h2⟩ := h
  have h0 : ¬ x < 0 := fun z => h1 (Int32.lt_trans z (by decide))
  obtain ⟨t, ht, rfl⟩ := nI_of h0
  refine ⟨t, ?_, ?_, rfl⟩
  · rcases Nat.lt_or_ge t 97 with z | z
    · exact absurd (nI_lt (b := 97) z (by decide)) h1
    · exact z
  · rcases Nat.lt_or_ge 122 t with z | z
    · exact absurd (nI_lt (a := 122) z ht) h2
    · exact z
/-- letters as digits to the base 100 -/
def wv (g : Nat → Int32) (p : Nat) : Nat → Nat
  | 0 => 0
  | k + 1 => 100 * wv g p k + ((g (p + k)).toNatClampNeg - 96)
/-- the word of n letters at p: f 1, sum 2, count 3, all 4, any 5 -/
def wcd (g : Nat → Int32) (p n : Nat) : Int32 :=
  if n = 1 ∧ g p = 102 then 1 else if n = 3 ∧ g p = 115 ∧ g (p + 1) = 117 ∧ g (p + 2) = 109 then 2
  else if n = 5 ∧ g p = 99 ∧ g (p + 1) = 111 ∧ g (p + 2) = 117 ∧ g (p + 3) = 110 ∧ g (p + 4) = 116 then 3
  else if n = 3 ∧ g p = 97 ∧ g (p + 1) = 108 ∧ g (p + 2) = 108 then 4 else if n = 3 ∧ g p = 97 ∧ g (p + 1) = 110 ∧ g (p + 2) = 121 then 5 else 0
theorem i64n {a b : Nat} (ha : a < 2 ^ 63) (hb : b < 2 ^ 63) : Int64.ofNat a = Int64.ofNat b ↔ a = b := by
  constructor
  · intro h
    have h2 := congrArg Int64.toInt h
    rw [Int64.toInt_ofNat_of_lt ha, Int64.toInt_ofNat_of_lt hb] at h2
    omega
  · intro h; rw [h]
def wfin (x2 : Int64) : Int32 := if lg_cmp x2 6 = 0 then 1 else if lg_cmp x2 192113 = 0 then 2 else if lg_cmp x2 315211420 = 0 then 3 else if lg_cmp x2 11212 = 0 then 4 else if lg_cmp x2 11425 = 0 then 5 else 0
theorem wfin_n {w : Nat} (h : w < 2 ^ 63) : wfin (Int64.ofNat w) = if w = 6 then 1 else if w = 192113 then 2 else if w = 315211420 then 3 else if w = 11212 then 4 else if w = 11425 then 5 else 0 := by
  have e : ∀ (c : Nat), c < 2 ^ 63 → ((lg_cmp (Int64.ofNat w) (Int64.ofNat c) = 0) = (w = c)) := fun c hc => propext ((lg_cmp_eq _ _).trans (i64n h hc))
  rw [wfin, show (6 : Int64) = Int64.ofNat 6 from rfl, show (192113 : Int64) = Int64.ofNat 192113 from rfl, show (315211420 : Int64) = Int64.ofNat 315211420 from rfl, show (11212 : Int64) = Int64.ofNat 11212 from rfl, show (11425 : Int64) = Int64.ofNat 11425 from rfl]
  simp only [e 6 (by decide), e 192113 (by decide), e 315211420 (by decide), e 11212 (by decide), e 11425 (by decide)]
theorem wv_lo {g : Nat → Int32} {p : Nat} : ∀ n, (∀ i, i < n + 1 → zlet (g (p + i)) = true) → 100 ^ n ≤ wv g p (n + 1)
  | 0, h => by
    obtain ⟨t, h1, h2, e⟩ := zlet_n (h 0 (by omega))
    rw [wv, wv, e, nI_clamp (by omega)]
    omega
  | n + 1, h => by
    have := wv_lo n (fun i hi => h i (by omega))
    rw [wv, Nat.pow_succ]
    omega
theorem wv_hi {g : Nat → Int32} {p : Nat} : ∀ n, (∀ i, i < n → zlet (g (p + i)) = true) → wv g p n < 100 ^ n
  | 0, h => by rw [wv]; decide
  | n + 1, h => by
    have := wv_hi n (fun i hi => h i (by omega))
    obtain ⟨t, h1, h2, e⟩ := zlet_n (h n (by omega))
    rw [wv, Nat.pow_succ, e, nI_clamp (by omega)]
    omega
theorem wno {w c : Nat} {A : Prop} (h : w ≠ c) (hA : ¬ A) : (w = c ↔ A) := ⟨fun z => absurd z h, fun z => absurd z hA⟩
theorem chq {x : Int32} {t : Nat} (c : Nat) (e : x = nI t) (ht : t ≤ 122) (hc : c ≤ 122) : x = nI c ↔ t = c := by
  rw [e]
  exact nI_eq (by omega) (by omega)
theorem wv_c {g : Nat → Int32} {p n : Nat} (h : ∀ i, i < n → zlet (g (p + i)) = true) :
    (wv g p n = 6 ↔ (n = 1 ∧ g p = 102)) ∧ (wv g p n = 192113 ↔ (n = 3 ∧ g p = 115 ∧ g (p + 1) = 117 ∧ g (p + 2) = 109)) ∧ (wv g p n = 315211420 ↔ (n = 5 ∧ g p = 99 ∧ g (p + 1) = 111 ∧ g (p + 2) = 117 ∧ g (p + 3) = 110 ∧ g (p + 4) = 116)) ∧ (wv g p n = 11212 ↔ (n = 3 ∧ g p = 97 ∧ g (p + 1) = 108 ∧ g (p + 2) = 108)) ∧ (wv g p n = 11425 ↔ (n = 3 ∧ g p = 97 ∧ g (p + 1) = 110 ∧ g (p + 2) = 121)) := by
  rcases Nat.lt_or_ge n 6 with z | z
  · match n, z, h with
    | 0, _, _ =>
      exact ⟨wno (by rw [wv]; decide) (fun z => absurd z.1 (by decide)), wno (by rw [wv]; decide) (fun z => absurd z.1 (by decide)), wno (by rw [wv]; decide) (fun z => absurd z.1 (by decide)), wno (by rw [wv]; decide) (fun z => absurd z.1 (by decide)), wno (by rw [wv]; decide) (fun z => absurd z.1 (by decide))⟩
    | 1, _, h =>
      obtain ⟨t, h1, h2, e⟩ := zlet_n (h 0 (by omega))
      have ew : wv g p 1 = t - 96 := by
        rw [wv, wv, e, nI_clamp (by omega)]; omega
      rw [Nat.add_zero] at e
      refine ⟨?_, wno (by omega) (fun z => absurd z.1 (by decide)), wno (by omega) (fun z => absurd z.1 (by decide)), wno (by omega) (fun z => absurd z.1 (by decide)), wno (by omega) (fun z => absurd z.1 (by decide))⟩
      rw [ew]
      exact ⟨fun z => ⟨rfl, (chq 102 e h2 (by decide)).mpr (by omega)⟩, fun z => by have := (chq 102 e h2 (by decide)).mp z.2; omega⟩
    | 2, _, h =>
      have a : 100 ≤ wv g p 2 := wv_lo 1 h
      have b : wv g p 2 < 10000 := wv_hi 2 h
      exact ⟨wno (by omega) (fun z => absurd z.1 (by decide)), wno (by omega) (fun z => absurd z.1 (by decide)), wno (by omega) (fun z => absurd z.1 (by decide)), wno (by omega) (fun z => absurd z.1 (by decide)), wno (by omega) (fun z => absurd z.1 (by decide))⟩
    | 3, _, h =>
      obtain ⟨t0, a1, a2, e0⟩ := zlet_n (h 0 (by omega))
      obtain ⟨t1, b1, b2, e1⟩ := zlet_n (h 1 (by omega))
      obtain ⟨t2, c1, c2, e2⟩ := zlet_n (h 2 (by omega))
      have ew : wv g p 3 = 100 * (100 * (t0 - 96) + (t1 - 96)) + (t2 - 96) := by
        simp only [wv, e0, e1, e2, Nat.mul_zero, Nat.zero_add]
        rw [nI_clamp (by omega), nI_clamp (by omega), nI_clamp (by omega)]
      rw [Nat.add_zero] at e0
      have key : ∀ x y z : Nat, 97 ≤ x → x ≤ 122 → 97 ≤ y → y ≤ 122 → 97 ≤ z → z ≤ 122 → (100 * (100 * (t0 - 96) + (t1 - 96)) + (t2 - 96) = 100 * (100 * (x - 96) + (y - 96)) + (z - 96) ↔ (3 = 3 ∧ g p = nI x ∧ g (p + 1) = nI y ∧ g (p + 2) = nI z)) := fun x y z x1 x2 y1 y2 z1 z2 => by
        rw [chq x e0 a2 x2, chq y e1 b2 y2, chq z e2 c2 z2]
        constructor
        · intro q; exact ⟨rfl, by omega, by omega, by omega⟩
        · intro q; omega
      rw [ew]
      exact ⟨wno (by omega) (fun z => absurd z.1 (by decide)), key 115 117 109 (by decide) (by decide) (by decide) (by decide) (by decide) (by decide), wno (by omega) (fun z => absurd z.1 (by decide)), key 97 108 108 (by decide) (by decide) (by decide) (by decide) (by decide) (by decide), key 97 110 121 (by decide) (by decide) (by decide) (by decide) (by decide) (by decide)⟩
    | 4, _, h =>
      have a : 1000000 ≤ wv g p 4 := wv_lo 3 h
      have b : wv g p 4 < 100000000 := wv_hi 4 h
      exact ⟨wno (by omega) (fun z => absurd z.1 (by decide)), wno (by omega) (fun z => absurd z.1 (by decide)), wno (by omega) (fun z => absurd z.1 (by decide)), wno (by omega) (fun z => absurd z.1 (by decide)), wno (by omega) (fun z => absurd z.1 (by decide))⟩
    | 5, _, h =>
      obtain ⟨t0, a1, a2, e0⟩ := zlet_n (h 0 (by omega))
      obtain ⟨t1, b1, b2, e1⟩ := zlet_n (h 1 (by omega))
      obtain ⟨t2, c1, c2, e2⟩ := zlet_n (h 2 (by omega))
      obtain ⟨t3, d1, d2, e3⟩ := zlet_n (h 3 (by omega))
      obtain ⟨t4, x1, x2, e4⟩ := zlet_n (h 4 (by omega))
      have ew : wv g p 5 = 100 * (100 * (100 * (100 * (t0 - 96) + (t1 - 96)) + (t2 - 96)) + (t3 - 96)) + (t4 - 96) := by
        simp only [wv, e0, e1, e2, e3, e4, Nat.mul_zero, Nat.zero_add]
        rw [nI_clamp (by omega), nI_clamp (by omega), nI_clamp (by omega), nI_clamp (by omega), nI_clamp (by omega)]
      rw [Nat.add_zero] at e0
      rw [ew]
      refine ⟨wno (by omega) (fun z => absurd z.1 (by decide)), wno (by omega) (fun z => absurd z.1 (by decide)), ?_, wno (by omega) (fun z => absurd z.1 (by decide)), wno (by omega) (fun z => absurd z.1 (by decide))⟩
      show _ ↔ (5 = 5 ∧ g p = nI 99 ∧ g (p + 1) = nI 111 ∧ g (p + 2) = nI 117 ∧ g (p + 3) = nI 110 ∧ g (p + 4) = nI 116)
      rw [chq 99 e0 a2 (by decide), chq 111 e1 b2 (by decide), chq 117 e2 c2 (by decide), chq 110 e3 d2 (by decide), chq 116 e4 x2 (by decide)]
      constructor
      · intro q; exact ⟨rfl, by omega, by omega, by omega, by omega, by omega⟩
      · intro q; omega
  · have b : 10000000000 ≤ wv g p n := by
      obtain ⟨k, rfl⟩ : ∃ k, n = k + 1 := ⟨n - 1, by omega⟩
      exact Nat.le_trans (Nat.pow_le_pow_right (n := 100) (by decide) (show 5 ≤ k by omega)) (wv_lo k h)
    exact ⟨wno (by omega) (fun z => by omega), wno (by omega) (fun z => by omega), wno (by omega) (fun z => by omega), wno (by omega) (fun z => by omega), wno (by omega) (fun z => by omega)⟩
theorem wfin_wcd {g : Nat → Int32} {p n : Nat} (hn : n ≤ 8) (h : ∀ i, i < n → zlet (g (p + i)) = true) : wfin (Int64.ofNat (wv g p n)) = wcd g p n := by
  have hh := wv_hi n h
  have h8 : (100 : Nat) ^ n ≤ 100 ^ 8 := Nat.pow_le_pow_right (by decide) hn
  obtain ⟨q1, q2, q3, q4, q5⟩ := wv_c h
  rw [wfin_n (by omega), wcd]
  simp only [q1, q2, q3, q4, q5]
theorem skp_run {P : Int32 → Bool} {g : Nat → Int32} {len : Nat} : ∀ (k n p : Nat), (∀ i, i < k → p + i < len ∧ P (g (p + i)) = true) → ¬ (p + k < len ∧ P (g (p + k)) = true) → k ≤ n → skp P g len n p = p + k
  | 0, n, p, _, h2, _ => skp_no n h2
  | k + 1, 0, p, _, _, h => by omega
  | k + 1, n + 1, p, h1, h2, h => by
    rw [skp, if_pos (show p < len ∧ P (g p) = true from h1 0 (by omega)), skp_run k n (p + 1) (fun i hi => by have := h1 (i + 1) (by omega); rw [show p + 1 + i = p + (i + 1) by omega]; exact this) (by rw [show p + 1 + k = p + (k + 1) by omega]; exact h2) (by omega)]
    omega
def wx (g : Nat → Int32) (p k : Nat) : Int64 := if k ≤ 8 then Int64.ofNat (wv g p k) else 1
theorem i64s (w t : Nat) (h : 97 ≤ t) (h2 : t ≤ 122) : ((100 : Int64) * Int64.ofNat w + (nI t).toInt64 - 97) + 1 = Int64.ofNat (100 * w + (t - 96)) := by
  have e1 : (nI t).toInt64 = Int64.ofNat t := nI_l (by omega)
  have e2 : Int64.ofNat t = Int64.ofNat (t - 96) + 96 := by rw [show (96 : Int64) = Int64.ofNat 96 from rfl, ← Int64.ofNat_add, show t - 96 + 96 = t by omega]
  rw [e1, e2, Int64.ofNat_add, Int64.ofNat_mul, show (100 : Int64) = Int64.ofNat 100 from rfl, Int64.sub_eq_add_neg, Int64.add_assoc, Int64.add_assoc, Int64.add_assoc, show (96 + (-97 + 1) : Int64) = 0 by decide, Int64.add_zero]
theorem word_end (x2 : Int64) (μ : MS) : (if (lg_cmp x2 6) = 0 then some ((1 : Int32), μ) else (if (lg_cmp x2 192113) = 0 then some (2, μ) else (if (lg_cmp x2 315211420) = 0 then some (3, μ) else (if (lg_cmp x2 11212) = 0 then some (4, μ) else (if (lg_cmp x2 11425) = 0 then some (5, μ) else some (0, μ)))))) = some (wfin x2, μ) := by
  rw [wfin]
  repeat' split
  all_goals rfl
theorem wx_wcd {g : Nat → Int32} {p k : Nat} (h : ∀ i, i < k → zlet (g (p + i)) = true) : wfin (wx g p k) = wcd g p k := by
  rw [wx]
  by_cases hk : k ≤ 8
  · rw [if_pos hk, wfin_wcd hk h]
  · rw [if_neg hk, wcd, if_neg (by omega), if_neg (by omega), if_neg (by omega), if_neg (by omega), if_neg (by omega)]
    decide
theorem word_B {len p : Nat} (hl : len ≤ 200) (hp : p ≤ 1000) : ∀ (n k : Nat) (μ : MS), μ.1 25 = nI p → μ.1 2 = nI len → (∀ i, i < k → p + i < len ∧ zlet (μ.2.1 1 (p + i)) = true) → k ≤ 200 → 200 < k + n → m_word_B n 0 (nI k) (wx (μ.2.1 1) p k) μ = some (wcd (μ.2.1 1) p (skp zlet (μ.2.1 1) len 200 p - p), μ) := by
  intro n
  induction n with
  | zero => intro k μ _ _ _ h1 h2; omega
  | succ n ih =>
    intro k μ h1 h2 hk hk2 hn
    have ex : ¬ (p + k < len ∧ zlet (μ.2.1 1 (p + k)) = true) → some (wfin (wx (μ.2.1 1) p k), μ) = some (wcd (μ.2.1 1) p (skp zlet (μ.2.1 1) len 200 p - p), μ) := fun z => by
      rw [skp_run k 200 p hk z hk2, show p + k - p = k by omega, wx_wcd (fun i hi => (hk i hi).2)]
    rw [m_word_B, h1, h2, nI_add, word_end]
    by_cases h : p + k < len
    · rw [if_neg (nI_ge h (by omega)), if_pos (inb_nI (by omega) (by omega)), nI_clamp (by omega), isSmall_eq]
      show (if zb (zlet (μ.2.1 1 (p + k))) = 0 then _ else _) = _
      by_cases hd : zlet (μ.2.1 1 (p + k)) = true
      · rw [hd, if_neg (by decide), nI_1]
        have hk3 : ∀ i, i < k + 1 → p + i < len ∧ zlet (μ.2.1 1 (p + i)) = true := fun i hi => by
          by_cases e : i = k
          · subst e; exact ⟨h, hd⟩
          · exact hk i (by omega)
        have e := ih (k + 1) μ h1 h2 hk3 (by omega) (by omega)
        by_cases q : 8 ≤ k
        · rw [if_pos (show (8 : Int32) ≤ nI k from nI_le (a := 8) q (by omega))]
          rw [show wx (μ.2.1 1) p (k + 1) = 1 by rw [wx, if_neg (by omega)]] at e
          exact e
        · rw [if_neg (show ¬ (8 : Int32) ≤ nI k from nI_ge (a := k) (b := 8) (by omega) (by decide))]
          obtain ⟨t, a1, a2, a3⟩ := zlet_n hd
          rw [show wx (μ.2.1 1) p (k + 1) = ((100 : Int64) * wx (μ.2.1 1) p k + (μ.2.1 1 (p + k)).toInt64 - 97) + 1 by
            rw [wx, if_pos (by omega), wx, if_pos (by omega), a3, i64s _ _ a1 a2, wv, a3, nI_clamp (by omega)]] at e
          exact e
      · have hd : zlet (μ.2.1 1 (p + k)) = false := by simpa using hd
        rw [hd, if_pos (show zb false = 0 from rfl)]
        exact ex (fun z => by rw [hd] at z; exact absurd z.2 (by decide))
    · rw [if_pos (nI_le (by omega) (by omega))]
      exact ex (fun z => h z.1)
theorem word_eq {len p : Nat} {μ : MS} (hl : len ≤ 200) (hp : p ≤ 1000) (h1 : μ.1 25 = nI p) (h2 : μ.1 2 = nI len) : m_word μ = some (wcd (μ.2.1 1) p (skp zlet (μ.2.1 1) len 200 p - p), μ) :=
  word_B hl hp 4096 0 μ h1 h2 (fun i hi => absurd hi (by omega)) (by omega) (by omega)
theorem digits_eq {len p0 : Nat} {most : Nat} {w : Int32} {μ : MS} (hl : len ≤ 200) (hm : most ≤ 100) (hp : p0 ≤ 1000) (h1 : μ.1 25 = nI p0) (h2 : μ.1 2 = nI len) : m_digits (nI most) w μ = (if 1 ≤ skp zdig (μ.2.1 1) len (most + 1) p0 - p0 ∧ skp zdig (μ.2.1 1) len (most + 1) p0 - p0 ≤ most then some (dgv (μ.2.1 1) p0 (skp zdig (μ.2.1 1) len (most + 1) p0 - p0), sI 25 (nI (skp zdig (μ.2.1 1) len (most + 1) p0)) μ) else some (dgv (μ.2.1 1) p0 (skp zdig (μ.2.1 1) len (most + 1) p0 - p0), mFail w (sI 25 (nI (skp zdig (μ.2.1 1) len (most + 1) p0)) μ))) := by
  have e := digits_B (w := w) hl hm hp 4096 0 μ h1 h2 (by omega) (by omega)
  rw [Nat.sub_zero, Nat.add_zero] at e
  refine Eq.trans e ?_
  by_cases c : 1 ≤ skp zdig (μ.2.1 1) len (most + 1) p0 - p0 ∧ skp zdig (μ.2.1 1) len (most + 1) p0 - p0 ≤ most
  · rw [if_pos c, if_pos ⟨Nat.zero_le _, c⟩]
    rfl
  · rw [if_neg c, if_neg (fun z => c z.2)]
    rfl
