/-! brackets: what the wrapping of what is printed costs -/
def wl (k b : Int32) : Nat := if k = 2 then (if b = 0 ∨ b = 1 then 2 else 0) else if k = 1 then (if b = 0 then 2 else 0) else 0
def wrr (k b : Int32) : Nat := if k = 1 then (if b = 0 ∨ b = 1 then 2 else 0) else if k = 0 then (if b = 0 then 2 else 0) else 0
def cwN (k kl kr : Int32) (l r : Nat) : Nat := if k = 2 then wl 2 kl + l else if k = 3 ∨ k = 4 then 1 + l else if k = 0 ∨ k = 1 then l + r + wl k kl + wrr k kr else 0
def cw (X : LQ) : Nat → Nat → Nat
  | 0, _ => 0
  | n + 1, a => cwN (LQ.K X a) (LQ.K X (a + 1)) (LQ.K X (LQ.R X a).toNatClampNeg) (cw X n (a + 1)) (cw X n (LQ.R X a).toNatClampNeg)
theorem cwN_0 {k kl kr : Int32} {l r : Nat} (h : 5 ≤ k) : cwN k kl kr l r = 0 := by
  have n : ∀ c : Int32, c < 5 → ¬ k = c := fun c hc e => absurd h (Int32.not_le.mpr (by rw [e]; exact hc))
  rw [cwN, if_neg (n 2 (by decide)), if_neg (fun z => z.elim (n 3 (by decide)) (n 4 (by decide))), if_neg (fun z => z.elim (n 0 (by decide)) (n 1 (by decide)))]
theorem cwN_un {k kl kr kr' : Int32} {l r r' : Nat} (h : un k) : cwN k kl kr l r = cwN k kl kr' l r' := by
  rcases h with rfl | rfl | rfl
  · rw [cwN, cwN, if_pos rfl, if_pos rfl]
  · rw [cwN, cwN, if_neg (by decide), if_pos (by decide), if_neg (by decide), if_pos (by decide)]
  · rw [cwN, cwN, if_neg (by decide), if_pos (by decide), if_neg (by decide), if_pos (by decide)]
theorem lf_5 {k v : Int32} (h : lf k v) : 5 ≤ k := by
  rcases h with ⟨rfl, -⟩ | ⟨rfl | rfl | rfl, -⟩ <;> decide
theorem cw_g {X Y : LQ} {d : Nat} : ∀ {n m : Nat} {ty : Bool} {a b : Nat}, b + d < 2 ^ 31 → tr X n ty a b → n ≤ m → (∀ j, a ≤ j → j < b → LQ.K Y (j + d) = LQ.K X j ∧ ∀ c, c < b → LQ.R X j = nI c → LQ.R Y (j + d) = nI (c + d)) → cw Y m (a + d) = cw X n a
  | 0, _, _, _, _, _, h, _, _ => h.elim
  | n + 1, 0, _, _, _, _, _, hm, _ => absurd hm (by omega)
  | n + 1, m + 1, ty, a, b, hb, h, hm, hj => by
    obtain ⟨h1, -, -, -, h5⟩ := h
    obtain ⟨ka, ra⟩ := hj a (Nat.le_refl _) h1
    rw [cw, cw, ka]
    rcases h5 with ⟨q1, -⟩ | ⟨q1, q2, q3, q4, q5⟩ | ⟨q1, c, q2, q3, q4, q5, q6, q7⟩
    · rw [cwN_0 (lf_5 q1), cwN_0 (lf_5 q1)]
    · have l := tr_lt q5
      have e : cw Y m (a + 1 + d) = cw X n (a + 1) := cw_g hb q5 (by omega) (fun j x y => hj j (by omega) y)
      rw [show a + d + 1 = a + 1 + d by omega, e, (hj (a + 1) (by omega) (by omega)).1]
      exact cwN_un q1
    · have l := tr_lt q5
      have l2 := tr_lt q6
      have e : cw Y m (a + 1 + d) = cw X n (a + 1) := cw_g (by omega) q5 (by omega) (fun j x y => ⟨(hj j (by omega) (by omega)).1, fun c' hc' => (hj j (by omega) (by omega)).2 c' (by omega)⟩)
      have e2 : cw Y m (c + d) = cw X n c := cw_g hb q6 (by omega) (fun j x y => hj j (by omega) y)
      rw [show a + d + 1 = a + 1 + d by omega, e, (hj (a + 1) (by omega) (by omega)).1, ra c (by omega) q2, q2, nI_clamp (by omega), nI_clamp (by omega), e2, (hj c (by omega) (by omega)).1]
theorem cw_cg {X Y : LQ} {n m : Nat} {ty : Bool} {a b : Nat} (hb : b < 2 ^ 31) (h : tr X n ty a b) (hm : n ≤ m) (hj : ∀ j, a ≤ j → j < b → LQ.K Y j = LQ.K X j ∧ LQ.R Y j = LQ.R X j) : cw Y m a = cw X n a :=
  cw_g (d := 0) hb h hm (fun j x y => ⟨(hj j x y).1, fun c _ e => (hj j x y).2.trans e⟩)
theorem cw_sh {X Y : LQ} {n : Nat} {ty : Bool} {a b : Nat} (hb : b + 1 < 2 ^ 31) (h : tr X n ty a b) (hj : ∀ j, a ≤ j → j < b → lss X Y j) : cw Y n (a + 1) = cw X n a :=
  cw_g (d := 1) hb h (Nat.le_refl _) (fun j x y => ⟨(hj j x y).1.symm, fun c hc e => by
    rw [(hj j x y).2.2.1, e, if_neg (nI_m1 (by omega)), nI_1]⟩)
/-- what is open, by what it has cost -/
def bk (X : LQ) : SK → Nat → Nat → Prop
  | [], _, _ => True
  | q :: S, s, c => ∃ c', bk X S q.2 c' ∧ (if q.1 ≤ 1 then (∃ k, tr X k true (q.2 + 1) s ∧ c' + cw X k (q.2 + 1) + (if q.1 = 1 ∧ LQ.K X (q.2 + 1) = 0 then 2 else 0) ≤ c) else if q.1 = 4 then c' + 1 ≤ c else c' ≤ c)
theorem bk_mono {X : LQ} : ∀ {S : SK} {s c d : Nat}, bk X S s c → c ≤ d → bk X S s d
  | [], _, _, _, _, _ => trivial
  | q :: S, s, c, d, h, hd => by
    obtain ⟨c', h1, h2⟩ := h
    refine ⟨c', h1, ?_⟩
    by_cases t : q.1 ≤ 1
    · rw [if_pos t] at h2 ⊢
      obtain ⟨k, a, b⟩ := h2
      exact ⟨k, a, by omega⟩
    · rw [if_neg t] at h2 ⊢
      by_cases t4 : q.1 = 4
      · rw [if_pos t4] at h2 ⊢; omega
      · rw [if_neg t4] at h2 ⊢; omega
theorem bk_2 {X : LQ} {S : SK} {t p s c : Nat} (h : bk X S p c) (ht : t = 2 ∨ t = 3) : bk X ((t, p) :: S) s c := by
  refine ⟨c, h, ?_⟩
  show (if t ≤ 1 then _ else if t = 4 then _ else c ≤ c)
  rw [if_neg (by omega), if_neg (by omega)]
  exact Nat.le_refl _
theorem bk_4 {X : LQ} {S : SK} {p s c : Nat} (h : bk X S p c) : bk X ((4, p) :: S) s (c + 1) := by
  refine ⟨c, h, ?_⟩
  show (if 4 ≤ 1 then _ else if 4 = 4 then c + 1 ≤ c + 1 else _)
  rw [if_neg (by decide), if_pos rfl]
  exact Nat.le_refl _
theorem bk_01 {X : LQ} {S : SK} {t p s c c' k : Nat} (ht : t ≤ 1) (h : bk X S p c') (h1 : tr X k true (p + 1) s) (h2 : c' + cw X k (p + 1) + (if t = 1 ∧ LQ.K X (p + 1) = 0 then 2 else 0) ≤ c) : bk X ((t, p) :: S) s c := by
  refine ⟨c', h, ?_⟩
  show (if t ≤ 1 then _ else _)
  rw [if_pos ht]
  exact ⟨k, h1, h2⟩
theorem bk_2i {X : LQ} {S : SK} {t p s c : Nat} (h : bk X ((t, p) :: S) s c) (ht : t = 2 ∨ t = 3) : bk X S p c := by
  obtain ⟨c', h1, h2⟩ := h
  have h2 : (if t ≤ 1 then (∃ k, tr X k true (p + 1) s ∧ c' + cw X k (p + 1) + (if t = 1 ∧ LQ.K X (p + 1) = 0 then 2 else 0) ≤ c) else if t = 4 then c' + 1 ≤ c else c' ≤ c) := h2
  rw [if_neg (by omega), if_neg (by omega)] at h2
  exact bk_mono h1 h2
theorem bk_4i {X : LQ} {S : SK} {p s c : Nat} (h : bk X ((4, p) :: S) s c) : ∃ c', bk X S p c' ∧ c' + 1 ≤ c := by
  obtain ⟨c', h1, h2⟩ := h
  have h2 : (if 4 ≤ 1 then (∃ k, tr X k true (p + 1) s ∧ c' + cw X k (p + 1) + (if 4 = 1 ∧ LQ.K X (p + 1) = 0 then 2 else 0) ≤ c) else if 4 = 4 then c' + 1 ≤ c else c' ≤ c) := h2
  rw [if_neg (by decide), if_pos rfl] at h2
  exact ⟨c', h1, h2⟩
theorem bk_01i {X : LQ} {S : SK} {t p s c : Nat} (ht : t ≤ 1) (h : bk X ((t, p) :: S) s c) : ∃ c' k, bk X S p c' ∧ tr X k true (p + 1) s ∧ c' + cw X k (p + 1) + (if t = 1 ∧ LQ.K X (p + 1) = 0 then 2 else 0) ≤ c := by
  obtain ⟨c', h1, h2⟩ := h
  have h2 : (if t ≤ 1 then (∃ k, tr X k true (p + 1) s ∧ c' + cw X k (p + 1) + (if t = 1 ∧ LQ.K X (p + 1) = 0 then 2 else 0) ≤ c) else if t = 4 then c' + 1 ≤ c else c' ≤ c) := h2
  rw [if_pos ht] at h2
  obtain ⟨k, a, b⟩ := h2
  exact ⟨c', k, h1, a, b⟩
theorem bk_cg {X Y : LQ} : ∀ {S : SK} {s c : Nat}, s < 2 ^ 31 → bk X S s c → chn X S s → (∀ j, j < s → lsa X Y j) → bk Y S s c
  | [], _, _, _, _, _, _ => trivial
  | q :: S, s, c, hs, h, hc, hj => by
    obtain ⟨c', h1, h2⟩ := h
    have hle := (chn_le hc q List.mem_cons_self).1
    refine ⟨c', bk_cg (by omega) h1 hc.1 (fun j hj' => hj j (by omega)), ?_⟩
    by_cases t : q.1 ≤ 1
    · rw [if_pos t] at h2 ⊢
      obtain ⟨k, a, b⟩ := h2
      have l := tr_lt a
      refine ⟨k, tr_cg a (fun j x y => hj j y), ?_⟩
      rw [cw_cg (X := X) (Y := Y) hs a (Nat.le_refl _) (fun j x y => ⟨(hj j y).1.symm, (hj j y).2.2.1.symm⟩), ← (hj (q.2 + 1) l).1]
      exact b
    · rw [if_neg t] at h2 ⊢
      exact h2
/-- a tree at s, over what is open: as a part or a row of ands, as a rule -/
def wp (S : SK) (k : Int32) : Nat := if tp S = 1 ∨ tp S = 2 then (if k = 0 ∨ k = 1 then 2 else 0) else (if k = 0 then 2 else 0)
def PB (X : LQ) (S : SK) (s u c : Nat) : Prop := ∃ c0 k, bk X S s c0 ∧ tr X k true s u ∧ c0 + cw X k s + wp S (LQ.K X s) ≤ c
def PR (X : LQ) (S : SK) (s u c : Nat) : Prop := ∃ c0 k, bk X S s c0 ∧ tr X k true s u ∧ c0 + cw X k s ≤ c
theorem PB.rule {X : LQ} {S : SK} {s u c : Nat} (h : PB X S s u c) : PR X S s u c := by
  obtain ⟨c0, k, h1, h2, h3⟩ := h
  exact ⟨c0, k, h1, h2, by omega⟩
theorem wp_le (S : SK) (k : Int32) : wp S k ≤ 2 := by
  rw [wp]; split <;> split <;> omega
theorem wp_0 {S : SK} {k : Int32} (h : 2 ≤ k) : wp S k = 0 := by
  have n : ∀ c : Int32, c < 2 → ¬ k = c := fun c hc e => absurd h (Int32.not_le.mpr (by rw [e]; exact hc))
  have n2 : ¬ (k = 0 ∨ k = 1) := fun z => z.elim (n 0 (by decide)) (n 1 (by decide))
  have n0 : ¬ k = 0 := n 0 (by decide)
  rw [wp, if_neg n2, if_neg n0]
  split <;> rfl
