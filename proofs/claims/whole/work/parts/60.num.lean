/-! numbering: from the nodes of the reference to the rows of the rule -/
theorem nI_am (k : Nat) : nI (k + 1) + (-1) = nI k := by
  rw [← nI_pred k, Int32.sub_eq_add_neg]
theorem nI_half : ∀ p, p < 40 → nI (2 * p) / 2 = nI p ∧ nI (2 * p + 1) / 2 = nI p := by decide +kernel
/-- the mark of a node on the stack: the root, or the side of its parent -/
def cdv : Option (Bool × Nat) → Int32
  | none => -1
  | some (false, p) => nI (2 * p)
  | some (true, p) => nI (2 * p + 1)
def w8 (r : Nat) (q : Option (Bool × Nat)) (a i : Nat) (x : Int32) : Int32 := match q with
  | some (false, p) => if i = 40 * r + p then nI a else x
  | _ => x
def w9 (r : Nat) (q : Option (Bool × Nat)) (a i : Nat) (x : Int32) : Int32 := match q with
  | some (true, p) => if i = 40 * r + p then nI a else x
  | _ => x
def par (r : Nat) (q : Option (Bool × Nat)) (a : Nat) (μ : MS) : MS := match q with
  | none => μ
  | some (false, p) => sA 8 (40 * r + p) (nI a) μ
  | some (true, p) => sA 9 (40 * r + p) (nI a) μ
def wrN (r a : Nat) (K V : Int32) (μ : MS) : MS := sA 9 (40 * r + a) (-1) (sA 8 (40 * r + a) (-1) (sA 7 (40 * r + a) V (sA 6 (40 * r + a) K μ)))
theorem wrN_k {r a : Nat} {K V : Int32} {μ : MS} : (wrN r a K V μ).1 = μ.1 ∧ (wrN r a K V μ).2.2 = μ.2.2 ∧ (∀ j, j ≠ 6 → j ≠ 7 → j ≠ 8 → j ≠ 9 → (wrN r a K V μ).2.1 j = μ.2.1 j) ∧ (wrN r a K V μ).2.1 6 = upd (μ.2.1 6) (40 * r + a) K ∧ (wrN r a K V μ).2.1 7 = upd (μ.2.1 7) (40 * r + a) V ∧ (wrN r a K V μ).2.1 8 = upd (μ.2.1 8) (40 * r + a) (-1) ∧ (wrN r a K V μ).2.1 9 = upd (μ.2.1 9) (40 * r + a) (-1) := by
  refine ⟨rfl, rfl, fun j a b c d => ?_, ?_, ?_, ?_, ?_⟩
  · rw [wrN, sA_ne d, sA_ne c, sA_ne b, sA_ne a]
  · rw [wrN, sA_ne (by decide), sA_ne (by decide), sA_ne (by decide), sA_at]
  · rw [wrN, sA_ne (by decide), sA_ne (by decide), sA_at, sA_ne (by decide)]
  · rw [wrN, sA_ne (by decide), sA_at, sA_ne (by decide), sA_ne (by decide)]
  · rw [wrN, sA_at, sA_ne (by decide), sA_ne (by decide), sA_ne (by decide)]
theorem par_k {r a : Nat} {q : Option (Bool × Nat)} {μ : MS} : (par r q a μ).1 = μ.1 ∧ (par r q a μ).2.2 = μ.2.2 ∧ (∀ j, j ≠ 8 → j ≠ 9 → (par r q a μ).2.1 j = μ.2.1 j) ∧ (∀ i, (par r q a μ).2.1 8 i = w8 r q a i (μ.2.1 8 i)) ∧ ∀ i, (par r q a μ).2.1 9 i = w9 r q a i (μ.2.1 9 i) := by
  match q with
  | none => exact ⟨rfl, rfl, fun _ _ _ => rfl, fun _ => rfl, fun _ => rfl⟩
  | some (false, p) =>
    refine ⟨rfl, rfl, fun j a b => sA_ne a, fun i => ?_, fun i => ?_⟩
    · show (sA 8 (40 * r + p) (nI a) μ).2.1 8 i = if i = 40 * r + p then nI a else μ.2.1 8 i
      rw [sA_at, upd]
    · show (sA 8 (40 * r + p) (nI a) μ).2.1 9 i = μ.2.1 9 i
      rw [sA_ne (by decide)]
  | some (true, p) =>
    refine ⟨rfl, rfl, fun j a b => sA_ne b, fun i => ?_, fun i => ?_⟩
    · show (sA 9 (40 * r + p) (nI a) μ).2.1 8 i = μ.2.1 8 i
      rw [sA_ne (by decide)]
    · show (sA 9 (40 * r + p) (nI a) μ).2.1 9 i = if i = 40 * r + p then nI a else μ.2.1 9 i
      rw [sA_at, upd]
def qok (q : Option (Bool × Nat)) (a : Nat) : Prop := ∀ s p, q = some (s, p) → p < a
theorem num_b01 {F r k a i : Nat} {q : Option (Bool × Nat)} {μ : MS} (hr : r < 20) (hk : 2 * k + 1 < 64) (ha : a < 40) (hi : i < 40) (hq : qok q a) (h1 : μ.2.1 34 (2 * k) = nI i) (h2 : μ.2.1 34 (2 * k + 1) = cdv q) :
    m_number_B (F + 2) 0 (nI r) (nI (k + 1)) (nI a) 0 0 μ = m_number_B F 2 (nI r) (nI k) (nI a) (nI i) 0 (par r q a (wrN r a (μ.2.1 20 i) (μ.2.1 21 i) μ)) := by
  have e2 : (2 : Int32) * nI k = nI (2 * k) := nI_mul 2 k
  have c1 : (nI (2 * k)).toNatClampNeg = 2 * k := nI_clamp (by omega)
  have c2 : (nI (2 * k + 1)).toNatClampNeg = 2 * k + 1 := nI_clamp (by omega)
  have c3 : (nI i).toNatClampNeg = i := nI_clamp (by omega)
  have e40 : ∀ x, (40 : Int32) * nI r + nI x = nI (40 * r + x) := fun x => by
    rw [show (40 : Int32) * nI r = nI (40 * r) from nI_mul 40 r, nI_add]
  have c4 : (nI (40 * r + a)).toNatClampNeg = 40 * r + a := nI_clamp (by omega)
  rw [m_number_b0, if_neg (nI_nle (by omega) (by omega)), nI_am, e2, if_pos (inb_nI (by omega) (by decide)), nI_1, if_pos (inb_nI hk (by decide)), c1, c2, h1, h2, if_pos (inb_nI hi (by decide)), e40, if_pos (inb_nI (by omega) (by decide)), c3, c4]
  match q, hq with
  | none, _ =>
    rw [if_pos (show cdv none < 0 by decide), m_number_b1, if_pos (show cdv none < 0 by decide)]
    rfl
  | some (false, p), hq =>
    have hp := hq _ _ rfl
    obtain ⟨d1, -⟩ := nI_half p (by omega)
    have d2 : nI (2 * p) - nI (2 * p) / 2 * 2 = 0 := by
      rw [d1, show nI p * 2 = nI (p * 2) from nI_mul p 2, Nat.mul_comm p 2, Int32.sub_self]
    have c5 : (nI (40 * r + p)).toNatClampNeg = 40 * r + p := nI_clamp (by omega)
    have cq : cdv (some (false, p)) = nI (2 * p) := rfl
    rw [cq, if_neg (nI_pos (by omega)), if_pos d2, d1, e40, if_pos (inb_nI (by omega) (by decide)), c5, m_number_b1, if_neg (nI_pos (by omega)), d2, if_neg (by decide)]
    rfl
  | some (true, p), hq =>
    have hp := hq _ _ rfl
    obtain ⟨-, d1⟩ := nI_half p (by omega)
    have d2 : nI (2 * p + 1) - nI (2 * p + 1) / 2 * 2 = 1 := by
      rw [d1, show nI p * 2 = nI (p * 2) from nI_mul p 2, nI_subN (by omega), show 2 * p + 1 - p * 2 = 1 by omega]
      rfl
    have c5 : (nI (40 * r + p)).toNatClampNeg = 40 * r + p := nI_clamp (by omega)
    have cq : cdv (some (true, p)) = nI (2 * p + 1) := rfl
    rw [cq, if_neg (nI_pos (by omega)), d2, if_neg (by decide), m_number_b1, if_neg (nI_pos (by omega)), d2, if_pos rfl, d1, e40, if_pos (inb_nI (by omega) (by decide)), c5]
    rfl
theorem num_leaf {F r k a i : Nat} {μ : MS} (hi : i < 40) (h22 : μ.2.1 22 i = -1) (h23 : μ.2.1 23 i = -1) : m_number_B (F + 3) 2 (nI r) (nI k) (nI a) (nI i) 0 μ = m_number_B F 0 (nI r) (nI k) (nI (a + 1)) 0 0 μ := by
  rw [m_number_b2, if_pos (inb_nI hi (by decide)), nI_clamp (by omega), h23, if_pos (by decide), m_number_b3, if_pos (inb_nI hi (by decide)), nI_clamp (by omega), h22, if_pos (by decide), m_number_b4, nI_1]
def psh (k l : Nat) (c : Nat) (μ : MS) : MS := sA 34 (2 * k + 1) (nI c) (sA 34 (2 * k) (nI l) μ)
theorem psh_k {k l c : Nat} {μ : MS} : (psh k l c μ).1 = μ.1 ∧ (psh k l c μ).2.2 = μ.2.2 ∧ (∀ j, j ≠ 34 → (psh k l c μ).2.1 j = μ.2.1 j) ∧ (psh k l c μ).2.1 34 (2 * k) = nI l ∧ (psh k l c μ).2.1 34 (2 * k + 1) = nI c ∧ ∀ i, i < 2 * k → (psh k l c μ).2.1 34 i = μ.2.1 34 i := by
  refine ⟨rfl, rfl, fun j a => ?_, ?_, ?_, fun i h => ?_⟩
  · rw [psh, sA_ne a, sA_ne a]
  · rw [psh, sA_at, upd_ne (by omega), sA_at, upd_at]
  · rw [psh, sA_at, upd_at]
  · rw [psh, sA_at, upd_ne (by omega), sA_at, upd_ne (by omega)]
theorem num_un {F r k a i l : Nat} {μ : MS} (hi : i < 40) (hl : l < 40) (ha : a < 40) (hk : 2 * k + 1 < 64) (h22 : μ.2.1 22 i = nI l) (h23 : μ.2.1 23 i = -1) : m_number_B (F + 3) 2 (nI r) (nI k) (nI a) (nI i) 0 μ = m_number_B F 0 (nI r) (nI (k + 1)) (nI (a + 1)) 0 0 (psh k l (2 * a) μ) := by
  have e2 : ∀ k, (2 : Int32) * nI k = nI (2 * k) := fun k => nI_mul 2 k
  have c1 : (nI (2 * k)).toNatClampNeg = 2 * k := nI_clamp (by omega)
  have c2 : (nI (2 * k + 1)).toNatClampNeg = 2 * k + 1 := nI_clamp (by omega)
  rw [m_number_b2, if_pos (inb_nI hi (by decide)), nI_clamp (by omega), h23, if_pos (by decide), m_number_b3, if_pos (inb_nI hi (by decide)), nI_clamp (by omega), h22, if_neg (nI_pos (by omega)), e2, if_pos (inb_nI (by omega) (by decide)), e2, c1]
  rw [show nI (2 * k) + 1 = nI (2 * k + 1) from nI_1 _, if_pos (inb_nI hk (by decide)), c2, m_number_b4, show nI k + 1 = nI (k + 1) from nI_1 _, show nI a + 1 = nI (a + 1) from nI_1 _]
  rfl
theorem num_bi {F r k a i l m : Nat} {μ : MS} (hi : i < 40) (hl : l < 40) (hm : m < 40) (ha : a < 40) (hk : 2 * k + 3 < 64) (h22 : μ.2.1 22 i = nI l) (h23 : μ.2.1 23 i = nI m) : m_number_B (F + 3) 2 (nI r) (nI k) (nI a) (nI i) 0 μ = m_number_B F 0 (nI r) (nI (k + 2)) (nI (a + 1)) 0 0 (psh (k + 1) l (2 * a) (psh k m (2 * a + 1) μ)) := by
  have e2 : ∀ k, (2 : Int32) * nI k = nI (2 * k) := fun k => nI_mul 2 k
  have c1 : ∀ k, k < 40 → (nI (2 * k)).toNatClampNeg = 2 * k := fun k h => nI_clamp (by omega)
  have c2 : ∀ k, k < 40 → (nI (2 * k + 1)).toNatClampNeg = 2 * k + 1 := fun k h => nI_clamp (by omega)
  have h22' : (psh k m (2 * a + 1) μ).2.1 22 i = nI l := by rw [psh_k.2.2.1 22 (by decide)]; exact h22
  rw [m_number_b2, if_pos (inb_nI hi (by decide)), nI_clamp (by omega), h23, if_neg (nI_pos (by omega)), e2 k, if_pos (inb_nI (by omega) (by decide)), show nI (2 * k) + 1 = nI (2 * k + 1) from nI_1 _, if_pos (inb_nI (by omega) (by decide)), c1 k (by omega), c2 k (by omega), e2 a, show nI (2 * a) + 1 = nI (2 * a + 1) from nI_1 _, show nI k + 1 = nI (k + 1) from nI_1 _]
  show m_number_B (F + 2) 3 (nI r) (nI (k + 1)) (nI a) (nI i) 0 (psh k m (2 * a + 1) μ) = _
  rw [m_number_b3, if_pos (inb_nI hi (by decide)), nI_clamp (by omega), h22', if_neg (nI_pos (by omega)), e2 (k + 1), if_pos (inb_nI (by omega) (by decide)), show nI (2 * (k + 1)) + 1 = nI (2 * (k + 1) + 1) from nI_1 _, if_pos (inb_nI (by omega) (by decide)), c1 (k + 1) (by omega), c2 (k + 1) (by omega), e2 a, show nI (k + 1) + 1 = nI (k + 2) from nI_1 _, m_number_b4, show nI a + 1 = nI (a + 1) from nI_1 _]
  rfl
def Lf (X : LQ) (j : Nat) : Int32 := if LQ.K X j ≤ 10 then nI (j + 1) else -1
/-- places a .. b-1 are numbered -/
def NmS (X : LQ) (r k a b : Nat) (q : Option (Bool × Nat)) (μ μ' : MS) : Prop :=
  μ'.1 = μ.1 ∧ μ'.2.2 = μ.2.2 ∧ (∀ j, j ≠ 6 → j ≠ 7 → j ≠ 8 → j ≠ 9 → j ≠ 34 → μ'.2.1 j = μ.2.1 j) ∧ (∀ i, i < 2 * k → μ'.2.1 34 i = μ.2.1 34 i) ∧
  (∀ j, a ≤ j → j < b → μ'.2.1 6 (40 * r + j) = LQ.K X j ∧ μ'.2.1 7 (40 * r + j) = LQ.V X j ∧ μ'.2.1 8 (40 * r + j) = Lf X j ∧ μ'.2.1 9 (40 * r + j) = LQ.R X j) ∧
  ∀ i, ¬ (40 * r + a ≤ i ∧ i < 40 * r + b) → μ'.2.1 6 i = μ.2.1 6 i ∧ μ'.2.1 7 i = μ.2.1 7 i ∧ μ'.2.1 8 i = w8 r q a i (μ.2.1 8 i) ∧ μ'.2.1 9 i = w9 r q a i (μ.2.1 9 i)
def nrw (X : LQ) (μ : MS) : Prop := μ.2.1 20 = LQ.mk X ∧ μ.2.1 21 = LQ.mt X ∧ μ.2.1 22 = LQ.ml X ∧ μ.2.1 23 = LQ.mr X
theorem w8_a {r a j i : Nat} {q : Option (Bool × Nat)} {x : Int32} (h : qok q a) (hi : 40 * r + a ≤ i) : w8 r q j i x = x := by
  match q, h with
  | none, _ => rfl
  | some (true, p), _ => rfl
  | some (false, p), h =>
    have := h _ _ rfl
    show (if i = 40 * r + p then nI j else x) = x
    rw [if_neg (by omega)]
theorem w9_a {r a j i : Nat} {q : Option (Bool × Nat)} {x : Int32} (h : qok q a) (hi : 40 * r + a ≤ i) : w9 r q j i x = x := by
  match q, h with
  | none, _ => rfl
  | some (false, p), _ => rfl
  | some (true, p), h =>
    have := h _ _ rfl
    show (if i = 40 * r + p then nI j else x) = x
    rw [if_neg (by omega)]
theorem qok_s {s : Bool} {p a : Nat} (h : p < a) : qok (some (s, p)) a := fun s' p' e => by
  have := Option.some.inj e
  rw [Prod.mk.injEq] at this
  omega
theorem lf_10 {k v : Int32} (h : lf k v) : ¬ k ≤ 10 := by
  rcases h with ⟨rfl, -⟩ | ⟨rfl | rfl | rfl, -⟩ <;> decide
theorem un_10 {k : Int32} (h : un k) : k ≤ 10 := by
  rcases h with rfl | rfl | rfl <;> decide
theorem bi_10 {k : Int32} (h : bi k) : k ≤ 10 := by
  rcases h with rfl | rfl | rfl | rfl | rfl | rfl | rfl | rfl <;> decide
set_option maxHeartbeats 2000000 in
theorem num_tr {X : LQ} {r : Nat} (hr : r < 20) : ∀ (n : Nat) (ty : Bool) (a b k : Nat) (q : Option (Bool × Nat)) (μ : MS) (F : Nat), tr X n ty a b → b ≤ 40 → (∀ j, j < b → LQ.n X j < 40) → nrw X μ → qok q a → 2 * k + (b - a) ≤ 40 → μ.2.1 34 (2 * k) = nI (LQ.n X a) → μ.2.1 34 (2 * k + 1) = cdv q → ∃ μ', m_number_B (F + 5 * (b - a)) 0 (nI r) (nI (k + 1)) (nI a) 0 0 μ = m_number_B F 0 (nI r) (nI k) (nI b) 0 0 μ' ∧ NmS X r k a b q μ μ'
  | 0, _, _, _, _, _, _, _, h, _, _, _, _, _, _, _ => h.elim
  | n + 1, ty, a, b, k, q, μ, F, h, hb, hn, hw, hq, hk, s1, s2 => by
    obtain ⟨h1, h2, h3, -, h5⟩ := h
    obtain ⟨wk1, wk2, wk3, wk6, wk7, wk8, wk9⟩ := wrN_k (r := r) (a := a) (K := μ.2.1 20 (LQ.n X a)) (V := μ.2.1 21 (LQ.n X a)) (μ := μ)
    obtain ⟨pk1, pk2, pk3, pk8, pk9⟩ := par_k (r := r) (a := a) (q := q) (μ := wrN r a (μ.2.1 20 (LQ.n X a)) (μ.2.1 21 (LQ.n X a)) μ)
    obtain ⟨μB, hμB⟩ : ∃ μB, μB = par r q a (wrN r a (μ.2.1 20 (LQ.n X a)) (μ.2.1 21 (LQ.n X a)) μ) := ⟨_, rfl⟩
    have st := fun F => num_b01 (F := F) (i := LQ.n X a) hr (show 2 * k + 1 < 64 by omega) (by omega) (hn a h1) hq s1 s2
    rw [← hμB] at pk1 pk2 pk3 pk8 pk9 st
    have v20 : μ.2.1 20 (LQ.n X a) = LQ.K X a := by rw [hw.1]; exact h2
    have v21 : μ.2.1 21 (LQ.n X a) = LQ.V X a := by rw [hw.2.1]; exact h3
    have g1 : μB.1 = μ.1 := pk1.trans wk1
    have g2 : μB.2.2 = μ.2.2 := pk2.trans wk2
    have g3 : ∀ j, j ≠ 6 → j ≠ 7 → j ≠ 8 → j ≠ 9 → μB.2.1 j = μ.2.1 j := fun j a b c d => (pk3 j c d).trans (wk3 j a b c d)
    have g6 : μB.2.1 6 = upd (μ.2.1 6) (40 * r + a) (LQ.K X a) := by rw [pk3 6 (by decide) (by decide), wk6, v20]
    have g7 : μB.2.1 7 = upd (μ.2.1 7) (40 * r + a) (LQ.V X a) := by rw [pk3 7 (by decide) (by decide), wk7, v21]
    have g8 : ∀ i, μB.2.1 8 i = w8 r q a i (upd (μ.2.1 8) (40 * r + a) (-1) i) := fun i => by rw [pk8 i, wk8]
    have g9 : ∀ i, μB.2.1 9 i = w9 r q a i (upd (μ.2.1 9) (40 * r + a) (-1) i) := fun i => by rw [pk9 i, wk9]
    have g8a : μB.2.1 8 (40 * r + a) = -1 := by rw [g8, w8_a hq (Nat.le_refl _), upd_at]
    have g9a : μB.2.1 9 (40 * r + a) = -1 := by rw [g9, w9_a hq (Nat.le_refl _), upd_at]
    rcases h5 with ⟨q1, q2, q3, q4, q5⟩ | ⟨q1, q2, q3, q4, q5⟩ | ⟨q1, c, q2, q3, q4, q5, q6, q7⟩
    · subst q2
      refine ⟨μB, ?_, g1, g2, fun j x y z w _ => g3 j x y z w, fun i _ => by rw [g3 34 (by decide) (by decide) (by decide) (by decide)], fun j x y => ?_, fun i hi => ?_⟩
      · rw [show F + 5 * (a + 1 - a) = F + 3 + 2 by omega, st, num_leaf (hn a h1) (by rw [g3 22 (by decide) (by decide) (by decide) (by decide), hw.2.2.1]; exact q4) (by rw [g3 23 (by decide) (by decide) (by decide) (by decide), hw.2.2.2]; exact q5)]
      · have : j = a := by omega
        subst this
        refine ⟨by rw [g6, upd_at], by rw [g7, upd_at], ?_, by rw [g9a, q3]⟩
        rw [g8a, Lf, if_neg (lf_10 q1)]
      · have ne : i ≠ 40 * r + a := by omega
        exact ⟨by rw [g6, upd_ne ne], by rw [g7, upd_ne ne], by rw [g8, upd_ne ne], by rw [g9, upd_ne ne]⟩
    · have l := tr_lt q5
      obtain ⟨y1, y2, y3, y4, y5, y6⟩ := psh_k (k := k) (l := LQ.n X (a + 1)) (c := 2 * a) (μ := μB)
      obtain ⟨μ', r1, r2, r3, r4, r5, r6, r7⟩ := num_tr hr n true (a + 1) b k (some (false, a)) (psh k (LQ.n X (a + 1)) (2 * a) μB) F q5 hb hn ⟨by rw [y3 20 (by decide), g3 20 (by decide) (by decide) (by decide) (by decide)]; exact hw.1, by rw [y3 21 (by decide), g3 21 (by decide) (by decide) (by decide) (by decide)]; exact hw.2.1, by rw [y3 22 (by decide), g3 22 (by decide) (by decide) (by decide) (by decide)]; exact hw.2.2.1, by rw [y3 23 (by decide), g3 23 (by decide) (by decide) (by decide) (by decide)]; exact hw.2.2.2⟩ (qok_s (by omega)) (by omega) y4 y5
      refine ⟨μ', ?_, r2.trans (y1.trans g1), r3.trans (y2.trans g2), fun j x y z w v => by rw [r4 j x y z w v, y3 j v, g3 j x y z w], fun i hi => by rw [r5 i hi, y6 i hi, g3 34 (by decide) (by decide) (by decide) (by decide)], fun j x y => ?_, fun i hi => ?_⟩
      · rw [show F + 5 * (b - a) = F + 5 * (b - (a + 1)) + 3 + 2 by omega, st, num_un (l := LQ.n X (a + 1)) (hn a h1) (hn (a + 1) l) (by omega) (by omega) (by rw [g3 22 (by decide) (by decide) (by decide) (by decide), hw.2.2.1]; exact q3) (by rw [g3 23 (by decide) (by decide) (by decide) (by decide), hw.2.2.2]; exact q4)]
        exact r1
      · by_cases hj : j = a
        · subst hj
          obtain ⟨u6, u7, u8, u9⟩ := r7 (40 * r + j) (by omega)
          refine ⟨by rw [u6, y3 6 (by decide), g6, upd_at], by rw [u7, y3 7 (by decide), g7, upd_at], ?_, ?_⟩
          · rw [u8, Lf, if_pos (un_10 q1)]
            show (if 40 * r + j = 40 * r + j then nI (j + 1) else _) = _
            rw [if_pos rfl]
          · rw [u9]
            show (psh k (LQ.n X (j + 1)) (2 * j) μB).2.1 9 (40 * r + j) = _
            rw [y3 9 (by decide), g9a, q2]
        · exact r6 j (by omega) y
      · have ne : i ≠ 40 * r + a := by omega
        obtain ⟨u6, u7, u8, u9⟩ := r7 i (by omega)
        refine ⟨by rw [u6, y3 6 (by decide), g6, upd_ne ne], by rw [u7, y3 7 (by decide), g7, upd_ne ne], ?_, ?_⟩
        · rw [u8]
          show (if i = 40 * r + a then nI (a + 1) else _) = _
          rw [if_neg ne, y3 8 (by decide), g8, upd_ne ne]
        · rw [u9]
          show (psh k (LQ.n X (a + 1)) (2 * a) μB).2.1 9 i = _
          rw [y3 9 (by decide), g9, upd_ne ne]
    · have l := tr_lt q5
      have l2 := tr_lt q6
      obtain ⟨x1, x2, x3, x4, x5, x6⟩ := psh_k (k := k) (l := LQ.n X c) (c := 2 * a + 1) (μ := μB)
      obtain ⟨y1, y2, y3, y4, y5, y6⟩ := psh_k (k := k + 1) (l := LQ.n X (a + 1)) (c := 2 * a) (μ := psh k (LQ.n X c) (2 * a + 1) μB)
      obtain ⟨μ1, r1, r2, r3, r4, r5, r6, r7⟩ := num_tr hr n (decide (LQ.K X a ≤ 4)) (a + 1) c (k + 1) (some (false, a)) (psh (k + 1) (LQ.n X (a + 1)) (2 * a) (psh k (LQ.n X c) (2 * a + 1) μB)) (F + 5 * (b - c)) q5 (by omega) (fun j hj => hn j (by omega)) ⟨by rw [y3 20 (by decide), x3 20 (by decide), g3 20 (by decide) (by decide) (by decide) (by decide)]; exact hw.1, by rw [y3 21 (by decide), x3 21 (by decide), g3 21 (by decide) (by decide) (by decide) (by decide)]; exact hw.2.1, by rw [y3 22 (by decide), x3 22 (by decide), g3 22 (by decide) (by decide) (by decide) (by decide)]; exact hw.2.2.1, by rw [y3 23 (by decide), x3 23 (by decide), g3 23 (by decide) (by decide) (by decide) (by decide)]; exact hw.2.2.2⟩ (qok_s (by omega)) (by omega) y4 y5
      have m34 : ∀ i, i < 2 * (k + 1) → μ1.2.1 34 i = (psh k (LQ.n X c) (2 * a + 1) μB).2.1 34 i := fun i hi => (r5 i hi).trans (y6 i hi)
      have mrw : ∀ j, j ≠ 6 → j ≠ 7 → j ≠ 8 → j ≠ 9 → j ≠ 34 → μ1.2.1 j = μ.2.1 j := fun j x y z w v => by rw [r4 j x y z w v, y3 j v, x3 j v, g3 j x y z w]
      obtain ⟨μ', t1, t2, t3, t4, t5, t6, t7⟩ := num_tr hr n (decide (LQ.K X a ≤ 4)) c b k (some (true, a)) μ1 F q6 hb hn ⟨by rw [mrw 20 (by decide) (by decide) (by decide) (by decide) (by decide)]; exact hw.1, by rw [mrw 21 (by decide) (by decide) (by decide) (by decide) (by decide)]; exact hw.2.1, by rw [mrw 22 (by decide) (by decide) (by decide) (by decide) (by decide)]; exact hw.2.2.1, by rw [mrw 23 (by decide) (by decide) (by decide) (by decide) (by decide)]; exact hw.2.2.2⟩ (qok_s (by omega)) (by omega) (by rw [m34 _ (by omega)]; exact x4) (by rw [m34 _ (by omega)]; exact x5)
      refine ⟨μ', ?_, t2.trans (r2.trans (y1.trans (x1.trans g1))), t3.trans (r3.trans (y2.trans (x2.trans g2))), fun j x y z w v => by rw [t4 j x y z w v, mrw j x y z w v], fun i hi => by rw [t5 i hi, m34 i (by omega), x6 i hi, g3 34 (by decide) (by decide) (by decide) (by decide)], fun j x y => ?_, fun i hi => ?_⟩
      · rw [show F + 5 * (b - a) = F + 5 * (b - c) + 5 * (c - (a + 1)) + 3 + 2 by omega, st, num_bi (l := LQ.n X (a + 1)) (m := LQ.n X c) (hn a h1) (hn (a + 1) (by omega)) (hn c l2) (by omega) (by omega) (by rw [g3 22 (by decide) (by decide) (by decide) (by decide), hw.2.2.1]; exact q3) (by rw [g3 23 (by decide) (by decide) (by decide) (by decide), hw.2.2.2]; exact q4)]
        exact r1.trans t1
      · by_cases hc : c ≤ j
        · exact t6 j hc y
        · obtain ⟨u6, u7, u8, u9⟩ := t7 (40 * r + j) (by omega)
          by_cases hj : j = a
          · subst hj
            obtain ⟨z6, z7, z8, z9⟩ := r7 (40 * r + j) (by omega)
            refine ⟨by rw [u6, z6, y3 6 (by decide), x3 6 (by decide), g6, upd_at], by rw [u7, z7, y3 7 (by decide), x3 7 (by decide), g7, upd_at], ?_, ?_⟩
            · rw [u8]
              show μ1.2.1 8 (40 * r + j) = _
              rw [z8, Lf, if_pos (bi_10 q1)]
              show (if 40 * r + j = 40 * r + j then nI (j + 1) else _) = _
              rw [if_pos rfl]
            · rw [u9, q2]
              show (if 40 * r + j = 40 * r + j then nI c else _) = _
              rw [if_pos rfl]
          · obtain ⟨z6, z7, z8, z9⟩ := r6 j (by omega) (by omega)
            refine ⟨by rw [u6, z6], by rw [u7, z7], ?_, ?_⟩
            · rw [u8]; exact z8
            · rw [u9]
              show (if 40 * r + j = 40 * r + a then nI c else μ1.2.1 9 (40 * r + j)) = _
              rw [if_neg (by omega)]; exact z9
      · have ne : i ≠ 40 * r + a := by omega
        obtain ⟨u6, u7, u8, u9⟩ := t7 i (by omega)
        obtain ⟨z6, z7, z8, z9⟩ := r7 i (by omega)
        refine ⟨by rw [u6, z6, y3 6 (by decide), x3 6 (by decide), g6, upd_ne ne], by rw [u7, z7, y3 7 (by decide), x3 7 (by decide), g7, upd_ne ne], ?_, ?_⟩
        · rw [u8]
          show μ1.2.1 8 i = _
          rw [z8]
          show (if i = 40 * r + a then nI (a + 1) else _) = _
          rw [if_neg ne, y3 8 (by decide), x3 8 (by decide), g8, upd_ne ne]
        · rw [u9]
          show (if i = 40 * r + a then nI c else μ1.2.1 9 i) = _
          rw [if_neg ne, z9]
          show (psh (k + 1) (LQ.n X (a + 1)) (2 * a) (psh k (LQ.n X c) (2 * a + 1) μB)).2.1 9 i = _
          rw [y3 9 (by decide), x3 9 (by decide), g9, upd_ne ne]
theorem m_number_F : ∃ F, 300 ≤ F ∧ ∀ x1 x2 μ, m_number x1 x2 μ = m_number_B F 0 x1 1 0 0 0 (sA 34 1 (-1) (sA 34 0 x2 μ)) := by
  refine ⟨4096, by decide, fun x1 x2 μ => ?_⟩
  rw [m_number, if_pos (by decide), if_pos (by decide)]
  rfl
/-- the rule r is numbered -/
theorem number_eq {X : LQ} {r u n : Nat} {μ : MS} (hr : r < 20) (ht : tr X n true 0 u) (hu : u ≤ 40) (hn : ∀ j, j < u → LQ.n X j < 40) (hw : nrw X μ) :
    ∃ μ', m_number (nI r) (nI (LQ.n X 0)) μ = some μ' ∧ μ'.1 = μ.1 ∧ μ'.2.2 = μ.2.2 ∧ (∀ j, j ≠ 6 → j ≠ 7 → j ≠ 8 → j ≠ 9 → j ≠ 10 → j ≠ 34 → μ'.2.1 j = μ.2.1 j) ∧ μ'.2.1 10 = upd (μ.2.1 10) r (nI u) ∧
    (∀ j, j < u → μ'.2.1 6 (40 * r + j) = LQ.K X j ∧ μ'.2.1 7 (40 * r + j) = LQ.V X j ∧ μ'.2.1 8 (40 * r + j) = Lf X j ∧ μ'.2.1 9 (40 * r + j) = LQ.R X j) ∧
    ∀ i, ¬ (40 * r ≤ i ∧ i < 40 * r + u) → μ'.2.1 6 i = μ.2.1 6 i ∧ μ'.2.1 7 i = μ.2.1 7 i ∧ μ'.2.1 8 i = μ.2.1 8 i ∧ μ'.2.1 9 i = μ.2.1 9 i := by
  obtain ⟨F, hF, eF⟩ := m_number_F
  obtain ⟨G, rfl⟩ : ∃ G, F = G + 1 + 5 * (u - 0) := ⟨F - 5 * u - 1, by omega⟩
  have a34 : ∀ j, j ≠ 34 → (sA 34 1 (-1) (sA 34 0 (nI (LQ.n X 0)) μ)).2.1 j = μ.2.1 j := fun j h => by rw [sA_ne h, sA_ne h]
  obtain ⟨μ', r1, r2, r3, r4, r5, r6, r7⟩ := num_tr hr n true 0 u 0 none (sA 34 1 (-1) (sA 34 0 (nI (LQ.n X 0)) μ)) (G + 1) ht hu hn ⟨by rw [a34 20 (by decide)]; exact hw.1, by rw [a34 21 (by decide)]; exact hw.2.1, by rw [a34 22 (by decide)]; exact hw.2.2.1, by rw [a34 23 (by decide)]; exact hw.2.2.2⟩ (fun s p e => by cases e) (by omega) (by rw [sA_at, upd_ne (by decide), sA_at, upd_at]) (by rw [sA_at, upd_at]; rfl)
  refine ⟨sA 10 r (nI u) μ', ?_, r2, r3, fun j a b c d e f => ?_, ?_, fun j hj => ?_, fun i hi => ?_⟩
  · rw [eF]
    refine Eq.trans r1 ?_
    rw [m_number_b0, if_pos (by decide), if_pos (inb_nI hr (by decide)), nI_clamp (by omega)]
  · rw [sA_ne e, r4 j a b c d f, a34 j f]
  · rw [sA_at, r4 10 (by decide) (by decide) (by decide) (by decide) (by decide), a34 10 (by decide)]
  · obtain ⟨a, b, c, d⟩ := r6 j (by omega) hj
    exact ⟨by rw [sA_ne (by decide)]; exact a, by rw [sA_ne (by decide)]; exact b, by rw [sA_ne (by decide)]; exact c, by rw [sA_ne (by decide)]; exact d⟩
  · obtain ⟨a, b, c, d⟩ := r7 i (by omega)
    refine ⟨by rw [sA_ne (by decide), a, a34 6 (by decide)], by rw [sA_ne (by decide), b, a34 7 (by decide)], ?_, ?_⟩
    · rw [sA_ne (by decide), c]
      show (sA 34 1 (-1) (sA 34 0 (nI (LQ.n X 0)) μ)).2.1 8 i = _
      rw [a34 8 (by decide)]
    · rw [sA_ne (by decide), d]
      show (sA 34 1 (-1) (sA 34 0 (nI (LQ.n X 0)) μ)).2.1 9 i = _
      rw [a34 9 (by decide)]
