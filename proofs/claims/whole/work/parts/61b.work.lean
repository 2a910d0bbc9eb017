/-! answers -/
def tri (x : Int32) : Prop := x = 0 ∨ x = 1 ∨ x = 2
theorem and_eq (a b : Int32) : m_and a b = some (wBoth a b) := by
  rw [m_and, wBoth]
  by_cases a0 : a = 0
  · rw [if_pos a0, if_pos a0]
  · rw [if_neg a0, if_neg a0]
    by_cases b0 : b = 0
    · rw [if_pos b0, if_pos b0]
    · rw [if_neg b0, if_neg b0]
      by_cases a2 : a = 2
      · rw [if_pos a2, if_pos a2]
      · rw [if_neg a2, if_neg a2]
        by_cases b2 : b = 2
        · rw [if_pos b2, if_pos b2]
        · rw [if_neg b2, if_neg b2]
theorem not_eq {a : Int32} (h : tri a) : m_not a = some (wTurn a) := by
  rcases h with rfl | rfl | rfl <;> rfl
theorem tri_turn {a : Int32} (h : tri a) : tri (wTurn a) := by
  rcases h with rfl | rfl | rfl
  · exact Or.inr (Or.inl rfl)
  · exact Or.inl rfl
  · exact Or.inr (Or.inr rfl)
theorem tri_both {a b : Int32} : tri (wBoth a b) := by
  rw [wBoth]
  by_cases a0 : a = 0
  · rw [if_pos a0]; exact Or.inl rfl
  · rw [if_neg a0]
    by_cases b0 : b = 0
    · rw [if_pos b0]; exact Or.inl rfl
    · rw [if_neg b0]
      by_cases a2 : a = 2
      · rw [if_pos a2]; exact Or.inr (Or.inr rfl)
      · rw [if_neg a2]
        by_cases b2 : b = 2
        · rw [if_pos b2]; exact Or.inr (Or.inr rfl)
        · rw [if_neg b2]; exact Or.inr (Or.inl rfl)
theorem tri_eith {a b : Int32} : tri (wEith a b) := tri_turn tri_both
theorem or_eq {a b : Int32} (ha : tri a) (hb : tri b) : m_or2 a b = some (wEith a b) := by
  rw [m_or2, not_eq ha]
  show (m_not b).bind _ = _
  rw [not_eq hb]
  show (m_and (wTurn a) (wTurn b)).bind _ = _
  rw [and_eq]
  show (m_not (wBoth (wTurn a) (wTurn b))).bind _ = _
  rw [not_eq tri_both]
  rfl
theorem tri_over {kd LB : Int32} {G : Nat → Int32} {c : Option Nat} : ∀ k, tri (wover kd LB G c k)
  | 0 => by
    rw [wover]
    by_cases h : kd = 3
    · rw [if_pos h]; exact Or.inr (Or.inl rfl)
    · rw [if_neg h]; exact Or.inl rfl
  | k + 1 => by
    rw [wover]
    by_cases h : (LB >>> (nI (k + 1) &&& 31)) &&& 1 = 1
    · rw [if_pos h]
      by_cases h3 : kd = 3
      · rw [if_pos h3]; exact tri_both
      · rw [if_neg h3]; exact tri_eith
    · rw [if_neg h]; exact tri_over k
theorem over_B {kd LB : Int32} {c F : Nat} {G : Nat → Int32} {μ : MS} (hc : c < 40) (ht : ∀ k, k < 10 → tri (μ.2.1 33 (10 * c + k))) (hG : ∀ k, k < 10 → G (c * 10 + k) = μ.2.1 33 (10 * c + k)) (hL : ∀ k, 0 < k → k < 10 → ((LB >>> (nI k &&& 31)) &&& 1 = 1 ↔ thr (μ.2.1 19) k 20 = true)) : ∀ n k, k + n = 9 → m_over_B (F + n + 1) 0 kd (nI c) (wover kd LB G (some c) k) (nI (k + 1)) μ = some (wover kd LB G (some c) 9, μ)
  | 0, k, h => by
    have : k = 9 := by omega
    subst this
    rw [m_over_B, if_pos (by decide)]
  | n + 1, k, h => by
    have ih := over_B (F := F) (kd := kd) hc ht hG hL n (k + 1) (by omega)
    rw [show F + (n + 1) + 1 = F + n + 1 + 1 by omega, m_over_B, if_neg (show ¬ (10 : Int32) ≤ nI (k + 1) from nI_ge (b := 10) (by omega) (by decide)), there_eq (by omega), nI_1]
    have hl := hL (k + 1) (by omega) (by omega)
    have hg : wres G (some c) (k + 1) = μ.2.1 33 (10 * c + (k + 1)) := hG (k + 1) (by omega)
    rw [wover] at ih
    cases th : thr (μ.2.1 19) (k + 1) 20 with
    | false =>
      rw [if_neg (fun z => by rw [hl.mp z] at th; cases th)] at ih
      show (m_over_B (F + n + 1) 0 kd (nI c) (wover kd LB G (some c) k) (nI (k + 1 + 1)) μ) = _
      exact ih
    | true =>
      rw [if_pos (hl.mpr th), hg] at ih
      show (if kd = 3 then (if inb (10 * nI c + nI (k + 1)) 400 = true then (m_and (wover kd LB G (some c) k) (μ.2.1 33 (10 * nI c + nI (k + 1)).toNatClampNeg)).bind _ else none) else (if inb (10 * nI c + nI (k + 1)) 400 = true then (m_or2 (wover kd LB G (some c) k) (μ.2.1 33 (10 * nI c + nI (k + 1)).toNatClampNeg)).bind _ else none)) = _
      rw [e10, nI_clamp (by omega)]
      have i4 : inb (nI (10 * c + (k + 1))) 400 = true := inb_nI (by omega) (by decide)
      by_cases h3 : kd = 3
      · rw [if_pos h3, if_pos i4, and_eq]
        rw [if_pos h3] at ih
        exact ih
      · rw [if_neg h3, if_pos i4, or_eq (tri_over k) (ht (k + 1) (by omega))]
        rw [if_neg h3] at ih
        exact ih
theorem over_eq {kd LB : Int32} {c : Nat} {G : Nat → Int32} {μ : MS} (hc : c < 40) (ht : ∀ k, k < 10 → tri (μ.2.1 33 (10 * c + k))) (hG : ∀ k, k < 10 → G (c * 10 + k) = μ.2.1 33 (10 * c + k)) (hL : ∀ k, 0 < k → k < 10 → ((LB >>> (nI k &&& 31)) &&& 1 = 1 ↔ thr (μ.2.1 19) k 20 = true)) : m_over kd (nI c) μ = some (wover kd LB G (some c) 9, μ) := by
  have hF : ∃ F, ∀ x1 x2 μ, m_over x1 x2 μ = (if x1 = 3 then m_over_B (F + 9 + 1) 0 x1 x2 1 1 μ else m_over_B (F + 9 + 1) 0 x1 x2 0 1 μ) := ⟨4086, fun x1 x2 μ => by rw [m_over]⟩
  obtain ⟨F, eF⟩ := hF
  have h := over_B (F := F) (kd := kd) hc ht hG hL 9 0 rfl
  rw [wover] at h
  rw [eF]
  by_cases h3 : kd = 3
  · rw [if_pos h3] at h
    rw [if_pos h3]
    exact h
  · rw [if_neg h3] at h
    rw [if_neg h3]
    exact h
theorem lgc {x y : Int64} {a b : Int32} {B : Int} (hB : B ≤ 400000000) (a1 : -B ≤ a.toInt) (a2 : a.toInt ≤ B) (b1 : -B ≤ b.toInt) (b2 : b.toInt ≤ B) (ex : x.toInt = a.toInt) (ey : y.toInt = b.toInt) : (a < b ∧ lg_cmp (x - y) 0 = -1) ∨ (a = b ∧ lg_cmp (x - y) 0 = 0) ∨ (b < a ∧ lg_cmp (x - y) 0 = 1) := by
  have d : (x - y).toInt = a.toInt - b.toInt := by
    rw [i64d (B := B) (C := B) (by omega) (by omega) (by omega) (by omega) (by omega), ex, ey]
  have z : (0 : Int64).toInt = 0 := rfl
  rcases Int.lt_trichotomy a.toInt b.toInt with h | h | h
  · refine Or.inl ⟨Int32.lt_iff_toInt_lt.mpr h, ?_⟩
    rw [lg_cmp, if_neg (fun q => by have := Int64.lt_iff_toInt_lt.mp q; omega), if_neg (fun q => by have := Int64.toInt_inj.mpr q; omega)]
  · refine Or.inr (Or.inl ⟨Int32.toInt_inj.mp h, ?_⟩)
    rw [lg_cmp, if_neg (fun q => by have := Int64.lt_iff_toInt_lt.mp q; omega), if_pos (Int64.toInt_inj.mp (by omega))]
  · refine Or.inr (Or.inr ⟨Int32.lt_iff_toInt_lt.mpr h, ?_⟩)
    rw [lg_cmp, if_pos (Int64.lt_iff_toInt_lt.mpr (by omega))]
theorem cmpB0 {F : Nat} {y : Int32} {μ : MS} : m_compared_B (F + 1) 0 y μ = some (2, μ) := by rw [m_compared_B, if_pos rfl]
theorem cmpB1 {F : Nat} {y : Int32} {μ : MS} : m_compared_B (F + 1) 1 y μ = if y = 0 then some (0, μ) else some (1, μ) := by rw [m_compared_B, if_neg (by decide)]
theorem m_comp_F : ∃ F, ∀ x1 x2 x3 μ, m_compared x1 x2 x3 μ = (if inb x2 400 = true then (if ((μ.2.1 32) x2.toNatClampNeg) = 0 then m_compared_B (F + 1) 0 0 μ else (if inb x3 400 = true then (if ((μ.2.1 32) x3.toNatClampNeg) = 0 then m_compared_B (F + 1) 0 0 μ else (if x1 = 5 then (if 0 ≤ (lg_cmp ((μ.2.2 x2.toNatClampNeg) - (μ.2.2 x3.toNatClampNeg)) 0) then m_compared_B (F + 1) 1 0 μ else m_compared_B (F + 1) 1 1 μ) else (if x1 = 6 then (if (lg_cmp ((μ.2.2 x2.toNatClampNeg) - (μ.2.2 x3.toNatClampNeg)) 0) ≤ 0 then m_compared_B (F + 1) 1 0 μ else m_compared_B (F + 1) 1 1 μ) else (if x1 = 7 then (if (lg_cmp ((μ.2.2 x2.toNatClampNeg) - (μ.2.2 x3.toNatClampNeg)) 0) = 0 then m_compared_B (F + 1) 1 1 μ else m_compared_B (F + 1) 1 0 μ) else (if (lg_cmp ((μ.2.2 x2.toNatClampNeg) - (μ.2.2 x3.toNatClampNeg)) 0) = 0 then m_compared_B (F + 1) 1 0 μ else m_compared_B (F + 1) 1 1 μ))))) else none)) else none) :=
  ⟨4095, fun x1 x2 x3 μ => by rw [m_compared]⟩
theorem comp_eq {kd : Int32} {i1 i2 : Nat} {a b : Int32} {B : Int} {μ : MS} (hk : kd = 5 ∨ kd = 6 ∨ kd = 7 ∨ kd = 8) (h1 : i1 < 400) (h2 : i2 < 400) (hB : B ≤ 400000000) (s1 : sm B (μ.2.1 32 i1) (μ.2.2 i1) a) (s2 : sm B (μ.2.1 32 i2) (μ.2.2 i2) b) : m_compared kd (nI i1) (nI i2) μ = some (wCalc kd a b, μ) ∧ tri (wCalc kd a b) := by
  obtain ⟨F, eF⟩ := m_comp_F
  have n9 : ¬ kd = 9 := by rcases hk with z | z | z | z <;> rw [z] <;> decide
  have n10 : ¬ kd = 10 := by rcases hk with z | z | z | z <;> rw [z] <;> decide
  have c1 : (nI i1).toNatClampNeg = i1 := nI_clamp (by omega)
  have c2 : (nI i2).toNatClampNeg = i2 := nI_clamp (by omega)
  rw [eF, if_pos (inb_nI h1 (by decide)), if_pos (inb_nI h2 (by decide)), c1, c2, wCalc, if_neg n9, if_neg n10, wKnow]
  rcases s1 with ⟨k1, e1⟩ | ⟨k1, a1, a2, a3⟩
  · rw [k1, if_pos rfl, cmpB0, decide_eq_true e1, Bool.not_true, Bool.false_and, if_neg (by decide)]
    exact ⟨rfl, Or.inr (Or.inr rfl)⟩
  · have na : ¬ a = -2147483648 := fun z => by
      rw [show a = zNV from z, zNV_i] at a1; omega
    rw [k1, if_neg (by decide), decide_eq_false na, Bool.not_false, Bool.true_and]
    rcases s2 with ⟨k2, e2⟩ | ⟨k2, b1, b2, b3⟩
    · rw [k2, if_pos rfl, cmpB0, decide_eq_true e2, Bool.not_true, if_neg (by decide)]
      exact ⟨rfl, Or.inr (Or.inr rfl)⟩
    · have nb : ¬ b = -2147483648 := fun z => by
        rw [show b = zNV from z, zNV_i] at b1; omega
      rw [k2, if_neg (by decide), decide_eq_false nb, Bool.not_false, if_pos rfl]
      have tz : ∀ q : Bool, tri (zb q) := fun q => by cases q; exact Or.inl rfl; exact Or.inr (Or.inl rfl)
      refine ⟨?_, tz _⟩
      have nlt : ∀ x y : Int32, x < y → ¬ y < x := fun x y h h' => by
        have := Int32.lt_iff_toInt_lt.mp h
        have := Int32.lt_iff_toInt_lt.mp h'
        omega
      have nle : ∀ x y : Int32, x < y → ¬ x = y := fun x y h e => by
        rw [e] at h
        exact absurd h Int32.lt_irrefl
      rcases lgc hB a1 a2 b1 b2 a3 b3 with ⟨q1, q2⟩ | ⟨q1, q2⟩ | ⟨q1, q2⟩
      · rw [q2]
        rcases hk with z | z | z | z
        · rw [z, wHold, if_pos rfl, if_pos rfl, if_neg (by decide), cmpB1, if_neg (by decide), decide_eq_true q1]; rfl
        · rw [z, wHold, if_neg (by decide), if_pos rfl, if_pos (by decide), cmpB1, if_pos rfl, if_neg (by decide), if_pos rfl, decide_eq_false (nlt _ _ q1)]; rfl
        · rw [z, wHold, if_neg (by decide), if_neg (by decide), if_pos rfl, if_neg (by decide), cmpB1, if_pos rfl, if_neg (by decide), if_neg (by decide), if_pos rfl, decide_eq_false (nle _ _ q1)]; rfl
        · rw [z, wHold, if_neg (by decide), if_neg (by decide), if_neg (by decide), if_pos rfl, if_neg (by decide), cmpB1, if_neg (by decide), if_neg (by decide), if_neg (by decide), if_neg (by decide), decide_eq_false (nle _ _ q1)]; rfl
      · rw [q2]
        have n1 : ¬ a < b := by rw [q1]; exact Int32.lt_irrefl
        have n2 : ¬ b < a := by rw [q1]; exact Int32.lt_irrefl
        rcases hk with z | z | z | z
        · rw [z, wHold, if_pos rfl, if_pos rfl, if_pos (by decide), cmpB1, if_pos rfl, decide_eq_false n1]; rfl
        · rw [z, wHold, if_neg (by decide), if_pos rfl, if_pos (by decide), cmpB1, if_pos rfl, if_neg (by decide), if_pos rfl, decide_eq_false n2]; rfl
        · rw [z, wHold, if_neg (by decide), if_neg (by decide), if_pos rfl, if_pos rfl, cmpB1, if_neg (by decide), if_neg (by decide), if_neg (by decide), if_pos rfl, decide_eq_true q1]; rfl
        · rw [z, wHold, if_neg (by decide), if_neg (by decide), if_neg (by decide), if_pos rfl, if_pos rfl, cmpB1, if_pos rfl, if_neg (by decide), if_neg (by decide), if_neg (by decide), decide_eq_true q1]; rfl
      · rw [q2]
        rcases hk with z | z | z | z
        · rw [z, wHold, if_pos rfl, if_pos rfl, if_pos (by decide), cmpB1, if_pos rfl, decide_eq_false (nlt _ _ q1)]; rfl
        · rw [z, wHold, if_neg (by decide), if_pos rfl, if_neg (by decide), cmpB1, if_neg (by decide), if_neg (by decide), if_pos rfl, decide_eq_true q1]; rfl
        · rw [z, wHold, if_neg (by decide), if_neg (by decide), if_pos rfl, if_neg (by decide), cmpB1, if_pos rfl, if_neg (by decide), if_neg (by decide), if_pos rfl, decide_eq_false (fun e => nle _ _ q1 e.symm)]; rfl
        · rw [z, wHold, if_neg (by decide), if_neg (by decide), if_neg (by decide), if_pos rfl, if_neg (by decide), cmpB1, if_neg (by decide), if_neg (by decide), if_neg (by decide), if_neg (by decide), decide_eq_false (fun e => nle _ _ q1 e.symm)]; rfl
/-! the nodes -/
/-- what a tree says of a place -/
def nodeOk (X : LQ) (u j : Nat) : Prop := lf (LQ.K X j) (LQ.V X j) ∧ LQ.R X j = -1 ∨ (un (LQ.K X j) ∧ LQ.R X j = -1 ∧ j + 1 < u ∧ LQ.K X (j + 1) ≤ 8) ∨ (bi (LQ.K X j) ∧ ∃ c, LQ.R X j = nI c ∧ j + 1 < c ∧ c < u ∧ (LQ.K X j ≤ 4 → LQ.K X (j + 1) ≤ 8 ∧ LQ.K X c ≤ 8) ∧ (¬ LQ.K X j ≤ 4 → ¬ LQ.K X (j + 1) ≤ 8 ∧ ¬ LQ.K X c ≤ 8) ∧ (8 < LQ.K X j → 10 < LQ.K X c))
theorem tr_ty {X : LQ} : ∀ {n : Nat} {ty : Bool} {a b : Nat}, tr X n ty a b → ty = decide (LQ.K X a ≤ 8)
  | 0, _, _, _, h => h.elim
  | _ + 1, _, _, _, h => h.2.2.2.1
theorem tr_1 {X : LQ} : ∀ {n : Nat} {ty : Bool} {a : Nat}, tr X n ty a (a + 1) → 10 < LQ.K X a
  | 0, _, _, h => h.elim
  | n + 1, ty, a, h => by
    rcases h.2.2.2.2 with ⟨q1, -⟩ | ⟨-, -, -, -, q5⟩ | ⟨-, c, -, -, -, q5, q6, -⟩
    · exact Int32.not_le.mp (lf_10 q1)
    · exact absurd (tr_lt q5) (Nat.lt_irrefl _)
    · have := tr_lt q5
      have := tr_lt q6
      omega
theorem nodeOk_up {X : LQ} {u w j : Nat} (h : nodeOk X u j) (hw : u ≤ w) : nodeOk X w j := by
  rcases h with h | ⟨a, b, c, d⟩ | ⟨a, c, b1, b2, b3, b4⟩
  · exact Or.inl h
  · exact Or.inr (Or.inl ⟨a, b, by omega, d⟩)
  · exact Or.inr (Or.inr ⟨a, c, b1, b2, by omega, b4⟩)
theorem tr_node {X : LQ} : ∀ {n : Nat} {ty : Bool} {a b : Nat}, tr X n ty a b → ∀ j, a ≤ j → j < b → nodeOk X b j
  | 0, _, _, _, h, _, _, _ => h.elim
  | n + 1, ty, a, b, h, j, hj, hb => by
    obtain ⟨h1, h2, h3, h4, h5⟩ := h
    rcases h5 with ⟨q1, q2, q3, q4, q5⟩ | ⟨q1, q2, q3, q4, q5⟩ | ⟨q1, c, q2, q3, q4, q5, q6, q7⟩
    · have : j = a := by omega
      subst this
      exact Or.inl ⟨q1, q3⟩
    · have l := tr_lt q5
      by_cases e : j = a
      · subst e
        exact Or.inr (Or.inl ⟨q1, q2, l, of_decide_eq_true (tr_ty q5).symm⟩)
      · exact tr_node q5 j (by omega) hb
    · have l := tr_lt q5
      have l2 := tr_lt q6
      by_cases e : j = a
      · subst e
        have t5 := tr_ty q5
        have t6 := tr_ty q6
        refine Or.inr (Or.inr ⟨q1, c, q2, l, l2, fun z => ?_, fun z => ?_, fun z => ?_⟩)
        · rw [decide_eq_true z] at t5 t6
          exact ⟨of_decide_eq_true t5.symm, of_decide_eq_true t6.symm⟩
        · rw [decide_eq_false z] at t5 t6
          exact ⟨of_decide_eq_false t5.symm, of_decide_eq_false t6.symm⟩
        · have := q7 z
          subst this
          exact tr_1 q6
      · by_cases e2 : j < c
        · exact nodeOk_up (tr_node q5 j (by omega) e2) (by omega)
        · exact tr_node q6 j (by omega) hb
def NRv (X : LQ) (j : Nat) (kn an : Int32) (am : Int64) (x : Int32) : Prop := (LQ.K X j ≤ 8 → an = x ∧ tri x) ∧ (¬ LQ.K X j ≤ 8 → sm (10000000 * (40 - (j : Int))) kn am x) ∧ (10 < LQ.K X j → sm 10000000 kn am x)
def NR (X : LQ) (i b : Nat) (G : Nat → Int32) (μ : MS) : Prop := NRv X i (μ.2.1 32 (10 * i + b)) (μ.2.1 33 (10 * i + b)) (μ.2.2 (10 * i + b)) (G (i * 10 + b))
/-- the rows of the rule r hold the tree -/
def rwr (X : LQ) (r u : Nat) (μ : MS) : Prop := ∀ j, j < u → μ.2.1 6 (40 * r + j) = LQ.K X j ∧ μ.2.1 7 (40 * r + j) = LQ.V X j ∧ μ.2.1 8 (40 * r + j) = Lf X j ∧ μ.2.1 9 (40 * r + j) = LQ.R X j
theorem wnB {μ : MS} : m_workNode_B 4096 0 μ = some μ := by rw [m_workNode_B]
theorem wrow_lf {kd val LB : Int32} {v G : Nat → Int32} {cl cr : Option Nat} {b : Nat} (h : lf kd val) : wrow kd val v LB G cl cr b = tv kd val v b := by
  rw [wrow, tv]
  rcases h with ⟨rfl, -⟩ | ⟨rfl | rfl | rfl, -⟩
  · rw [if_pos rfl, if_pos rfl]
  · rw [if_neg (by decide), if_neg (by decide), if_neg (by decide), if_neg (by decide), if_pos rfl, if_neg (by decide), if_neg (by decide), if_neg (by decide)]
  · rw [if_neg (by decide), if_pos rfl, if_neg (by decide), if_pos rfl]
  · rw [if_neg (by decide), if_neg (by decide), if_pos rfl, if_neg (by decide), if_neg (by decide), if_pos rfl]
theorem wrow_j {kd val LB : Int32} {v G : Nat → Int32} {cl cr : Option Nat} {b : Nat} (h : kd = 0 ∨ kd = 1 ∨ kd = 2 ∨ kd = 5 ∨ kd = 6 ∨ kd = 7 ∨ kd = 8 ∨ kd = 9 ∨ kd = 10) : wrow kd val v LB G cl cr b = wJoin kd (wres G cl b) (wres G cr b) := by
  rw [wrow]
  rcases h with rfl | rfl | rfl | rfl | rfl | rfl | rfl | rfl | rfl <;> rw [if_neg (by decide), if_neg (by decide), if_neg (by decide), if_neg (by decide), if_neg (by decide)]
theorem wrow_o {kd val LB : Int32} {v G : Nat → Int32} {cl cr : Option Nat} {b : Nat} (h : kd = 3 ∨ kd = 4) : wrow kd val v LB G cl cr b = wover kd LB G cl 9 := by
  rw [wrow]
  rcases h with rfl | rfl <;> rw [if_neg (by decide), if_neg (by decide), if_neg (by decide), if_pos (by decide)]
theorem cCL_y {K : Nat → Int32} {a : Nat} (h : K a ≤ 10) : cCL K a = some (a + 1) := by rw [cCL, if_neg (Int32.not_lt.mpr h)]
theorem cCR_y {R : Nat → Int32} {a c : Nat} (h : R a = nI c) (hc : c < 2 ^ 31) : cCR R a = some c := by rw [cCR, h, if_neg (nI_m1 hc), nI_clamp hc]
/-- a node with an answer -/
theorem NRv_a {X : LQ} {j i : Nat} {μ : MS} {x : Int32} (h : LQ.K X j ≤ 8) (hx : tri x) : NRv X j ((sA 33 i x μ).2.1 32 i) ((sA 33 i x μ).2.1 33 i) ((sA 33 i x μ).2.2 i) x := by
  refine ⟨fun _ => ⟨by rw [sA_at, upd_at], hx⟩, fun z => absurd h z, fun z => absurd z ?_⟩
  exact Int32.not_lt.mpr (Int32.le_trans h (by decide))
set_option maxHeartbeats 4000000 in
theorem wnode_eq {X : LQ} {r u j b : Nat} {v G : Nat → Int32} {LB : Int32} {μ : MS} (hr : r < 20) (hu : u ≤ 40) (hj : j < u) (hb : b < 10) (hw : rwr X r u μ) (hN : nodeOk X u j) (hV : VR v (μ.2.1 19) (μ.2.1 18)) (hL : ∀ k, 0 < k → k < 10 → ((LB >>> (nI k &&& 31)) &&& 1 = 1 ↔ thr (μ.2.1 19) k 20 = true)) (hrel : ∀ i, j < i → i < u → ∀ b, b < 10 → NR X i b G μ) :
    ∃ μ', m_workNode (nI (40 * r + j)) (nI j) (nI b) μ = some μ' ∧ WkF (10 * j + b) μ μ' ∧ NRv X j (μ'.2.1 32 (10 * j + b)) (μ'.2.1 33 (10 * j + b)) (μ'.2.2 (10 * j + b)) (wrow (LQ.K X j) (LQ.V X j) v LB G (cCL (LQ.K X) j) (cCR (LQ.R X) j) b) := by
  obtain ⟨w6, w7, w8', w9'⟩ := hw j hj
  have i8 : inb (nI (40 * r + j)) 800 = true := inb_nI (by omega) (by decide)
  have c2 : (nI (40 * r + j)).toNatClampNeg = 40 * r + j := nI_clamp (by omega)
  have i4 : inb (nI (10 * j + b)) 400 = true := inb_nI (by omega) (by decide)
  have c4 : (nI (10 * j + b)).toNatClampNeg = 10 * j + b := nI_clamp (by omega)
  rw [m_workNode, if_pos i8, c2]
  simp only [wnB]
  have hL10 : LQ.K X j ≤ 10 → Lf X j = nI (j + 1) := fun h => by rw [Lf, if_pos h]
  rcases hN with ⟨h1, h2⟩ | ⟨h1, h2, h3, h4⟩ | ⟨h1, c, h2, h3, h4, h5, h6, h7⟩
  · have k10 := lf_10 h1
    have k8 : ¬ LQ.K X j ≤ 8 := fun z => k10 (Int32.le_trans z (by decide))
    obtain ⟨μ', s1, s2, s3⟩ := wterm_eq hr (by omega) hb w6 w7 h1 hV
    rw [w6, if_neg k10, s1, wrow_lf h1]
    refine ⟨μ', rfl, s2, fun z => absurd z k8, fun _ => sm_le s3 (by omega), fun _ => s3⟩
  · -- not, all, any
    have k10 := un_10 h1
    have k8 : LQ.K X j ≤ 8 := by rcases h1 with z | z | z <;> rw [z] <;> decide
    have k4 : LQ.K X j ≤ 4 := by rcases h1 with z | z | z <;> rw [z] <;> decide
    rw [w6, w8', hL10 k10, if_pos k10, if_pos k8, if_pos k4, cCL_y k10]
    have nr := fun b hb => (hrel (j + 1) (by omega) h3 b hb).1 h4
    have i5 : inb (nI (10 * (j + 1) + b)) 400 = true := inb_nI (by omega) (by decide)
    have c5 : (nI (10 * (j + 1) + b)).toNatClampNeg = 10 * (j + 1) + b := nI_clamp (by omega)
    by_cases k2 : LQ.K X j = 2
    · obtain ⟨a1, a2⟩ := nr b hb
      rw [k2, if_pos (by decide), if_pos rfl, e10, e10, if_pos i5, c5, a1, not_eq a2, wrow_j (Or.inr (Or.inr (Or.inl rfl)))]
      show ∃ μ', (if inb (nI (10 * j + b)) 400 = true then some (sA 33 ((nI (10 * j + b)).toNatClampNeg) (wTurn (G ((j + 1) * 10 + b))) μ) else none) = some μ' ∧ _
      rw [if_pos i4, c4]
      refine ⟨_, rfl, WkF.rf.a, ?_⟩
      have e : wJoin 2 (wres G (some (j + 1)) b) (wres G (cCR (LQ.R X) j) b) = wTurn (G ((j + 1) * 10 + b)) := by
        rw [wJoin, if_neg (by decide), if_neg (by decide), if_pos rfl]
        rfl
      rw [e]
      exact NRv_a k8 (tri_turn a2)
    · have k34 : LQ.K X j = 3 ∨ LQ.K X j = 4 := by
        rcases h1 with z | z | z
        · exact absurd z k2
        · exact Or.inl z
        · exact Or.inr z
      have n2 : ¬ LQ.K X j ≤ 2 := by rcases k34 with z | z <;> rw [z] <;> decide
      have ov := over_eq (kd := LQ.K X j) (LB := LB) (c := j + 1) (G := G) (μ := μ) (by omega) (fun k hk => by rw [(nr k hk).1]; exact (nr k hk).2) (fun k hk => (nr k hk).1.symm) hL
      rw [if_neg n2, ov, wrow_o k34, e10]
      show ∃ μ', (if inb (nI (10 * j + b)) 400 = true then some (sA 33 ((nI (10 * j + b)).toNatClampNeg) (wover (LQ.K X j) LB G (some (j + 1)) 9) μ) else none) = some μ' ∧ _
      rw [if_pos i4, c4]
      exact ⟨_, rfl, WkF.rf.a, NRv_a k8 (tri_over 9)⟩
  · have k10 := bi_10 h1
    have i5 : inb (nI (10 * (j + 1) + b)) 400 = true := inb_nI (by omega) (by decide)
    have c5 : (nI (10 * (j + 1) + b)).toNatClampNeg = 10 * (j + 1) + b := nI_clamp (by omega)
    have i6 : inb (nI (10 * c + b)) 400 = true := inb_nI (by omega) (by decide)
    have c6 : (nI (10 * c + b)).toNatClampNeg = 10 * c + b := nI_clamp (by omega)
    rw [w6, w8', w9', hL10 k10, h2, if_pos k10, cCL_y k10, cCR_y h2 (by omega)]
    simp only [e10, i4, i5, i6, c4, c5, c6, if_true]
    have nl := hrel (j + 1) (by omega) (by omega) b hb
    have nr := hrel c (by omega) h4 b hb
    by_cases k4 : LQ.K X j ≤ 4
    · have k8 : LQ.K X j ≤ 8 := Int32.le_trans k4 (by decide)
      obtain ⟨a1, a2⟩ := nl.1 (h5 k4).1
      obtain ⟨b1, b2⟩ := nr.1 (h5 k4).2
      have k01 : LQ.K X j = 0 ∨ LQ.K X j = 1 := by
        rcases h1 with z | z | z | z | z | z | z | z
        · exact Or.inl z
        · exact Or.inr z
        all_goals (rw [z] at k4; exact absurd k4 (by decide))
      rw [if_pos k8, if_pos k4, a1, b1]
      rcases k01 with z | z
      · rw [z, if_pos (by decide), if_neg (by decide), if_neg (by decide), or_eq a2 b2, wrow_j (Or.inl rfl)]
        refine ⟨_, rfl, WkF.rf.a, ?_⟩
        have e : wJoin 0 (wres G (some (j + 1)) b) (wres G (some c) b) = wEith (G ((j + 1) * 10 + b)) (G (c * 10 + b)) := by
          rw [wJoin, if_pos rfl]
          rfl
        rw [e]
        exact NRv_a k8 tri_eith
      · rw [z, if_pos (by decide), if_neg (by decide), if_pos rfl, and_eq, wrow_j (Or.inr (Or.inl rfl))]
        refine ⟨_, rfl, WkF.rf.a, ?_⟩
        have e : wJoin 1 (wres G (some (j + 1)) b) (wres G (some c) b) = wBoth (G ((j + 1) * 10 + b)) (G (c * 10 + b)) := by
          rw [wJoin, if_neg (by decide), if_pos rfl]
          rfl
        rw [e]
        exact NRv_a k8 tri_both
    · obtain ⟨m1, m2⟩ := h6 k4
      have sl := nl.2.1 m1
      have sr := nr.2.1 m2
      by_cases k8 : LQ.K X j ≤ 8
      · have kk : LQ.K X j = 5 ∨ LQ.K X j = 6 ∨ LQ.K X j = 7 ∨ LQ.K X j = 8 := by
          rcases h1 with z | z | z | z | z | z | z | z
          · rw [z] at k4; exact absurd (by decide) k4
          · rw [z] at k4; exact absurd (by decide) k4
          · exact Or.inl z
          · exact Or.inr (Or.inl z)
          · exact Or.inr (Or.inr (Or.inl z))
          · exact Or.inr (Or.inr (Or.inr z))
          · rw [z] at k8; exact absurd k8 (by decide)
          · rw [z] at k8; exact absurd k8 (by decide)
        obtain ⟨ce, ct⟩ := comp_eq (kd := LQ.K X j) (i1 := 10 * (j + 1) + b) (i2 := 10 * c + b) (B := 400000000) (μ := μ) kk (by omega) (by omega) (by omega) (sm_le sl (by omega)) (sm_le sr (by omega))
        rw [if_pos k8, if_neg k4, ce]
        refine ⟨_, rfl, WkF.rf.a, ?_⟩
        have e : wrow (LQ.K X j) (LQ.V X j) v LB G (some (j + 1)) (some c) b = wCalc (LQ.K X j) (G ((j + 1) * 10 + b)) (G (c * 10 + b)) := by
          rw [wrow_j (by rcases kk with z | z | z | z <;> simp [z]), wJoin, if_neg (by rcases kk with z | z | z | z <;> rw [z] <;> decide), if_neg (by rcases kk with z | z | z | z <;> rw [z] <;> decide), if_neg (by rcases kk with z | z | z | z <;> rw [z] <;> decide)]
          rfl
        rw [e]
        exact NRv_a k8 ct
      · have k910 : LQ.K X j = 9 ∨ LQ.K X j = 10 := by
          rcases h1 with z | z | z | z | z | z | z | z
          · rw [z] at k8; exact absurd (by decide) k8
          · rw [z] at k8; exact absurd (by decide) k8
          · rw [z] at k8; exact absurd (by decide) k8
          · rw [z] at k8; exact absurd (by decide) k8
          · rw [z] at k8; exact absurd (by decide) k8
          · rw [z] at k8; exact absurd (by decide) k8
          · exact Or.inl z
          · exact Or.inr z
        have sr1 := nr.2.2 (h7 (Int32.not_le.mp k8))
        have n0 : vp_nar .boolean (0 : Int32) = 0 := nar_b (Or.inl rfl)
        have n1 : vp_nar .boolean (1 : Int32) = 1 := nar_b (Or.inr rfl)
        rw [if_neg k8]
        -- both amounts, and what is known of them
        have core : ∀ (y : Int64) (kn x : Int32), (kn = 0 ∧ x = zNV) ∨ (kn = 1 ∧ y.toInt = x.toInt ∧ -(10000000 * (40 - (j : Int))) ≤ x.toInt ∧ x.toInt ≤ 10000000 * (40 - (j : Int))) → ∃ μ', some (sJ (10 * j + b) y (sA 32 (10 * j + b) kn μ)) = some μ' ∧ WkF (10 * j + b) μ μ' ∧ NRv X j (μ'.2.1 32 (10 * j + b)) (μ'.2.1 33 (10 * j + b)) (μ'.2.2 (10 * j + b)) x := by
          intro y kn x hx
          refine ⟨_, rfl, WkF.rf.k.J, fun z => absurd z k8, fun _ => ?_, fun z => absurd z (Int32.not_lt.mpr k10)⟩
          have q1 : (sJ (10 * j + b) y (sA 32 (10 * j + b) kn μ)).2.1 32 (10 * j + b) = kn := by
            show (sA 32 (10 * j + b) kn μ).2.1 32 (10 * j + b) = kn
            rw [sA_at, upd_at]
          rw [q1, sJ_at]
          rcases hx with z | ⟨z1, z2, z3, z4⟩
          · exact Or.inl z
          · exact Or.inr ⟨z1, z3, z4, z2⟩
        have hcalc : wrow (LQ.K X j) (LQ.V X j) v LB G (some (j + 1)) (some c) b = (if wKnow (G ((j + 1) * 10 + b)) (G (c * 10 + b)) = true then (if LQ.K X j = 9 then G ((j + 1) * 10 + b) + G (c * 10 + b) else G ((j + 1) * 10 + b) - G (c * 10 + b)) else zNV) := by
          rcases k910 with z | z
          · rw [z, wrow_j (by simp), wJoin, if_neg (by decide), if_neg (by decide), if_neg (by decide), wCalc, if_pos rfl, if_pos rfl]
            rfl
          · rw [z, wrow_j (by simp), wJoin, if_neg (by decide), if_neg (by decide), if_neg (by decide), wCalc, if_neg (show ¬ (10 : Int32) = 9 by decide), if_pos (show (10 : Int32) = 10 from rfl), if_neg (show ¬ (10 : Int32) = 9 by decide)]
            rfl
        rw [hcalc]
        rcases sl with ⟨p1, p2⟩ | ⟨p1, p2, p3, p4⟩
        · have kw : wKnow (G ((j + 1) * 10 + b)) (G (c * 10 + b)) = false := by
            rw [wKnow, decide_eq_true p2, Bool.not_true, Bool.false_and]
          rw [p1, if_pos rfl, kw, if_neg (show ¬ false = true by decide), n0]
          split
          · exact core _ 0 zNV (Or.inl ⟨rfl, rfl⟩)
          · exact core _ 0 zNV (Or.inl ⟨rfl, rfl⟩)
        · have na : ¬ G ((j + 1) * 10 + b) = -2147483648 := fun z => by
            rw [show G ((j + 1) * 10 + b) = zNV from z, zNV_i] at p2; omega
          rw [p1, if_neg (by decide)]
          rcases sr1 with ⟨t1, t2⟩ | ⟨t1, t2, t3, t4⟩
          · have kw : wKnow (G ((j + 1) * 10 + b)) (G (c * 10 + b)) = false := by
              rw [wKnow, decide_eq_true t2, Bool.not_true, Bool.and_false]
            rw [t1, if_pos rfl, kw, if_neg (show ¬ false = true by decide), n0]
            split
            · exact core _ 0 zNV (Or.inl ⟨rfl, rfl⟩)
            · exact core _ 0 zNV (Or.inl ⟨rfl, rfl⟩)
          · have nb : ¬ G (c * 10 + b) = -2147483648 := fun z => by
              rw [show G (c * 10 + b) = zNV from z, zNV_i] at t2; omega
            have kw : wKnow (G ((j + 1) * 10 + b)) (G (c * 10 + b)) = true := by
              rw [wKnow, decide_eq_false na, decide_eq_false nb]; rfl
            rw [t1, if_neg (by decide), kw, if_pos rfl, n1]
            by_cases k9 : LQ.K X j = 9
            · rw [if_pos k9, if_pos k9]
              refine core _ 1 _ (Or.inr ⟨rfl, ?_, ?_, ?_⟩)
              · rw [i64a (B := 400000000) (C := 10000000) (by omega) (by omega) (by omega) (by omega) (by omega), i32a (B := 400000000) (C := 10000000) (by omega) (by omega) (by omega) (by omega) (by omega), p4, t4]
              · rw [i32a (B := 400000000) (C := 10000000) (by omega) (by omega) (by omega) (by omega) (by omega)]
                omega
              · rw [i32a (B := 400000000) (C := 10000000) (by omega) (by omega) (by omega) (by omega) (by omega)]
                omega
            · rw [if_neg k9, if_neg k9]
              refine core _ 1 _ (Or.inr ⟨rfl, ?_, ?_, ?_⟩)
              · rw [i64d (B := 400000000) (C := 10000000) (by omega) (by omega) (by omega) (by omega) (by omega), i32s (B := 400000000) (C := 10000000) (by omega) (by omega) (by omega) (by omega) (by omega), p4, t4]
              · rw [i32s (B := 400000000) (C := 10000000) (by omega) (by omega) (by omega) (by omega) (by omega)]
                omega
              · rw [i32s (B := 400000000) (C := 10000000) (by omega) (by omega) (by omega) (by omega) (by omega)]
                omega
/-! the whole rule -/
def WkG (μ μ' : MS) : Prop := μ'.1 = μ.1 ∧ ∀ k, k ≠ 32 → k ≠ 33 → μ'.2.1 k = μ.2.1 k
theorem WkF.g {i : Nat} {μ μ' : MS} (h : WkF i μ μ') : WkG μ μ' := ⟨h.1, h.2.1⟩
theorem WkG.tr {x y z : MS} (h : WkG x y) (h2 : WkG y z) : WkG x z := ⟨h2.1.trans h.1, fun k a b => (h2.2 k a b).trans (h.2 k a b)⟩
theorem rwr_g {X : LQ} {r u : Nat} {μ μ' : MS} (h : rwr X r u μ) (hg : WkG μ μ') : rwr X r u μ' := fun j hj => by
  obtain ⟨a, b, c, d⟩ := h j hj
  exact ⟨by rw [hg.2 6 (by decide) (by decide)]; exact a, by rw [hg.2 7 (by decide) (by decide)]; exact b, by rw [hg.2 8 (by decide) (by decide)]; exact c, by rw [hg.2 9 (by decide) (by decide)]; exact d⟩
section WKL
variable {X : LQ} {r u : Nat} {v : Nat → Int32} {LB : Int32}
/-- the lines of a node, from b on -/
theorem wk_in {m F : Nat} {G : Nat → Int32} (hr : r < 20) (hu : u ≤ 40) (hm : m < u) (hN : nodeOk X u m) : ∀ (n b : Nat) (μ : MS), b + n = 10 → rwr X r u μ → VR v (μ.2.1 19) (μ.2.1 18) → (∀ k, 0 < k → k < 10 → ((LB >>> (nI k &&& 31)) &&& 1 = 1 ↔ thr (μ.2.1 19) k 20 = true)) → (∀ i, m < i → i < u → ∀ b, b < 10 → NR X i b G μ) →
    (∀ b', b' < b → NRv X m (μ.2.1 32 (10 * m + b')) (μ.2.1 33 (10 * m + b')) (μ.2.2 (10 * m + b')) (wrow (LQ.K X m) (LQ.V X m) v LB G (cCL (LQ.K X) m) (cCR (LQ.R X) m) b')) →
    ∃ μ', m_work_B (F + n + 1) 1 (nI r) (nI m) (nI b) μ = m_work_B F 0 (nI r) (nI m + (-1)) 0 μ' ∧ WkG μ μ' ∧ (∀ i, m < i → i < u → ∀ b, b < 10 → NR X i b G μ') ∧
    ∀ b', b' < 10 → NRv X m (μ'.2.1 32 (10 * m + b')) (μ'.2.1 33 (10 * m + b')) (μ'.2.2 (10 * m + b')) (wrow (LQ.K X m) (LQ.V X m) v LB G (cCL (LQ.K X) m) (cCR (LQ.R X) m) b')
  | 0, b, μ, hb, hw, hV, hL, hrel, hd => by
    have : b = 10 := by omega
    subst this
    refine ⟨μ, ?_, ⟨rfl, fun _ _ _ => rfl⟩, hrel, hd⟩
    rw [m_work_b1, if_pos (by decide)]
  | n + 1, b, μ, hb, hw, hV, hL, hrel, hd => by
    obtain ⟨μ1, s1, s2, s3⟩ := wnode_eq (G := G) hr hu hm (show b < 10 by omega) hw hN hV hL hrel
    have e40 : (40 : Int32) * nI r + nI m = nI (40 * r + m) := by
      rw [show (40 : Int32) * nI r = nI (40 * r) from nI_mul 40 r, nI_add]
    have oth : ∀ i b', b' < 10 → i ≠ m ∨ b' ≠ b → (μ1.2.1 32 (10 * i + b') = μ.2.1 32 (10 * i + b') ∧ μ1.2.1 33 (10 * i + b') = μ.2.1 33 (10 * i + b') ∧ μ1.2.2 (10 * i + b') = μ.2.2 (10 * i + b')) := fun i b' h1 h2 => s2.2.2 _ (by omega)
    obtain ⟨μ', t1, t2, t3, t4⟩ := wk_in (F := F) hr hu hm hN n (b + 1) μ1 (by omega) (rwr_g hw s2.g) (by rw [s2.2.1 19 (by decide) (by decide), s2.2.1 18 (by decide) (by decide)]; exact hV) (fun k a c => by rw [s2.2.1 19 (by decide) (by decide)]; exact hL k a c) (fun i a c b' hb' => by
      obtain ⟨o1, o2, o3⟩ := oth i b' hb' (Or.inl (by omega))
      rw [NR, o1, o2, o3]
      exact hrel i a c b' hb') (fun b' hb' => by
      by_cases e : b' = b
      · subst e; exact s3
      · obtain ⟨o1, o2, o3⟩ := oth m b' (by omega) (Or.inr e)
        rw [o1, o2, o3]
        exact hd b' (by omega))
    refine ⟨μ', ?_, s2.g.tr t2, t3, t4⟩
    rw [show F + (n + 1) + 1 = F + n + 1 + 1 by omega, m_work_b1, if_neg (show ¬ (10 : Int32) ≤ nI b from nI_ge (b := 10) (by omega) (by decide)), e40, s1]
    show m_work_B (F + n + 1) 1 (nI r) (nI m) (nI b + 1) μ1 = _
    rw [nI_1]
    exact t1
theorem wk_out {F : Nat} {G0 : Nat → Int32} (hr : r < 20) (hu : u ≤ 40) (h0 : 0 < u) (hN : ∀ j, j < u → nodeOk X u j) (hK : LQ.K X 0 ≤ 8) : ∀ (m k : Nat) (μ : MS), m + k = u → rwr X r u μ → VR v (μ.2.1 19) (μ.2.1 18) → (∀ k, 0 < k → k < 10 → ((LB >>> (nI k &&& 31)) &&& 1 = 1 ↔ thr (μ.2.1 19) k 20 = true)) → (∀ i, m ≤ i → i < u → ∀ b, b < 10 → NR X i b (wfd (LQ.K X) (LQ.V X) (LQ.R X) (cCL (LQ.K X)) (cCR (LQ.R X)) v LB G0 u k) μ) →
    ∃ μ', m_work_B (F + 12 * m + 1) 0 (nI r) (nI m + (-1)) 0 μ = some (wfd (LQ.K X) (LQ.V X) (LQ.R X) (cCL (LQ.K X)) (cCR (LQ.R X)) v LB G0 u u 0, μ') ∧ WkG μ μ' ∧ tri (wfd (LQ.K X) (LQ.V X) (LQ.R X) (cCL (LQ.K X)) (cCR (LQ.R X)) v LB G0 u u 0)
  | 0, k, μ, hk, hw, hV, hL, hrel => by
    have : k = u := by omega
    subst this
    obtain ⟨a1, a2⟩ := (hrel 0 (Nat.le_refl _) h0 0 (by decide)).1 hK
    refine ⟨μ, ?_, ⟨rfl, fun _ _ _ => rfl⟩, a2⟩
    rw [m_work_b0, if_pos (by decide), if_pos (by decide)]
    have a1 : μ.2.1 33 0 = wfd (LQ.K X) (LQ.V X) (LQ.R X) (cCL (LQ.K X)) (cCR (LQ.R X)) v LB G0 k k 0 := a1
    rw [← a1]
    rfl
  | m + 1, k, μ, hk, hw, hV, hL, hrel => by
    have hm : u - 1 - k = m := by omega
    obtain ⟨μ1, t1, t2, t3, t4⟩ := wk_in (F := F + 12 * m + 1) (v := v) (LB := LB) (G := wfd (LQ.K X) (LQ.V X) (LQ.R X) (cCL (LQ.K X)) (cCR (LQ.R X)) v LB G0 u k) hr hu (show m < u by omega) (hN m (by omega)) 10 0 μ rfl hw hV hL (fun i a c => hrel i (by omega) c) (fun b' hb' => absurd hb' (by omega))
    obtain ⟨μ', s1, s2, s3⟩ := wk_out (F := F) (G0 := G0) hr hu h0 hN hK m (k + 1) μ1 (by omega) (rwr_g hw t2) (by rw [t2.2 19 (by decide) (by decide), t2.2 18 (by decide) (by decide)]; exact hV) (fun k a c => by rw [t2.2 19 (by decide) (by decide)]; exact hL k a c) (fun i a c b hb => by
      rw [NR, wfd, hm, wsetk]
      by_cases e : i = m
      · subst e
        rw [if_pos (by omega), show i * 10 + b - i * 10 = b by omega]
        exact t4 b hb
      · rw [if_neg (by omega)]
        exact t3 i (by omega) c b hb)
    refine ⟨μ', ?_, t2.tr s2, s3⟩
    rw [show F + 12 * (m + 1) + 1 = F + 12 * m + 1 + 10 + 1 + 1 by omega, nI_am, m_work_b0, if_neg (nI_pos (by omega))]
    exact t1.trans s1
end WKL
theorem m_work_F : ∃ F, 600 ≤ F ∧ ∀ x1 μ, m_work x1 μ = (if inb x1 20 = true then m_work_B F 0 x1 (((μ.2.1 10) x1.toNatClampNeg) - 1) 0 μ else none) := ⟨4096, by decide, fun x1 μ => by rw [m_work]⟩
/-- the reference works out what the class works out -/
theorem work_eq {X : LQ} {r u n : Nat} {v G : Nat → Int32} {μ : MS} (hr : r < 20) (hu : u ≤ 40) (ht : tr X n true 0 u) (hw : rwr X r u μ) (hs : μ.2.1 10 r = nI u) (hV : VR v (μ.2.1 19) (μ.2.1 18)) : ∃ μ', m_work (nI r) μ = some (wOut v G (LQ.K X, LQ.V X, LQ.R X, u) 0, μ') ∧ WkG μ μ' ∧ tri (wOut v G (LQ.K X, LQ.V X, LQ.R X, u) 0) := by
  obtain ⟨F, hF, eF⟩ := m_work_F
  obtain ⟨H, rfl⟩ : ∃ H, F = H + 12 * u + 1 := ⟨F - 12 * u - 1, by omega⟩
  obtain ⟨LB, hLB⟩ : ∃ LB, dbits v 9 = LB := ⟨_, rfl⟩
  have hL : ∀ k, 0 < k → k < 10 → ((LB >>> (nI k &&& 31)) &&& 1 = 1 ↔ thr (μ.2.1 19) k 20 = true) := fun k a c => by
    rw [← hLB, dbits_rb hV 9 (by decide)]
    exact rb_bit c a
  obtain ⟨μ', s1, s2, s3⟩ := wk_out (X := X) (F := H) (LB := LB) (G0 := G) (v := v) hr hu (tr_lt ht) (fun j hj => tr_node ht j (Nat.zero_le _) hj) (of_decide_eq_true (tr_ty ht).symm) u 0 μ rfl hw hV hL (fun i a c => absurd c (by omega))
  rw [wOut, hLB]
  refine ⟨μ', ?_, s2, s3⟩
  rw [eF, if_pos (inb_nI hr (by decide)), nI_clamp (by omega), hs, Int32.sub_eq_add_neg, s1]
