/-! class and reference, tied -/
def TrR (ts : TSt) (r : Nat) (μ : MS) : Prop := ∃ X n, LQ.K X = ts.1 ∧ LQ.V X = ts.2.1 ∧ LQ.R X = ts.2.2.1 ∧ tr X n true 0 ts.2.2.2 ∧ ts.2.2.2 ≤ 40 ∧ sN ts.1 ts.2.1 ts.2.2.2 + cw X n 0 ≤ 200 ∧ rwr X r ts.2.2.2 μ ∧ μ.2.1 10 r = nI ts.2.2.2
def FgR (ru : RuS) (r : Nat) (μ : MS) : Prop := μ.2.1 11 r = rG ru ∧ μ.2.1 12 r = zb (rH ru) ∧ μ.2.1 13 r = rD ru ∧ μ.2.1 14 r = rL ru ∧ μ.2.1 15 r = zb (rM ru) ∧ μ.2.1 16 r = zb (rA ru) ∧ μ.2.1 17 r = zb (rF ru) ∧ (rL ru = -1 ∨ tri (rL ru))
def I1 (g : Nat → Int32) (len : Nat) (μ : MS) : Prop := len ≤ 200 ∧ μ.2.1 1 = g ∧ μ.1 2 = nI len ∧ ∀ j, j < len → ¬ g j < 32
def I4 (ps : PSt) (μ : MS) : Prop := ps.2 ≤ 200 ∧ μ.1 36 = nI ps.2 ∧ ∀ i, i < ps.2 → ps.1 i = μ.2.1 35 i ∧ ¬ ps.1 i = -1
def I5 (rc : Nat) (ρ : Nat → RuS) (μ : MS) : Prop := (∀ r, r < rc → TrR (ρ r).1 r μ ∧ FgR (ρ r) r μ) ∧ ∀ r, rc ≤ r → r < 20 → μ.2.1 11 r = 0 ∧ μ.2.1 13 r = 0 ∧ μ.2.1 15 r = 0 ∧ μ.2.1 16 r = 0 ∧ μ.2.1 17 r = 0
def Inv (g : Nat → Int32) (len : Nat) (st : RSt) (v : Nat → Int32) (ps : PSt) (cc td : Int32) (rc : Nat) (ρ : Nat → RuS) (μ : MS) : Prop :=
  I1 g len μ ∧ (rc ≤ 20 ∧ μ.1 3 = nI rc ∧ μ.1 4 = cc ∧ μ.1 5 = td) ∧ VR v (μ.2.1 19) (μ.2.1 18) ∧ I4 ps μ ∧ I5 rc ρ μ ∧ uok st
/-- the rows and numbers that the tie speaks of stay -/
def Ke (μ μ' : MS) : Prop := (∀ j, j = 2 ∨ j = 3 ∨ j = 4 ∨ j = 5 ∨ j = 36 → μ'.1 j = μ.1 j) ∧ ∀ j, j < 20 ∨ j = 35 → μ'.2.1 j = μ.2.1 j
theorem TrR.ke {ts : TSt} {r : Nat} {μ μ' : MS} (h : TrR ts r μ) (hk : ∀ j, 6 ≤ j → j ≤ 10 → μ'.2.1 j = μ.2.1 j) : TrR ts r μ' := by
  obtain ⟨X, n, a1, a2, a3, a4, a5, a6, a7, a8⟩ := h
  refine ⟨X, n, a1, a2, a3, a4, a5, a6, fun j hj => ?_, by rw [hk 10 (by decide) (by decide)]; exact a8⟩
  rw [hk 6 (by decide) (by decide), hk 7 (by decide) (by decide), hk 8 (by decide) (by decide), hk 9 (by decide) (by decide)]
  exact a7 j hj
theorem FgR.ke {ru : RuS} {r : Nat} {μ μ' : MS} (h : FgR ru r μ) (hk : ∀ j, 11 ≤ j → j ≤ 17 → μ'.2.1 j = μ.2.1 j) : FgR ru r μ' := by
  rw [FgR, hk 11 (by decide) (by decide), hk 12 (by decide) (by decide), hk 13 (by decide) (by decide), hk 14 (by decide) (by decide), hk 15 (by decide) (by decide), hk 16 (by decide) (by decide), hk 17 (by decide) (by decide)]
  exact h
theorem I1.ke {g : Nat → Int32} {len : Nat} {μ μ' : MS} (h : I1 g len μ) (h1 : μ'.2.1 1 = μ.2.1 1) (h2 : μ'.1 2 = μ.1 2) : I1 g len μ' := ⟨h.1, h1.trans h.2.1, h2.trans h.2.2.1, h.2.2.2⟩
theorem I4.ke {ps : PSt} {μ μ' : MS} (h : I4 ps μ) (h1 : μ'.2.1 35 = μ.2.1 35) (h2 : μ'.1 36 = μ.1 36) : I4 ps μ' := ⟨h.1, h2.trans h.2.1, fun i hi => by rw [h1]; exact h.2.2 i hi⟩
theorem I5.ke {rc : Nat} {ρ : Nat → RuS} {μ μ' : MS} (h : I5 rc ρ μ) (hk : ∀ j, 6 ≤ j → j ≤ 17 → μ'.2.1 j = μ.2.1 j) : I5 rc ρ μ' := by
  refine ⟨fun r hr => ⟨(h.1 r hr).1.ke (fun j a b => hk j a (by omega)), (h.1 r hr).2.ke (fun j a b => hk j (by omega) b)⟩, fun r a b => ?_⟩
  rw [hk 11 (by decide) (by decide), hk 13 (by decide) (by decide), hk 15 (by decide) (by decide), hk 16 (by decide) (by decide), hk 17 (by decide) (by decide)]
  exact h.2 r a b
section INV
variable {g : Nat → Int32} {len : Nat} {st : RSt} {v : Nat → Int32} {ps : PSt} {cc td : Int32} {rc : Nat} {ρ : Nat → RuS} {μ : MS}
theorem Inv.ke {μ' : MS} (h : Inv g len st v ps cc td rc ρ μ) (hk : Ke μ μ') : Inv g len st v ps cc td rc ρ μ' := by
  obtain ⟨a1, ⟨b1, b2, b3, b4⟩, a3, a4, a5, a6⟩ := h
  refine ⟨a1.ke (hk.2 1 (Or.inl (by decide))) (hk.1 2 (by decide)), ⟨b1, (hk.1 3 (by decide)).trans b2, (hk.1 4 (by decide)).trans b3, (hk.1 5 (by decide)).trans b4⟩, ?_, a4.ke (hk.2 35 (Or.inr rfl)) (hk.1 36 (by decide)), a5.ke (fun j a b => hk.2 j (Or.inl (by omega))), a6⟩
  rw [hk.2 19 (Or.inl (by decide)), hk.2 18 (Or.inl (by decide))]
  exact a3
theorem Ke.rf : Ke μ μ := ⟨fun _ _ => rfl, fun _ _ => rfl⟩
theorem Ke.t {x : Int32} : Ke μ (sI 0 x μ) := ⟨fun j h => sI_ne (by omega), fun _ _ => rfl⟩
theorem t_0 {x : Int32} : (sI 0 x μ).1 0 = x := sI_at
theorem in_eq (x a b : Int32) : m_in x a b = some (zb (!decide (x < a) && !decide (b < x))) := by
  rw [m_in]
  by_cases h1 : x < a
  · rw [if_pos h1, decide_eq_true h1]; rfl
  · rw [if_neg h1, decide_eq_false h1]
    by_cases h2 : b < x
    · rw [if_pos h2, decide_eq_true h2]; rfl
    · rw [if_neg h2, decide_eq_false h2]; rfl
theorem in_y {x a b : Int32} (h1 : ¬ x < a) (h2 : ¬ b < x) : m_in x a b = some 1 := by rw [m_in, if_neg h1, if_neg h2]
theorem in_n {x a b : Int32} (h : ¬ (¬ x < a ∧ ¬ b < x)) : m_in x a b = some 0 := by
  rw [m_in]
  by_cases h1 : x < a
  · rw [if_pos h1]
  · rw [if_neg h1, if_pos (Classical.byContradiction fun h2 => h ⟨h1, h2⟩)]
theorem isRule_n {i : Int32} (h3 : μ.1 3 = nI rc) (h : i < 0 ∨ nI rc ≤ i) : m_isRule i μ = some (0, μ) := by
  rw [m_isRule, h3]
  by_cases h0 : i < 0
  · rw [if_pos h0]
  · rw [if_neg h0, if_pos (h.resolve_left h0)]
theorem isR_cases (hc : rc ≤ 20) (i : Int32) : (i < 0 ∨ nI rc ≤ i) ∨ ∃ k, k < rc ∧ i = nI k := by
  by_cases h0 : i < 0
  · exact Or.inl (Or.inl h0)
  · obtain ⟨k, hk, rfl⟩ := nI_of h0
    by_cases h : nI rc ≤ nI k
    · exact Or.inl (Or.inr h)
    · refine Or.inr ⟨k, ?_, rfl⟩
      rcases Nat.lt_or_ge k rc with z | z
      · exact z
      · exact absurd (nI_le z hk) h
/-- sign -/
theorem i_sign (h : Inv g len st v ps cc td rc ρ μ) (x : Int32) : (¬ x < 32 ∧ ¬ 126 < x ∧ len < 200 → ∃ μ', m_sign x μ = some (1, μ') ∧ μ'.1 0 = 0 ∧ Inv (upd g len x) (len + 1) st v ps cc td rc ρ μ') ∧ (¬ (¬ x < 32 ∧ ¬ 126 < x ∧ len < 200) → ∃ μ', m_sign x μ = some (0, μ') ∧ μ'.1 0 = 0 ∧ Inv g len st v ps cc td rc ρ μ') := by
  obtain ⟨a1, a2, a3, a4, a5, a6⟩ := id h
  obtain ⟨l1, l2, l3, l4⟩ := a1
  refine ⟨fun ⟨c1, c2, c3⟩ => ?_, fun hn => ?_⟩
  · have e2 : μ.1 2 = nI len := l3
    refine ⟨sI 2 (nI (len + 1)) (sA 1 len x (sI 0 0 μ)), ?_, by rw [sI_ne (by decide), sA_1, sI_at], ⟨by omega, ?_, sI_at, fun j hj => ?_⟩, ⟨a2.1, ?_, ?_, ?_⟩, ?_, a4.ke ?_ ?_, a5.ke (fun j p q => ?_), a6⟩
    · rw [m_sign, in_y c1 c2]
      show (if μ.1 2 = 200 then _ else if inb (μ.1 2) 200 = true then some (1, sI 2 (μ.1 2 + 1) (sA 1 (μ.1 2).toNatClampNeg x (sI 0 0 μ))) else none) = _
      rw [e2, if_neg (show ¬ nI len = 200 from nIl (c := 200) (by omega) (by omega) (by decide)), if_pos (inb_nI c3 (by decide)), nI_clamp (by omega), nI_1]
    · rw [sI_2, sA_at, sI_2, l2]
    · by_cases e : j = len
      · rw [e, upd_at]; exact c1
      · rw [upd_ne e]; exact l4 j (by omega)
    · rw [sI_ne (by decide), sA_1, sI_ne (by decide)]; exact a2.2.1
    · rw [sI_ne (by decide), sA_1, sI_ne (by decide)]; exact a2.2.2.1
    · rw [sI_ne (by decide), sA_1, sI_ne (by decide)]; exact a2.2.2.2
    · rw [sI_2, sI_2, sA_ne (by decide), sA_ne (by decide)]; exact a3
    · rw [sI_2, sA_ne (by decide), sI_2]
    · rw [sI_ne (by decide), sA_1, sI_ne (by decide)]
    · rw [sI_2, sA_ne (by omega), sI_2]
  · refine ⟨sI 0 0 μ, ?_, sI_at, h.ke Ke.t⟩
    rw [m_sign]
    by_cases hc : ¬ x < 32 ∧ ¬ 126 < x
    · rw [in_y hc.1 hc.2]
      show (if μ.1 2 = 200 then some ((0 : Int32), sI 0 0 μ) else _) = _
      have e : len = 200 := by
        have : ¬ len < 200 := fun z => hn ⟨hc.1, hc.2, z⟩
        omega
      rw [l3, e, if_pos (by decide)]
    · rw [in_n hc]
      rfl
/-- a rule's flags are changed -/
theorem I5.fl {μ' : MS} {k : Nat} {ru : RuS} (h : I5 rc ρ μ) (hk : k < rc) (hc : rc ≤ 20) (ht : ru.1 = (ρ k).1) (hr : ∀ j, 6 ≤ j → j ≤ 10 → μ'.2.1 j = μ.2.1 j) (ho : ∀ j i, 11 ≤ j → j ≤ 17 → i ≠ k → μ'.2.1 j i = μ.2.1 j i) (hf : FgR ru k μ') : I5 rc (va_up ρ k ru) μ' := by
  refine ⟨fun r hr' => ?_, fun r a b => ?_⟩
  · by_cases e : r = k
    · subst e
      rw [va_up_self]
      exact ⟨by rw [ht]; exact (h.1 r hr').1.ke hr, hf⟩
    · rw [va_up_ne _ _ e]
      refine ⟨(h.1 r hr').1.ke hr, ?_⟩
      rw [FgR, ho 11 r (by decide) (by decide) e, ho 12 r (by decide) (by decide) e, ho 13 r (by decide) (by decide) e, ho 14 r (by decide) (by decide) e, ho 15 r (by decide) (by decide) e, ho 16 r (by decide) (by decide) e, ho 17 r (by decide) (by decide) e]
      exact (h.1 r hr').2
  · have e : r ≠ k := by omega
    rw [ho 11 r (by decide) (by decide) e, ho 13 r (by decide) (by decide) e, ho 15 r (by decide) (by decide) e, ho 16 r (by decide) (by decide) e, ho 17 r (by decide) (by decide) e]
    exact h.2 r a b
theorem zb01 (b : Bool) : zb b = 0 ∨ zb b = 1 := by cases b; exact Or.inl rfl; exact Or.inr rfl
theorem Inv.of5 {μ' : MS} {ρ' : Nat → RuS} (h : Inv g len st v ps cc td rc ρ μ) (hI : ∀ j, j = 2 ∨ j = 3 ∨ j = 4 ∨ j = 5 ∨ j = 36 → μ'.1 j = μ.1 j) (hA : ∀ j, j = 1 ∨ j = 18 ∨ j = 19 ∨ j = 35 → μ'.2.1 j = μ.2.1 j) (h5 : I5 rc ρ' μ') : Inv g len st v ps cc td rc ρ' μ' := by
  obtain ⟨a1, ⟨b1, b2, b3, b4⟩, a3, a4, a5, a6⟩ := h
  refine ⟨a1.ke (hA 1 (by decide)) (hI 2 (by decide)), ⟨b1, (hI 3 (by decide)).trans b2, (hI 4 (by decide)).trans b3, (hI 5 (by decide)).trans b4⟩, ?_, a4.ke (hA 35 (by decide)) (hI 36 (by decide)), h5, a6⟩
  rw [hA 19 (by decide), hA 18 (by decide)]
  exact a3
/-- order -/
theorem i_order_y (h : Inv g len st v ps cc td rc ρ μ) {k : Nat} (hk : k < rc) {gp : Int32} {hb : Bool} : (¬ gp < 0 ∧ gp < 10 → ∃ μ', m_order (nI k) gp (zb hb) μ = some (1, μ') ∧ μ'.1 0 = 0 ∧ Inv g len st v ps cc td rc (va_up ρ k ((ρ k).1, gp, hb, (ρ k).2.2.2)) μ') ∧ (¬ (¬ gp < 0 ∧ gp < 10) → ∃ μ', m_order (nI k) gp (zb hb) μ = some (0, μ') ∧ μ'.1 0 = 0 ∧ Inv g len st v ps cc td rc ρ μ') := by
  obtain ⟨a1, a2, a3, a4, a5, a6⟩ := id h
  have h3 : (sI 0 0 μ).1 3 = nI rc := by rw [sI_ne (by decide)]; exact a2.2.1
  have e9 : ∀ x : Int32, ¬ 9 < x ↔ x < 10 := fun x => by
    rw [Int32.not_lt, Int32.le_iff_toInt_le, Int32.lt_iff_toInt_lt, show (9 : Int32).toInt = 9 from rfl, show (10 : Int32).toInt = 10 from rfl]
    omega
  refine ⟨fun ⟨c1, c2⟩ => ?_, fun hn => ?_⟩
  · refine ⟨sA 12 k (zb hb) (sA 11 k gp (sI 0 0 μ)), ?_, by rw [sA_1, sA_1, sI_at], ?_⟩
    · rw [m_order, isRule_y h3 hk a2.1]
      show ((m_in gp 0 9).bind _) = _
      rw [in_y c1 ((e9 gp).mpr c2)]
      show (if inb (nI k) 20 = true then some ((1 : Int32), sA 12 ((nI k).toNatClampNeg) (vp_nar .boolean (zb hb)) (sA 11 ((nI k).toNatClampNeg) gp (sI 0 0 μ))) else none) = _
      rw [if_pos (inb_nI (by omega) (by decide)), nI_clamp (by omega), nar_b (zb01 hb)]
    · refine h.of5 (fun j hj => by rw [sA_1, sA_1, sI_ne (by omega)]) (fun j hj => by rw [sA_ne (by omega), sA_ne (by omega), sI_2]) (a5.fl hk a2.1 rfl (fun j p q => by rw [sA_ne (by omega), sA_ne (by omega), sI_2]) (fun j i p q hi => ?_) ?_)
      · by_cases e : j = 12
        · subst e; rw [sA_at, upd_ne hi, sA_ne (by decide), sI_2]
        · rw [sA_ne e]
          by_cases e2 : j = 11
          · subst e2; rw [sA_at, upd_ne hi, sI_2]
          · rw [sA_ne e2, sI_2]
      · obtain ⟨f1, f2, f3, f4, f5, f6, f7, f8⟩ := (a5.1 k hk).2
        refine ⟨?_, ?_, ?_, ?_, ?_, ?_, ?_, f8⟩
        · rw [sA_ne (by decide), sA_at, upd_at]
        · rw [sA_at, upd_at]
        · rw [sA_ne (by decide), sA_ne (by decide), sI_2]; exact f3
        · rw [sA_ne (by decide), sA_ne (by decide), sI_2]; exact f4
        · rw [sA_ne (by decide), sA_ne (by decide), sI_2]; exact f5
        · rw [sA_ne (by decide), sA_ne (by decide), sI_2]; exact f6
        · rw [sA_ne (by decide), sA_ne (by decide), sI_2]; exact f7
  · refine ⟨sI 0 0 μ, ?_, sI_at, h.ke Ke.t⟩
    rw [m_order, isRule_y h3 hk a2.1]
    show ((m_in gp 0 9).bind _) = _
    rw [in_n (fun z => hn ⟨z.1, (e9 gp).mp z.2⟩)]
    rfl
theorem i_order_n (h : Inv g len st v ps cc td rc ρ μ) {i gp hb : Int32} (ho : i < 0 ∨ nI rc ≤ i) : ∃ μ', m_order i gp hb μ = some (0, μ') ∧ μ'.1 0 = 0 ∧ Inv g len st v ps cc td rc ρ μ' := by
  have h3 : (sI 0 0 μ).1 3 = nI rc := by rw [sI_ne (by decide)]; exact h.2.1.2.1
  refine ⟨sI 0 0 μ, ?_, sI_at, h.ke Ke.t⟩
  rw [m_order, isRule_n h3 ho]
  rfl
/-- edition -/
theorem zday_in {d : Int32} : zday d = true ↔ (¬ d < 0 ∧ ¬ 100000 < d) := by simp [zday]
theorem i_edition_y (h : Inv g len st v ps cc td rc ρ μ) {k : Nat} (hk : k < rc) {d : Int32} : (zday d = true → ∃ μ', m_edition (nI k) d μ = some (1, μ') ∧ μ'.1 0 = 0 ∧ Inv g len st v ps cc td rc (va_up ρ k ((ρ k).1, (ρ k).2.1, (ρ k).2.2.1, d, (ρ k).2.2.2.2)) μ') ∧ (¬ zday d = true → ∃ μ', m_edition (nI k) d μ = some (0, μ') ∧ μ'.1 0 = 0 ∧ Inv g len st v ps cc td rc ρ μ') := by
  obtain ⟨a1, a2, a3, a4, a5, a6⟩ := id h
  have h3 : (sI 0 0 μ).1 3 = nI rc := by rw [sI_ne (by decide)]; exact a2.2.1
  refine ⟨fun hd => ?_, fun hn => ?_⟩
  · obtain ⟨c1, c2⟩ := zday_in.mp hd
    refine ⟨sA 13 k d (sI 0 0 μ), ?_, by rw [sA_1, sI_at], ?_⟩
    · rw [m_edition, isRule_y h3 hk a2.1]
      show ((m_in d 0 100000).bind _) = _
      rw [in_y c1 c2]
      show (if inb (nI k) 20 = true then some ((1 : Int32), sA 13 ((nI k).toNatClampNeg) d (sI 0 0 μ)) else none) = _
      rw [if_pos (inb_nI (by omega) (by decide)), nI_clamp (by omega)]
    · refine h.of5 (fun j hj => by rw [sA_1, sI_ne (by omega)]) (fun j hj => by rw [sA_ne (by omega), sI_2]) (a5.fl hk a2.1 rfl (fun j p q => by rw [sA_ne (by omega), sI_2]) (fun j i p q hi => ?_) ?_)
      · by_cases e : j = 13
        · subst e; rw [sA_at, upd_ne hi, sI_2]
        · rw [sA_ne e, sI_2]
      · obtain ⟨f1, f2, f3, f4, f5, f6, f7, f8⟩ := (a5.1 k hk).2
        refine ⟨?_, ?_, ?_, ?_, ?_, ?_, ?_, f8⟩
        · rw [sA_ne (by decide), sI_2]; exact f1
        · rw [sA_ne (by decide), sI_2]; exact f2
        · rw [sA_at, upd_at]
        · rw [sA_ne (by decide), sI_2]; exact f4
        · rw [sA_ne (by decide), sI_2]; exact f5
        · rw [sA_ne (by decide), sI_2]; exact f6
        · rw [sA_ne (by decide), sI_2]; exact f7
  · refine ⟨sI 0 0 μ, ?_, sI_at, h.ke Ke.t⟩
    rw [m_edition, isRule_y h3 hk a2.1]
    show ((m_in d 0 100000).bind _) = _
    rw [in_n (fun z => hn (zday_in.mpr z))]
    rfl
theorem i_edition_n (h : Inv g len st v ps cc td rc ρ μ) {i d : Int32} (ho : i < 0 ∨ nI rc ≤ i) : ∃ μ', m_edition i d μ = some (0, μ') ∧ μ'.1 0 = 0 ∧ Inv g len st v ps cc td rc ρ μ' := by
  have h3 : (sI 0 0 μ).1 3 = nI rc := by rw [sI_ne (by decide)]; exact h.2.1.2.1
  refine ⟨sI 0 0 μ, ?_, sI_at, h.ke Ke.t⟩
  rw [m_edition, isRule_n h3 ho]
  rfl
/-- day -/
theorem i_day (h : Inv g len st v ps cc td rc ρ μ) {d : Int32} : (zday d = true → ∃ μ', m_day d μ = some (1, μ') ∧ μ'.1 0 = 0 ∧ Inv g len st v ps cc d rc ρ μ') ∧ (¬ zday d = true → ∃ μ', m_day d μ = some (0, μ') ∧ μ'.1 0 = 0 ∧ Inv g len st v ps cc td rc ρ μ') := by
  refine ⟨fun hd => ?_, fun hn => ?_⟩
  · obtain ⟨c1, c2⟩ := zday_in.mp hd
    obtain ⟨a1, a2, a3, a4, a5, a6⟩ := id h
    refine ⟨sI 5 d (sI 0 0 μ), ?_, by rw [sI_ne (by decide), sI_at], a1.ke rfl (by rw [sI_ne (by decide), sI_ne (by decide)]), ⟨a2.1, ?_, ?_, sI_at⟩, a3, a4.ke rfl (by rw [sI_ne (by decide), sI_ne (by decide)]), a5.ke (fun _ _ _ => rfl), a6⟩
    · rw [m_day, in_y c1 c2]
      rfl
    · rw [sI_ne (by decide), sI_ne (by decide)]; exact a2.2.1
    · rw [sI_ne (by decide), sI_ne (by decide)]; exact a2.2.2.1
  · refine ⟨sI 0 0 μ, ?_, sI_at, h.ke Ke.t⟩
    rw [m_day, in_n (fun z => hn (zday_in.mpr z))]
    rfl
/-- field, without -/
theorem dsl_y {fd ln : Int32} (h : ¬ dsl fd ln < 0) : ∃ a b : Nat, a < 20 ∧ b < 10 ∧ fd = nI a ∧ ln = nI b := by
  rcases dsl_cases fd ln with z | z
  · rw [z] at h; exact absurd (by decide) h
  · exact z
theorem in_19 {a : Nat} (ha : a < 20) : m_in (nI a) 0 19 = some 1 := in_y (nI_pos (by omega)) (nI_nlt (a := 19) (by omega) (by decide))
theorem in_9 {a : Nat} (ha : a < 10) : m_in (nI a) 0 9 = some 1 := in_y (nI_pos (by omega)) (nI_nlt (a := 9) (by omega) (by decide))
theorem in_19n {fd ln : Int32} (h : dsl fd ln < 0) : m_in fd 0 19 = some 0 ∨ (m_in fd 0 19 = some 1 ∧ m_in ln 0 9 = some 0) := by
  by_cases c : ¬ fd < 0 ∧ ¬ 19 < fd
  · right
    refine ⟨in_y c.1 c.2, in_n (fun d => ?_)⟩
    obtain ⟨a, ha, rfl⟩ := nI_of c.1
    obtain ⟨b, hb, rfl⟩ := nI_of d.1
    have a20 : a < 20 := by
      rcases Nat.lt_or_ge 19 a with z | z
      · exact absurd (nI_lt (a := 19) z ha) c.2
      · omega
    have b10 : b < 10 := by
      rcases Nat.lt_or_ge 9 b with z | z
      · exact absurd (nI_lt (a := 9) z hb) d.2
      · omega
    rw [dsl_nI a20 b10] at h
    exact nI_pos (by omega) h
  · exact Or.inl (in_n c)
theorem VR_up {v has vl : Nat → Int32} {a b : Nat} {x y z : Int32} (h : VR v has vl) (ha : a < 20) (hb : b < 10) (hx : (y = 0 ∧ x = zNV) ∨ (y = 1 ∧ x = z ∧ -1000000 ≤ z.toInt ∧ z.toInt ≤ 1000000)) : VR (upd v (b * 20 + a) x) (upd has (10 * a + b) y) (upd vl (10 * a + b) z) := by
  intro f ln hf hl
  by_cases e : f = a ∧ ln = b
  · obtain ⟨rfl, rfl⟩ := e
    rw [upd_at, upd_at, upd_at]
    exact hx
  · rw [upd_ne (show ln * 20 + f ≠ b * 20 + a by omega), upd_ne (show 10 * f + ln ≠ 10 * a + b by omega), upd_ne (show 10 * f + ln ≠ 10 * a + b by omega)]
    exact h f ln hf hl
theorem i_field (h : Inv g len st v ps cc td rc ρ μ) {fd ln x : Int32} : (¬ dsl fd ln < 0 ∧ ¬ x < -1000000 ∧ x ≤ 1000000 → ∃ μ', m_field2 fd ln x μ = some (1, μ') ∧ μ'.1 0 = 0 ∧ Inv g len st (upd v (dsl fd ln).toNatClampNeg x) ps cc td rc ρ μ') ∧ (¬ (¬ dsl fd ln < 0 ∧ ¬ x < -1000000 ∧ x ≤ 1000000) → ∃ μ', m_field2 fd ln x μ = some (0, μ') ∧ μ'.1 0 = 0 ∧ Inv g len st v ps cc td rc ρ μ') := by
  obtain ⟨a1, a2, a3, a4, a5, a6⟩ := id h
  refine ⟨fun ⟨c1, c2, c3⟩ => ?_, fun hn => ?_⟩
  · obtain ⟨a, b, ha, hb, rfl, rfl⟩ := dsl_y c1
    have x1 : -1000000 ≤ x.toInt := by
      have := Int32.le_iff_toInt_le.mp (Int32.not_lt.mp c2)
      rw [show (-1000000 : Int32).toInt = -1000000 from rfl] at this
      exact this
    have x2 : x.toInt ≤ 1000000 := by
      have := Int32.le_iff_toInt_le.mp c3
      rw [show (1000000 : Int32).toInt = 1000000 from rfl] at this
      exact this
    rw [dsl_nI ha hb, nI_clamp (by omega)]
    refine ⟨sA 19 (10 * a + b) 1 (sA 18 (10 * a + b) x (sI 0 0 μ)), ?_, by rw [sA_1, sA_1, sI_at], a1.ke (by rw [sA_ne (by decide), sA_ne (by decide), sI_2]) (by rw [sA_1, sA_1, sI_ne (by decide)]), ⟨a2.1, ?_, ?_, ?_⟩, ?_, a4.ke (by rw [sA_ne (by decide), sA_ne (by decide), sI_2]) (by rw [sA_1, sA_1, sI_ne (by decide)]), a5.ke (fun j p q => by rw [sA_ne (by omega), sA_ne (by omega), sI_2]), a6⟩
    · rw [m_field2, in_19 ha]
      show ((m_in (nI b) 0 9).bind _) = _
      rw [in_9 hb]
      show ((m_in x (-1000000) 1000000).bind _) = _
      rw [in_y c2 (Int32.not_lt.mpr c3)]
      show (if inb (10 * nI a + nI b) 200 = true then some ((1 : Int32), sA 19 (10 * nI a + nI b).toNatClampNeg (vp_nar .boolean 1) (sA 18 (10 * nI a + nI b).toNatClampNeg x (sI 0 0 μ))) else none) = _
      rw [e10, if_pos (inb_nI (by omega) (by decide)), nI_clamp (by omega)]
      rfl
    · rw [sA_1, sA_1, sI_ne (by decide)]; exact a2.2.1
    · rw [sA_1, sA_1, sI_ne (by decide)]; exact a2.2.2.1
    · rw [sA_1, sA_1, sI_ne (by decide)]; exact a2.2.2.2
    · rw [sA_at, sA_ne (by decide), sA_ne (by decide), sA_at, sI_2, sI_2]
      exact VR_up a3 ha hb (Or.inr ⟨rfl, rfl, x1, x2⟩)
  · refine ⟨sI 0 0 μ, ?_, sI_at, h.ke Ke.t⟩
    rw [m_field2]
    by_cases c : dsl fd ln < 0
    · rcases in_19n c with z | ⟨z1, z2⟩
      · rw [z]; rfl
      · rw [z1]
        show ((m_in ln 0 9).bind _) = _
        rw [z2]
        rfl
    · obtain ⟨a, b, ha, hb, rfl, rfl⟩ := dsl_y c
      rw [in_19 ha]
      show ((m_in (nI b) 0 9).bind _) = _
      rw [in_9 hb]
      show ((m_in x (-1000000) 1000000).bind _) = _
      rw [in_n (fun z => hn ⟨c, z.1, Int32.not_lt.mp z.2⟩)]
      rfl
theorem i_without (h : Inv g len st v ps cc td rc ρ μ) {fd ln : Int32} : (¬ dsl fd ln < 0 ∧ ¬ dval v fd ln = -2147483648 → ∃ μ', m_without fd ln μ = some (1, μ') ∧ μ'.1 0 = 0 ∧ Inv g len st (upd v (dsl fd ln).toNatClampNeg (-2147483648)) ps cc td rc ρ μ') ∧ (¬ (¬ dsl fd ln < 0 ∧ ¬ dval v fd ln = -2147483648) → ∃ μ', m_without fd ln μ = some (0, μ') ∧ μ'.1 0 = 0 ∧ Inv g len st v ps cc td rc ρ μ') := by
  obtain ⟨a1, a2, a3, a4, a5, a6⟩ := id h
  refine ⟨fun ⟨c1, c2⟩ => ?_, fun hn => ?_⟩
  · obtain ⟨a, b, ha, hb, rfl, rfl⟩ := dsl_y c1
    rw [dval_nI ha hb] at c2
    have h19 : μ.2.1 19 (10 * a + b) = 1 := by
      rcases a3 a b ha hb with z | z
      · exact absurd z.2 c2
      · exact z.1
    rw [dsl_nI ha hb, nI_clamp (by omega)]
    refine ⟨sA 19 (10 * a + b) 0 (sI 0 0 μ), ?_, by rw [sA_1, sI_at], a1.ke (by rw [sA_ne (by decide), sI_2]) (by rw [sA_1, sI_ne (by decide)]), ⟨a2.1, ?_, ?_, ?_⟩, ?_, a4.ke (by rw [sA_ne (by decide), sI_2]) (by rw [sA_1, sI_ne (by decide)]), a5.ke (fun j p q => by rw [sA_ne (by omega), sI_2]), a6⟩
    · rw [m_without, in_19 ha]
      show ((m_in (nI b) 0 9).bind _) = _
      rw [in_9 hb]
      show (if inb (10 * nI a + nI b) 200 = true then (if μ.2.1 19 (10 * nI a + nI b).toNatClampNeg = 0 then _ else some ((1 : Int32), sA 19 (10 * nI a + nI b).toNatClampNeg (vp_nar .boolean 0) (sI 0 0 μ))) else none) = _
      rw [e10, if_pos (inb_nI (by omega) (by decide)), nI_clamp (by omega), h19, if_neg (by decide)]
      rfl
    · rw [sA_1, sI_ne (by decide)]; exact a2.2.1
    · rw [sA_1, sI_ne (by decide)]; exact a2.2.2.1
    · rw [sA_1, sI_ne (by decide)]; exact a2.2.2.2
    · rw [sA_at, sA_ne (by decide), sI_2, sI_2]
      have := VR_up (x := zNV) (y := 0) (z := μ.2.1 18 (10 * a + b)) a3 ha hb (Or.inl ⟨rfl, rfl⟩)
      rw [upd_id] at this
      exact this
  · refine ⟨sI 0 0 μ, ?_, sI_at, h.ke Ke.t⟩
    rw [m_without]
    by_cases c : dsl fd ln < 0
    · rcases in_19n c with z | ⟨z1, z2⟩
      · rw [z]; rfl
      · rw [z1]
        show ((m_in ln 0 9).bind _) = _
        rw [z2]
        rfl
    · obtain ⟨a, b, ha, hb, rfl, rfl⟩ := dsl_y c
      have h19 : μ.2.1 19 (10 * a + b) = 0 := by
        rcases a3 a b ha hb with z | ⟨z1, z2, z3, z4⟩
        · exact z.1
        · exfalso
          refine hn ⟨c, fun e => ?_⟩
          rw [dval_nI ha hb, z2] at e
          rw [e] at z3
          exact absurd z3 (by decide)
      rw [in_19 ha]
      show ((m_in (nI b) 0 9).bind _) = _
      rw [in_9 hb]
      show (if inb (10 * nI a + nI b) 200 = true then (if μ.2.1 19 (10 * nI a + nI b).toNatClampNeg = 0 then some ((0 : Int32), sI 0 0 μ) else _) else none) = _
      rw [e10, if_pos (inb_nI (by omega) (by decide)), nI_clamp (by omega), h19, if_pos rfl]
end INV
