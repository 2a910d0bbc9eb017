/-! printing, side by side -/
theorem nI_div {a b : Nat} (ha : a < 2 ^ 31) (hb : b < 2 ^ 31) : nI a / nI b = nI (a / b) := (Int32.ofNat_div ha hb).symm
theorem nI_nle2 {a b : Nat} (h : b < a) (ha : a < 2 ^ 31) : ¬ nI a ≤ nI b := Int32.not_le.mpr (nI_lt h ha)
theorem pPut_2 : ∀ (l : List Int32) (f : Nat → Int32) (q : Nat), q + l.length ≤ 200 → (pPut l (f, q)).2 = q + l.length
  | [], _, _, _ => rfl
  | x :: l, f, q, h => by
    have hl : (x :: l).length = l.length + 1 := List.length_cons
    have e : pPut (x :: l) (f, q) = pPut l (upd f q x, q + 1) := by
      show pPut l (pAdd (f, q) x) = _
      rw [pAdd, if_pos (show q < 200 by omega)]
    rw [e, pPut_2 l _ _ (by omega)]
    omega
theorem pPut_e {l : List Int32} {f : Nat → Int32} {q : Nat} (h : q + l.length ≤ 200) : pPut l (f, q) = ((pPut l (f, q)).1, q + l.length) := by
  rw [← pPut_2 l f q h]
/-- the list l is printed; the stack below k stays -/
def Prt (l : List Int32) (k q : Nat) (μ μ' : MS) : Prop :=
  (∀ j, j ≠ 36 → μ'.1 j = μ.1 j) ∧ (∀ j, j ≠ 35 → j ≠ 37 → μ'.2.1 j = μ.2.1 j) ∧ μ'.2.2 = μ.2.2 ∧ (∀ i, i < k → μ'.2.1 37 i = μ.2.1 37 i) ∧ μ'.1 36 = nI (q + l.length) ∧ μ'.2.1 35 = (pPut l (μ.2.1 35, q)).1
theorem Prt.rf {k q : Nat} {μ : MS} (h : μ.1 36 = nI q) : Prt [] k q μ μ := ⟨fun _ _ => rfl, fun _ _ _ => rfl, rfl, fun _ _ => rfl, h, rfl⟩
theorem Prt.tr {l1 l2 : List Int32} {k q : Nat} {x y z : MS} (h : Prt l1 k q x y) (h2 : Prt l2 k (q + l1.length) y z) (hl : q + l1.length ≤ 200) : Prt (l1 ++ l2) k q x z := by
  obtain ⟨a1, a2, a3, a4, a5, a6⟩ := h
  obtain ⟨b1, b2, b3, b4, b5, b6⟩ := h2
  refine ⟨fun j a => (b1 j a).trans (a1 j a), fun j a b => (b2 j a b).trans (a2 j a b), b3.trans a3, fun i hi => (b4 i hi).trans (a4 i hi), ?_, ?_⟩
  · rw [b5, List.length_append, Nat.add_assoc]
  · rw [b6, a6, pPut_app, pPut_e hl]
theorem Prt.lo {l : List Int32} {k k' q : Nat} {x y : MS} (h : Prt l k q x y) (hk : k' ≤ k) : Prt l k' q x y :=
  ⟨h.1, h.2.1, h.2.2.1, fun i hi => h.2.2.2.1 i (by omega), h.2.2.2.2.1, h.2.2.2.2.2⟩
def putS (x : Int32) (q : Nat) (μ : MS) : MS := sI 36 (nI (q + 1)) (sA 35 q x μ)
theorem put_eq {x : Int32} {q : Nat} {μ : MS} (h : μ.1 36 = nI q) (hq : q < 200) : m_put x μ = some (putS x q μ) := by
  rw [m_put, h, if_pos (inb_nI (by omega) (by decide)), nI_clamp (by omega), nI_1]
  rfl
theorem putS_6 {x : Int32} {q : Nat} {μ : MS} : (putS x q μ).1 36 = nI (q + 1) := sI_at
theorem putS_2 {x : Int32} {q j : Nat} {μ : MS} (h : j ≠ 35) : (putS x q μ).2.1 j = μ.2.1 j := by rw [putS, sI_2, sA_ne h]
theorem putS_p {x : Int32} {k q : Nat} {μ : MS} (hq : q < 200) : Prt [x] k q μ (putS x q μ) := by
  refine ⟨fun j a => by rw [putS, sI_ne a, sA_1], fun j a b => putS_2 a, rfl, fun i _ => by rw [putS_2 (by decide)], putS_6, ?_⟩
  rw [putS, sI_2, sA_at]
  show _ = (pAdd (μ.2.1 35, q) x).1
  rw [pAdd, if_pos (show q < 200 from hq)]
/-! numbers -/
theorem uN_w : ∀ t, t < 7 → uN t = nI (10 ^ (6 - t)) := by decide
def dg (v : Int32) (t : Nat) : Int32 := 48 + (v / uN t - v / uN t / 10 * 10)
def dgr (v : Int32) : Nat → Nat → List Int32
  | 0, _ => []
  | n + 1, t => dg v t :: dgr v n (t + 1)
theorem dgr_len {v : Int32} : ∀ n t, (dgr v n t).length = n
  | 0, _ => rfl
  | n + 1, t => by rw [dgr, List.length_cons, dgr_len n]
theorem pNumT_dgr {v : Int32} : ∀ n t, (∀ i, t ≤ i → i < t + n → uN i ≤ v ∨ uN i = 1) → pNumT v (t + n) = pNumT v t ++ dgr v n t
  | 0, t, _ => by rw [dgr, List.append_nil, Nat.add_zero]
  | n + 1, t, h => by
    rw [show t + (n + 1) = t + 1 + n by omega, pNumT_dgr n (t + 1) (fun i a b => h i (by omega) (by omega)), pNumT, if_pos (h t (Nat.le_refl _) (by omega)), dgr, List.append_assoc]
    rfl
theorem pNumT_nil {v : Int32} : ∀ s, s ≤ 6 → (∀ i, i < s → ¬ uN i ≤ v) → pNumT v s = []
  | 0, _, _ => rfl
  | s + 1, hs, h => by
    have n1 : ∀ i, i < 6 → ¬ uN i = 1 := by decide
    rw [pNumT, pNumT_nil s (by omega) (fun i hi => h i (by omega)), if_neg (fun z => z.elim (h s (by omega)) (n1 s (by omega)))]
    rfl
/-- where a number's first digit stands -/
theorem pn_1 {m : Nat} {μ : MS} (hm : m < 10 ^ 7) : ∀ t, t ≤ 6 → (t = 6 ∨ 10 ^ (6 - t) ≤ m) → ∃ s d, s ≤ 6 ∧ d ≤ t + 1 ∧ (∀ F, m_putNumber_B (F + d) 0 (nI m) (uN t) 0 μ = m_putNumber_B F 1 (nI m) 0 (uN s) μ) ∧ (s = 6 ∨ 10 ^ (6 - s) ≤ m) ∧ ∀ i, i < s → m < 10 ^ (6 - i)
  | t, ht, hp => by
    have hpos : 0 < 10 ^ (6 - t) := Nat.pow_pos (by decide)
    have hle : 10 ^ (6 - t) ≤ 10 ^ 6 := Nat.pow_le_pow_right (by decide) (by omega)
    have hw := uN_w t (by omega)
    have h0 : ¬ uN t = 0 := by
      rw [hw]
      exact nIl (c := 0) (by omega) (by omega) (by decide)
    have hd : nI m / uN t = nI (m / 10 ^ (6 - t)) := by rw [hw, nI_div (by omega) (by omega)]
    have hq : m / 10 ^ (6 - t) ≤ m := Nat.div_le_self _ _
    by_cases c : m / 10 ^ (6 - t) ≤ 9
    · refine ⟨t, 1, ht, by omega, fun F => ?_, hp, fun i hi => ?_⟩
      · rw [m_putNumber_b0, if_neg h0, hd, if_pos (show nI (m / 10 ^ (6 - t)) ≤ 9 from nI_le (b := 9) c (by decide))]
      · have h1 : m < 10 ^ (6 - t) * 10 := by
          have := Nat.div_lt_iff_lt_mul (x := m) (y := 10) hpos
          have := this.mp (by omega)
          rw [Nat.mul_comm] at this
          exact this
        have h2 : 10 ^ (6 - t) * 10 = 10 ^ (6 - t + 1) := (Nat.pow_succ ..).symm
        have h3 : 10 ^ (6 - t + 1) ≤ 10 ^ (6 - i) := Nat.pow_le_pow_right (by decide) (by omega)
        omega
    · have hge : 10 ^ (6 - t) * 10 ≤ m := by
        have := (Nat.le_div_iff_mul_le hpos (x := 10) (y := m)).mp (by omega)
        rw [Nat.mul_comm]
        exact this
      match t, ht, hp, hpos, hle, hw, h0, hd, hq, c, hge with
      | 0, _, _, _, _, _, _, _, _, _, hge =>
        have e : (10 : Nat) ^ (6 - 0) * 10 = 10 ^ 7 := by decide
        omega
      | t + 1, ht, _, _, _, hw, h0, hd, hq, c, hge =>
        have e : 10 ^ (6 - (t + 1)) * 10 = 10 ^ (6 - t) := by
          rw [← Nat.pow_succ, show (6 - (t + 1)).succ = 6 - t by omega]
        obtain ⟨s, d, r1, r2, r3, r4, r5⟩ := pn_1 (μ := μ) hm t (by omega) (Or.inr (by rw [← e]; exact hge))
        refine ⟨s, d + 1, r1, by omega, fun F => ?_, r4, r5⟩
        have hu : uN (t + 1) * 10 = uN t := by
          rw [hw, uN_w t (by omega), show (10 : Int32) = nI 10 from rfl, nI_mul, e]
        rw [show F + (d + 1) = F + d + 1 by omega, m_putNumber_b0, if_neg h0, hd, if_neg (show ¬ nI (m / 10 ^ (6 - (t + 1))) ≤ 9 from fun z => nI_nlt (a := m / 10 ^ (6 - (t + 1))) (b := 10) (by omega) (by omega) (Int32.lt_of_le_of_lt z (by decide))), hu]
        exact r3 F
/-- the digits -/
theorem pn_2 {m k : Nat} : ∀ (n t q : Nat) (μ : MS), t + n = 7 → μ.1 36 = nI q → q + n ≤ 200 → ∃ μ', (∀ F, m_putNumber_B (F + n + 1) 1 (nI m) 0 (uN t) μ = some μ') ∧ Prt (dgr (nI m) n t) k q μ μ'
  | 0, t, q, μ, ht, h6, hq => by
    have : t = 7 := by omega
    subst this
    refine ⟨μ, fun F => ?_, Prt.rf h6⟩
    rw [m_putNumber_b1, if_pos (by decide)]
  | n + 1, t, q, μ, ht, h6, hq => by
    obtain ⟨u1, u2, u3⟩ := uN_p t (by omega)
    obtain ⟨μ', r1, r2⟩ := pn_2 (m := m) (k := k) n (t + 1) (q + 1) (putS (dg (nI m) t) q μ) (by omega) putS_6 (by omega)
    refine ⟨μ', fun F => ?_, (putS_p (by omega)).tr r2 (by show q + 1 ≤ 200; omega)⟩
    rw [show F + (n + 1) + 1 = F + n + 1 + 1 by omega, m_putNumber_b1, if_neg u1, if_neg u2]
    have := put_eq (x := dg (nI m) t) h6 (by omega)
    rw [dg] at this
    rw [this]
    show m_putNumber_B (F + n + 1) 1 (nI m) 0 (uN t / 10) (putS (dg (nI m) t) q μ) = _
    rw [u3]
    exact r1 F
theorem pnum_eq {m k q : Nat} {μ : MS} (hm : m < 10 ^ 7) (h6 : μ.1 36 = nI q) (hq : q + (pNum (nI m)).length ≤ 200) : ∃ μ', m_putNumber (nI m) μ = some μ' ∧ Prt (pNum (nI m)) k q μ μ' := by
  have hF : ∃ F, ∀ x μ, m_putNumber x μ = m_putNumber_B (F + 20) 0 x 1 0 μ := ⟨4076, fun x μ => by rw [m_putNumber]⟩
  obtain ⟨F, eF⟩ := hF
  obtain ⟨s, d, s1, s2, s3, s4, s5⟩ := pn_1 (μ := μ) hm 6 (Nat.le_refl _) (Or.inl rfl)
  have e : pNum (nI m) = dgr (nI m) (7 - s) s := by
    have h := pNumT_dgr (v := nI m) (7 - s) s (fun i a b => by
      by_cases c : i = 6
      · subst c; exact Or.inr rfl
      · left
        have h1 : s ≠ 6 := by omega
        have h2 : 10 ^ (6 - s) ≤ m := by
          rcases s4 with z | z
          · exact absurd z h1
          · exact z
        have h3 : 10 ^ (6 - i) ≤ 10 ^ (6 - s) := Nat.pow_le_pow_right (by decide) (by omega)
        rw [uN_w i (by omega)]
        exact nI_le (by omega) (by omega))
    rw [show s + (7 - s) = 7 by omega, pNumT_nil s s1 (fun i hi => by
      have h1 := s5 i hi
      have h3 : 10 ^ (6 - i) ≤ 10 ^ 6 := Nat.pow_le_pow_right (by decide) (by omega)
      rw [uN_w i (by omega)]
      exact nI_nle2 h1 (by omega)), List.nil_append] at h
    exact h
  rw [e] at hq ⊢
  rw [dgr_len] at hq
  obtain ⟨μ', r1, r2⟩ := pn_2 (m := m) (k := k) (7 - s) s q μ (by omega) h6 hq
  refine ⟨μ', ?_, r2⟩
  have e1 : F + 20 = F + 20 - d + d := by omega
  rw [eF, e1]
  refine (s3 (F + 20 - d)).trans ?_
  rw [show F + 20 - d = F + 20 - d - (7 - s) - 1 + (7 - s) + 1 by omega]
  exact r1 _
/-- what has a text -/
theorem put2 {x : Int32} {l : List Int32} {k q : Nat} {μ : MS} {β : Type} {K : MS → Option β} {P : β → Prop} (h6 : μ.1 36 = nI q) (hq : q < 200) (h : ∃ r, K (putS x q μ) = some r ∧ P r) : ∃ r, (m_put x μ).bind K = some r ∧ P r := by
  rw [put_eq h6 hq]; exact h
theorem pterm_eq {X : LQ} {r u a k q : Nat} {μ : MS} (hr : r < 20) (hu : u ≤ 40) (ha : a < u) (hw : rwr X r u μ) (hlf : lf (LQ.K X a) (LQ.V X a)) (h6 : μ.1 36 = nI q) (hq : q + (pTerm (LQ.K X a) (LQ.V X a)).length ≤ 200) : ∃ μ', m_putTerm (nI (40 * r + a)) μ = some μ' ∧ Prt (pTerm (LQ.K X a) (LQ.V X a)) k q μ μ' := by
  obtain ⟨w6, w7, -, -⟩ := hw a ha
  have i8 : inb (nI (40 * r + a)) 800 = true := inb_nI (by omega) (by decide)
  have c2 : (nI (40 * r + a)).toNatClampNeg = 40 * r + a := nI_clamp (by omega)
  have hF : ∃ F, ∀ x1 μ, m_putTerm x1 μ = (if inb x1 800 = true then (if ((μ.2.1 6) x1.toNatClampNeg) = 13 then (m_put 115 μ).bind (fun p14 => (m_put 117 p14).bind (fun p20 => (m_put 109 p20).bind (fun p26 => (m_put 32 p26).bind (fun p32 => m_putTerm_B (F + 3) 0 x1 p32)))) else m_putTerm_B (F + 3) 0 x1 μ) else none) := ⟨4093, fun x1 μ => by rw [m_putTerm]⟩
  obtain ⟨F, eF⟩ := hF
  obtain ⟨m, hm, hv⟩ : ∃ m, m < 10 ^ 7 ∧ LQ.V X a = nI m := by
    rcases hlf with ⟨-, v1, v2⟩ | ⟨-, v1, v2⟩
    · obtain ⟨m, hm, e⟩ := nI_of v1
      refine ⟨m, ?_, e⟩
      rw [e] at v2
      rcases Nat.lt_or_ge m (10 ^ 7) with z | z
      · exact z
      · exact absurd v2 (nI_nle2 (a := m) (b := 9999999) (by omega) hm)
    · obtain ⟨m, hm, e⟩ := nI_of v1
      refine ⟨m, ?_, e⟩
      rw [e] at v2
      rcases Nat.lt_or_ge m 20 with z | z
      · omega
      · exact absurd v2 (nI_nlt (b := 20) z hm)
  rw [hv] at hq ⊢
  -- the number at the end
  have fin : ∀ (G : Nat) (l : List Int32) (μ1 : MS), Prt l k q μ μ1 → q + l.length + (pNum (nI m)).length ≤ 200 → ∃ μ', m_putTerm_B (G + 1) 2 (nI (40 * r + a)) μ1 = some μ' ∧ Prt (l ++ pNum (nI m)) k q μ μ' := by
    intro G l μ1 h1 h2
    obtain ⟨μ', r1, r2⟩ := pnum_eq (k := k) hm h1.2.2.2.2.1 h2
    refine ⟨μ', ?_, h1.tr r2 (by omega)⟩
    rw [m_putTerm_b2, if_pos i8, c2, h1.2.1 7 (by decide) (by decide), w7, hv, r1]
    rfl
  have fin1 : ∀ (G : Nat) (l : List Int32) (μ1 : MS), ¬ LQ.K X a ≤ 11 → Prt l k q μ μ1 → q + l.length + 1 + (pNum (nI m)).length ≤ 200 → ∃ μ', m_putTerm_B (G + 2) 1 (nI (40 * r + a)) μ1 = some μ' ∧ Prt (l ++ ([102] ++ pNum (nI m))) k q μ μ' := by
    intro G l μ1 hk h1 h2
    rw [m_putTerm_b1, if_pos i8, c2, h1.2.1 6 (by decide) (by decide), w6, if_neg hk, put_eq h1.2.2.2.2.1 (by omega)]
    rw [← List.append_assoc]
    exact fin G (l ++ [102]) _ (h1.tr (putS_p (by omega)) (by omega)) (by rw [List.length_append]; exact h2)
  rw [eF, if_pos i8, c2, w6]
  have pl : ∀ n, (List.replicate n (0 : Int32)).length = n := fun n => List.length_replicate
  rcases hlf with ⟨hk, -⟩ | ⟨hk | hk | hk, -⟩
  · have e : pTerm (LQ.K X a) (nI m) = [] ++ pNum (nI m) := by
      rw [hk, pTerm, if_neg (by decide), if_neg (by decide), if_pos rfl]; rfl
    rw [e] at hq ⊢
    rw [hk, if_neg (by decide), m_putTerm_b0, if_pos i8, c2, w6, hk, if_neg (by decide), m_putTerm_b1, if_pos i8, c2, w6, hk, if_pos (by decide)]
    exact fin F [] μ (Prt.rf h6) hq
  · have e : pTerm (LQ.K X a) (nI m) = [] ++ ([102] ++ pNum (nI m)) := by
      rw [hk, pTerm, if_neg (by decide), if_neg (by decide), if_neg (by decide)]; rfl
    have hq1 : q + 0 + 1 + (pNum (nI m)).length ≤ 200 := by
      rw [e] at hq
      have : ([] ++ ([102] ++ pNum (nI m)) : List Int32).length = 1 + (pNum (nI m)).length := by
        show (102 :: pNum (nI m)).length = _
        rw [List.length_cons]; omega
      omega
    rw [e, hk, if_neg (by decide), m_putTerm_b0, if_pos i8, c2, w6, hk, if_neg (by decide)]
    exact fin1 F [] μ (by rw [hk]; decide) (Prt.rf h6) hq1
  · have e : pTerm (LQ.K X a) (nI m) = [115, 117, 109, 32] ++ ([102] ++ pNum (nI m)) := by
      rw [hk, pTerm, if_pos rfl, if_neg (by decide), if_neg (by decide)]; rfl
    have hq1 : q + 4 + 1 + (pNum (nI m)).length ≤ 200 := by
      rw [e] at hq
      have : ([115, 117, 109, 32] ++ ([102] ++ pNum (nI m)) : List Int32).length = 5 + (pNum (nI m)).length := by
        show (115 :: 117 :: 109 :: 32 :: 102 :: pNum (nI m)).length = _
        rw [List.length_cons, List.length_cons, List.length_cons, List.length_cons, List.length_cons]; omega
      omega
    rw [e, hk, if_pos rfl]
    refine put2 (k := 0) (l := []) h6 (by omega) (put2 (k := 0) (l := []) putS_6 (by omega) (put2 (k := 0) (l := []) putS_6 (by omega) (put2 (k := 0) (l := []) putS_6 (by omega) ?_)))
    have P4 : Prt [115, 117, 109, 32] k q μ (putS 32 (q + 1 + 1 + 1) (putS 109 (q + 1 + 1) (putS 117 (q + 1) (putS 115 q μ)))) :=
      (putS_p (x := 115) (by omega)).tr ((putS_p (x := 117) (by show q + 1 < 200; omega)).tr ((putS_p (x := 109) (by show q + 1 + 1 < 200; omega)).tr (putS_p (x := 32) (by show q + 1 + 1 + 1 < 200; omega)) (by show q + 1 + 1 + 1 ≤ 200; omega)) (by show q + 1 + 1 ≤ 200; omega)) (by show q + 1 ≤ 200; omega)
    rw [m_putTerm_b0, if_pos i8, c2, P4.2.1 6 (by decide) (by decide), w6, hk, if_neg (by decide)]
    exact fin1 F _ _ (by rw [hk]; decide) P4 hq1
  · have e : pTerm (LQ.K X a) (nI m) = [99, 111, 117, 110, 116, 32] ++ ([102] ++ pNum (nI m)) := by
      rw [hk, pTerm, if_neg (by decide), if_pos rfl, if_neg (by decide)]; rfl
    have hq1 : q + 6 + 1 + (pNum (nI m)).length ≤ 200 := by
      rw [e] at hq
      have : ([99, 111, 117, 110, 116, 32] ++ ([102] ++ pNum (nI m)) : List Int32).length = 7 + (pNum (nI m)).length := by
        show (99 :: 111 :: 117 :: 110 :: 116 :: 32 :: 102 :: pNum (nI m)).length = _
        rw [List.length_cons, List.length_cons, List.length_cons, List.length_cons, List.length_cons, List.length_cons, List.length_cons]; omega
      omega
    rw [e, hk, if_neg (by decide), m_putTerm_b0, if_pos i8, c2, w6, hk, if_pos rfl]
    refine put2 (k := 0) (l := []) h6 (by omega) (put2 (k := 0) (l := []) putS_6 (by omega) (put2 (k := 0) (l := []) putS_6 (by omega) (put2 (k := 0) (l := []) putS_6 (by omega) (put2 (k := 0) (l := []) putS_6 (by omega) (put2 (k := 0) (l := []) putS_6 (by omega) ?_)))))
    have P6 : Prt [99, 111, 117, 110, 116, 32] k q μ (putS 32 (q + 1 + 1 + 1 + 1 + 1) (putS 116 (q + 1 + 1 + 1 + 1) (putS 110 (q + 1 + 1 + 1) (putS 117 (q + 1 + 1) (putS 111 (q + 1) (putS 99 q μ)))))) :=
      (putS_p (x := 99) (by omega)).tr ((putS_p (x := 111) (by show q + 1 < 200; omega)).tr ((putS_p (x := 117) (by show q + 1 + 1 < 200; omega)).tr ((putS_p (x := 110) (by show q + 1 + 1 + 1 < 200; omega)).tr ((putS_p (x := 116) (by show q + 1 + 1 + 1 + 1 < 200; omega)).tr (putS_p (x := 32) (by show q + 1 + 1 + 1 + 1 + 1 < 200; omega)) (by show q + 1 + 1 + 1 + 1 + 1 ≤ 200; omega)) (by show q + 1 + 1 + 1 + 1 ≤ 200; omega)) (by show q + 1 + 1 + 1 ≤ 200; omega)) (by show q + 1 + 1 ≤ 200; omega)) (by show q + 1 ≤ 200; omega)
    exact fin1 F _ _ (by rw [hk]; decide) P6 hq1
