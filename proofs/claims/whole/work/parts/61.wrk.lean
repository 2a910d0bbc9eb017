/-! working out a rule, side by side -/
theorem i32a {a b : Int32} {B C : Int} (h1 : -B ≤ a.toInt) (h2 : a.toInt ≤ B) (h3 : -C ≤ b.toInt) (h4 : b.toInt ≤ C) (hB : B + C < 2000000000) : (a + b).toInt = a.toInt + b.toInt := by
  rw [Int32.toInt_add, Int.bmod_eq_of_le (by omega) (by omega)]
theorem i32s {a b : Int32} {B C : Int} (h1 : -B ≤ a.toInt) (h2 : a.toInt ≤ B) (h3 : -C ≤ b.toInt) (h4 : b.toInt ≤ C) (hB : B + C < 2000000000) : (a - b).toInt = a.toInt - b.toInt := by
  rw [Int32.toInt_sub, Int.bmod_eq_of_le (by omega) (by omega)]
theorem i64a {a b : Int64} {B C : Int} (h1 : -B ≤ a.toInt) (h2 : a.toInt ≤ B) (h3 : -C ≤ b.toInt) (h4 : b.toInt ≤ C) (hB : B + C < 2000000000) : (a + b).toInt = a.toInt + b.toInt := by
  rw [Int64.toInt_add, Int.bmod_eq_of_le (by omega) (by omega)]
theorem i64d {a b : Int64} {B C : Int} (h1 : -B ≤ a.toInt) (h2 : a.toInt ≤ B) (h3 : -C ≤ b.toInt) (h4 : b.toInt ≤ C) (hB : B + C < 2000000000) : (a - b).toInt = a.toInt - b.toInt := by
  rw [Int64.toInt_sub, Int.bmod_eq_of_le (by omega) (by omega)]
theorem zNV_i : (zNV).toInt = -2147483648 := by decide
/-- a sum's result on a line: not known, or an amount -/
def sm (B : Int) (kn : Int32) (am : Int64) (x : Int32) : Prop := (kn = 0 ∧ x = zNV) ∨ (kn = 1 ∧ -B ≤ x.toInt ∧ x.toInt ≤ B ∧ am.toInt = x.toInt)
theorem sm_le {B C : Int} {kn : Int32} {am : Int64} {x : Int32} (h : sm B kn am x) (hB : B ≤ C) : sm C kn am x := by
  rcases h with h | ⟨h1, h2, h3, h4⟩
  · exact Or.inl h
  · exact Or.inr ⟨h1, by omega, by omega, h4⟩
theorem sm_nv {B : Int} {kn : Int32} {am : Int64} {x : Int32} (h : sm B kn am x) (hB : B < 2147483648) : kn = 1 → ¬ x = zNV := by
  intro hk e
  rcases h with ⟨h, -⟩ | ⟨-, h2, h3, -⟩
  · rw [h] at hk; exact absurd hk (by decide)
  · rw [e, zNV_i] at h2; omega
/-- the fields' values: the class's row and the reference's two -/
def VR (v has vl : Nat → Int32) : Prop := ∀ f ln, f < 20 → ln < 10 → (has (10 * f + ln) = 0 ∧ v (ln * 20 + f) = zNV) ∨ (has (10 * f + ln) = 1 ∧ v (ln * 20 + f) = vl (10 * f + ln) ∧ -1000000 ≤ (vl (10 * f + ln)).toInt ∧ (vl (10 * f + ln)).toInt ≤ 1000000)
theorem dval_nI {v : Nat → Int32} {f ln : Nat} (hf : f < 20) (hl : ln < 10) : dval v (nI f) (nI ln) = v (ln * 20 + f) := by
  rw [dval, dsl_nI hf hl, if_neg (nI_pos (by omega)), nI_clamp (by omega)]
/-- what a working out leaves as it is, but at i -/
def WkF (i : Nat) (μ μ' : MS) : Prop := μ'.1 = μ.1 ∧ (∀ k, k ≠ 32 → k ≠ 33 → μ'.2.1 k = μ.2.1 k) ∧ ∀ t, t ≠ i → μ'.2.1 32 t = μ.2.1 32 t ∧ μ'.2.1 33 t = μ.2.1 33 t ∧ μ'.2.2 t = μ.2.2 t
theorem WkF.rf {i : Nat} {μ : MS} : WkF i μ μ := ⟨rfl, fun _ _ _ => rfl, fun _ _ => ⟨rfl, rfl, rfl⟩⟩
theorem WkF.tr {i : Nat} {x y z : MS} (h : WkF i x y) (h2 : WkF i y z) : WkF i x z := ⟨h2.1.trans h.1, fun k a b => (h2.2.1 k a b).trans (h.2.1 k a b), fun t ht => ⟨(h2.2.2 t ht).1.trans (h.2.2 t ht).1, (h2.2.2 t ht).2.1.trans (h.2.2 t ht).2.1, (h2.2.2 t ht).2.2.trans (h.2.2 t ht).2.2⟩⟩
theorem WkF.J {i : Nat} {μ μ' : MS} {x : Int64} (h : WkF i μ μ') : WkF i μ (sJ i x μ') := ⟨h.1, h.2.1, fun t ht => ⟨(h.2.2 t ht).1, (h.2.2 t ht).2.1, (pk_uLn ht).trans (h.2.2 t ht).2.2⟩⟩
theorem WkF.k {i : Nat} {μ μ' : MS} {x : Int32} (h : WkF i μ μ') : WkF i μ (sA 32 i x μ') := by
  refine ⟨h.1, fun k a b => by rw [sA_ne a]; exact h.2.1 k a b, fun t ht => ⟨?_, ?_, (h.2.2 t ht).2.2⟩⟩
  · rw [sA_at, upd_ne ht]; exact (h.2.2 t ht).1
  · rw [sA_ne (by decide)]; exact (h.2.2 t ht).2.1
theorem WkF.a {i : Nat} {μ μ' : MS} {x : Int32} (h : WkF i μ μ') : WkF i μ (sA 33 i x μ') := by
  refine ⟨h.1, fun k a b => by rw [sA_ne b]; exact h.2.1 k a b, fun t ht => ⟨?_, ?_, (h.2.2 t ht).2.2⟩⟩
  · rw [sA_ne (by decide)]; exact (h.2.2 t ht).1
  · rw [sA_at, upd_ne ht]; exact (h.2.2 t ht).2.1
theorem sJ_at {i : Nat} {x : Int64} {μ : MS} : (sJ i x μ).2.2 i = x := pk_uLs
theorem e10 (a b : Nat) : (10 : Int32) * nI a + nI b = nI (10 * a + b) := by
  rw [show (10 : Int32) * nI a = nI (10 * a) from nI_mul 10 a, nI_add]
/-- a sum or a count over the lines 1 .. k -/
def acc (kd : Int32) (v : Nat → Int32) (fd : Int32) : Nat → Int32
  | 0 => 0
  | k + 1 => acc kd v fd k + (if dval v fd (nI (k + 1)) = (-2147483648 : Int32) then 0 else if kd = 13 then dval v fd (nI (k + 1)) else 1)
theorem acc_sum {v : Nat → Int32} {fd : Int32} : ∀ k, acc 13 v fd k = dsum v fd k
  | 0 => rfl
  | k + 1 => by rw [acc, dsum, acc_sum k, if_pos (show (13 : Int32) = 13 from rfl)]
theorem acc_cnt {v : Nat → Int32} {fd : Int32} : ∀ k, acc 14 v fd k = dcnt v fd k
  | 0 => rfl
  | k + 1 => by rw [acc, dcnt, acc_cnt k, if_neg (show ¬ (14 : Int32) = 13 by decide)]
theorem acc_b {v has vl : Nat → Int32} {kd : Int32} {f : Nat} (hV : VR v has vl) (hf : f < 20) : ∀ k : Nat, k < 10 → -(1000000 * (k : Int)) ≤ (acc kd v (nI f) k).toInt ∧ (acc kd v (nI f) k).toInt ≤ 1000000 * (k : Int)
  | 0, _ => by
    show -(1000000 * ((0 : Nat) : Int)) ≤ (0 : Int32).toInt ∧ (0 : Int32).toInt ≤ 1000000 * ((0 : Nat) : Int)
    decide
  | k + 1, hk => by
    obtain ⟨i1, i2⟩ := acc_b (kd := kd) hV hf k (by omega)
    have hd : ∃ y : Int32, acc kd v (nI f) (k + 1) = acc kd v (nI f) k + y ∧ -1000000 ≤ y.toInt ∧ y.toInt ≤ 1000000 := by
      refine ⟨_, rfl, ?_⟩
      rw [dval_nI hf (by omega)]
      rcases hV f (k + 1) hf (by omega) with ⟨a1, a2⟩ | ⟨a1, a2, a3, a4⟩
      · rw [if_pos a2]; decide
      · rw [a2]
        split
        · decide
        · split
          · exact ⟨a3, a4⟩
          · decide
    obtain ⟨y, e, y1, y2⟩ := hd
    rw [e, i32a (B := 1000000 * (k : Int)) (C := 1000000) i1 i2 (by omega) (by omega) (by omega)]
    omega
theorem nar_b {x : Int32} (h : x = 0 ∨ x = 1) : vp_nar .boolean x = x := by
  rcases h with rfl | rfl <;> rfl
/-- the lines, from t on -/
theorem wt_loop {r j i f : Nat} {v : Nat → Int32} {kd : Int32} {F : Nat} (hx : 40 * r + j < 800) (hi : i < 400) (hf : f < 20) (hkd : kd = 13 ∨ kd = 14) : ∀ (n t : Nat) (μ : MS), t + n = 10 → 1 ≤ t → μ.2.1 6 (40 * r + j) = kd → μ.2.1 7 (40 * r + j) = nI f → VR v (μ.2.1 19) (μ.2.1 18) → (μ.2.2 i).toInt = (acc kd v (nI f) (t - 1)).toInt → ∃ μ', m_workTerm_B (F + 2 * n + 2) 2 (nI (40 * r + j)) 0 (nI i) (nI t) μ = some μ' ∧ WkF i μ μ' ∧ μ'.2.1 32 i = μ.2.1 32 i ∧ (μ'.2.2 i).toInt = (acc kd v (nI f) 9).toInt
  | 0, t, μ, ht, h1, h6, h7, hV, ha => by
    have : t = 10 := by omega
    subst this
    refine ⟨μ, ?_, WkF.rf, rfl, ha⟩
    show m_workTerm_B (F + 2) 2 _ 0 _ _ μ = _
    rw [m_workTerm_b2, if_pos (by decide), m_workTerm_b4]
  | n + 1, t, μ, ht, h1, h6, h7, hV, ha => by
    obtain ⟨s, rfl⟩ : ∃ s, t = s + 1 := ⟨t - 1, by omega⟩
    have hb := acc_b (kd := kd) hV hf s (by omega)
    rw [Nat.add_sub_cancel] at ha
    have k12 : ¬ kd ≤ 12 := by rcases hkd with z | z <;> rw [z] <;> decide
    have e1 : F + 2 * (n + 1) + 2 = F + 2 * n + 2 + 2 := by omega
    rw [e1, m_workTerm_b2, if_neg (show ¬ (10 : Int32) ≤ nI (s + 1) from nI_ge (b := 10) (by omega) (by decide)), if_pos (inb_nI hx (by decide)), nI_clamp (by omega), h6, if_neg k12, h7, e10, if_pos (inb_nI (by omega) (by decide)), nI_clamp (by omega)]
    have hacc : acc kd v (nI f) (s + 1) = acc kd v (nI f) s + (if v ((s + 1) * 20 + f) = (-2147483648 : Int32) then 0 else if kd = 13 then v ((s + 1) * 20 + f) else 1) := by
      rw [acc, dval_nI hf (by omega)]
    rcases hV f (s + 1) hf (by omega) with ⟨a1, a2⟩ | ⟨a1, a2, a3, a4⟩
    · rw [a1, if_pos rfl, m_workTerm_b3, nI_1]
      refine wt_loop hx hi hf hkd n (s + 2) μ (by omega) (by omega) h6 h7 hV ?_
      show (μ.2.2 i).toInt = (acc kd v (nI f) (s + 1)).toInt
      rw [hacc, a2, if_pos rfl, Int32.add_zero]
      exact ha
    · have nn : ¬ v ((s + 1) * 20 + f) = (-2147483648 : Int32) := fun z => by
        rw [a2] at z
        rw [z] at a3
        exact absurd a3 (by decide)
      rw [if_neg nn] at hacc
      have step : ∀ (y : Int64) (x : Int32), y.toInt = x.toInt → -1000000 ≤ x.toInt → x.toInt ≤ 1000000 → acc kd v (nI f) (s + 1) = acc kd v (nI f) s + x → ∃ μ', m_workTerm_B (F + 2 * n + 2 + 1) 3 (nI (40 * r + j)) 0 (nI i) (nI (s + 1)) (sJ i (μ.2.2 i + y) μ) = some μ' ∧ WkF i μ μ' ∧ μ'.2.1 32 i = μ.2.1 32 i ∧ (μ'.2.2 i).toInt = (acc kd v (nI f) 9).toInt := by
        intro y x hyx x1 x2 hax
        rw [m_workTerm_b3, nI_1]
        obtain ⟨μ', r1, r2, r3, r4⟩ := wt_loop (F := F) hx hi hf hkd n (s + 2) (sJ i (μ.2.2 i + y) μ) (by omega) (by omega) h6 h7 hV (by
          show ((sJ i (μ.2.2 i + y) μ).2.2 i).toInt = (acc kd v (nI f) (s + 1)).toInt
          rw [sJ_at, hax, i64a (B := 1000000 * (s : Int)) (C := 1000000) (by omega) (by omega) (by omega) (by omega) (by omega), i32a (B := 1000000 * (s : Int)) (C := 1000000) hb.1 hb.2 x1 x2 (by omega), ha, hyx])
        exact ⟨μ', r1, WkF.rf.J.tr r2, r3, r4⟩
      rw [a1, if_neg (by decide), if_pos (inb_nI hi (by decide)), nI_clamp (by omega)]
      rcases hkd with z | z
      · subst z
        rw [if_pos rfl]
        rw [if_pos rfl] at hacc
        exact step _ (v ((s + 1) * 20 + f)) (by rw [a2, Int32.toInt_toInt64]) (by rw [a2]; exact a3) (by rw [a2]; exact a4) hacc
      · subst z
        rw [if_neg (by decide)]
        rw [if_neg (by decide)] at hacc
        exact step 1 1 (by decide) (by decide) (by decide) hacc
def tv (kd val : Int32) (v : Nat → Int32) (b : Nat) : Int32 := if kd = 11 then val else if kd = 13 then dsum v val 9 else if kd = 14 then dcnt v val 9 else dval v val (nI b)
theorem m_wt_F : ∃ F, 60 ≤ F ∧ ∀ x1 x2 x3 μ, m_workTerm x1 x2 x3 μ = (if inb ((10 * x2) + x3) 400 = true then (if inb x1 800 = true then (if ((μ.2.1 6) x1.toNatClampNeg) = 11 then m_workTerm_B F 0 x1 x3 ((10 * x2) + x3) 0 (sJ (((10 * x2) + x3).toNatClampNeg) ((μ.2.1 7) x1.toNatClampNeg).toInt64 (sJ (((10 * x2) + x3).toNatClampNeg) 0 (sA 32 (((10 * x2) + x3).toNatClampNeg) (vp_nar .boolean 1) μ))) else m_workTerm_B F 0 x1 x3 ((10 * x2) + x3) 0 (sJ (((10 * x2) + x3).toNatClampNeg) 0 (sA 32 (((10 * x2) + x3).toNatClampNeg) (vp_nar .boolean 1) μ))) else none) else none) :=
  ⟨4096, by decide, fun x1 x2 x3 μ => by rw [m_workTerm]⟩
set_option maxHeartbeats 1000000 in
theorem wterm_eq {r j b : Nat} {v : Nat → Int32} {kd val : Int32} {μ : MS} (hr : r < 20) (hj : j < 40) (hb : b < 10) (h6 : μ.2.1 6 (40 * r + j) = kd) (h7 : μ.2.1 7 (40 * r + j) = val) (hlf : lf kd val) (hV : VR v (μ.2.1 19) (μ.2.1 18)) :
    ∃ μ', m_workTerm (nI (40 * r + j)) (nI j) (nI b) μ = some μ' ∧ WkF (10 * j + b) μ μ' ∧ sm 10000000 (μ'.2.1 32 (10 * j + b)) (μ'.2.2 (10 * j + b)) (tv kd val v b) := by
  obtain ⟨F, hF, eF⟩ := m_wt_F
  have n1 : vp_nar .boolean (1 : Int32) = 1 := nar_b (Or.inr rfl)
  have c1 : (nI (10 * j + b)).toNatClampNeg = 10 * j + b := nI_clamp (by omega)
  have c2 : (nI (40 * r + j)).toNatClampNeg = 40 * r + j := nI_clamp (by omega)
  have i4 : inb (nI (10 * j + b)) 400 = true := inb_nI (by omega) (by decide)
  have i8 : inb (nI (40 * r + j)) 800 = true := inb_nI (by omega) (by decide)
  rw [eF, e10, if_pos i4, if_pos i8, c1, c2, h6, h7, n1]
  obtain ⟨μ0, hμ0⟩ : ∃ μ0, μ0 = sJ (10 * j + b) 0 (sA 32 (10 * j + b) 1 μ) := ⟨_, rfl⟩
  have w0 : WkF (10 * j + b) μ μ0 := by rw [hμ0]; exact WkF.rf.k.J
  have k0 : μ0.2.1 32 (10 * j + b) = 1 := by rw [hμ0]; show (sA 32 (10 * j + b) 1 μ).2.1 32 (10 * j + b) = 1; rw [sA_at, upd_at]
  have a0 : μ0.2.2 (10 * j + b) = 0 := by rw [hμ0]; exact sJ_at
  have r6 : μ0.2.1 6 (40 * r + j) = kd := by rw [w0.2.1 6 (by decide) (by decide)]; exact h6
  have r7 : μ0.2.1 7 (40 * r + j) = val := by rw [w0.2.1 7 (by decide) (by decide)]; exact h7
  have rV : VR v (μ0.2.1 19) (μ0.2.1 18) := by rw [w0.2.1 19 (by decide) (by decide), w0.2.1 18 (by decide) (by decide)]; exact hV
  rw [← hμ0]
  have fin : ∀ (G : Nat) (x3 x5 : Int32) (μ1 : MS), μ1.2.1 6 (40 * r + j) = kd → kd ≤ 12 → m_workTerm_B (G + 3) 1 (nI (40 * r + j)) x3 (nI (10 * j + b)) x5 μ1 = some μ1 := fun G x3 x5 μ1 h hk => by
    rw [m_workTerm_b1, m_workTerm_b2, if_neg (by decide), if_pos i8, c2, h, if_pos hk, m_workTerm_b4]
  rcases hlf with ⟨rfl, v1, v2⟩ | ⟨hk, v1, v2⟩
  · obtain ⟨G, rfl⟩ : ∃ G, F = G + 4 := ⟨F - 4, by omega⟩
    rw [if_pos rfl, m_workTerm_b0, if_pos i8, c2]
    have q6 : (sJ (10 * j + b) val.toInt64 μ0).2.1 6 (40 * r + j) = 11 := r6
    rw [q6, if_neg (by decide), fin G 0 0 _ q6 (by decide)]
    refine ⟨_, rfl, w0.J, Or.inr ⟨k0, ?_, ?_, ?_⟩⟩
    · show -10000000 ≤ val.toInt
      have := Int32.le_iff_toInt_le.mp (Int32.not_lt.mp v1)
      have z : (0 : Int32).toInt = 0 := rfl
      omega
    · show val.toInt ≤ 10000000
      have := Int32.le_iff_toInt_le.mp v2
      have z : (9999999 : Int32).toInt = 9999999 := rfl
      omega
    · rw [sJ_at, Int32.toInt_toInt64]
      rfl
  · obtain ⟨f, hf0, rfl⟩ := nI_of v1
    have hf : f < 20 := by
      rcases Nat.lt_or_ge f 20 with z | z
      · exact z
      · exact absurd v2 (nI_nlt (b := 20) z hf0)
    have k11 : ¬ kd = 11 := by rcases hk with z | z | z <;> rw [z] <;> decide
    rw [if_neg k11]
    by_cases k12 : kd = 12
    · subst k12
      obtain ⟨G, rfl⟩ : ∃ G, F = G + 4 := ⟨F - 4, by omega⟩
      rw [m_workTerm_b0, if_pos i8, c2, r6, if_pos rfl, r7, e10, if_pos (inb_nI (by omega) (by decide)), if_pos i4, c1, nI_clamp (by omega)]
      have e : tv 12 (nI f) v b = v (b * 20 + f) := by
        rw [tv, if_neg (by decide), if_neg (by decide), if_neg (by decide), dval_nI hf hb]
      have hn : μ0.2.1 19 (10 * f + b) = 0 ∨ μ0.2.1 19 (10 * f + b) = 1 := by
        rcases rV f b hf hb with z | z
        · exact Or.inl z.1
        · exact Or.inr z.1
      rw [nar_b hn]
      have q6 : (sA 32 (10 * j + b) (μ0.2.1 19 (10 * f + b)) (sJ (10 * j + b) (μ0.2.1 18 (10 * f + b)).toInt64 μ0)).2.1 6 (40 * r + j) = 12 := by rw [sA_ne (by decide)]; exact r6
      rw [fin G 0 0 _ q6 (by decide), e]
      refine ⟨_, rfl, w0.J.k, ?_⟩
      rw [sA_at, upd_at]
      rcases rV f b hf hb with ⟨z1, z2⟩ | ⟨z1, z2, z3, z4⟩
      · exact Or.inl ⟨z1, z2⟩
      · refine Or.inr ⟨z1, ?_, ?_, ?_⟩
        · rw [z2]; omega
        · rw [z2]; omega
        · show ((sJ (10 * j + b) (μ0.2.1 18 (10 * f + b)).toInt64 μ0).2.2 (10 * j + b)).toInt = _
          rw [sJ_at, Int32.toInt_toInt64, z2]
    · have hk2 : kd = 13 ∨ kd = 14 := by
        rcases hk with z | z | z
        · exact absurd z k12
        · exact Or.inl z
        · exact Or.inr z
      obtain ⟨G, rfl⟩ : ∃ G, F = G + 2 * 9 + 2 + 2 := ⟨F - 22, by omega⟩
      rw [m_workTerm_b0, if_pos i8, c2, r6, if_neg k12, m_workTerm_b1]
      obtain ⟨μ', s1, s2, s3, s4⟩ := wt_loop (F := G) (r := r) (j := j) (i := 10 * j + b) (f := f) (v := v) (kd := kd) (by omega) (by omega) hf hk2 9 1 μ0 rfl (Nat.le_refl _) r6 r7 rV (by rw [a0]; rfl)
      refine ⟨μ', s1, w0.tr s2, Or.inr ⟨by rw [s3]; exact k0, ?_⟩⟩
      have e : tv kd (nI f) v b = acc kd v (nI f) 9 := by
        rcases hk2 with z | z
        · subst z; rw [tv, if_neg (by decide), if_pos rfl, acc_sum]
        · subst z; rw [tv, if_neg (by decide), if_neg (by decide), if_pos rfl, acc_cnt]
      have hb9 := acc_b (kd := kd) hV hf 9 (by decide)
      rw [e]
      exact ⟨by omega, by omega, s4⟩
/-! is a line there -/
def thr (has : Nat → Int32) (ln : Nat) : Nat → Bool
  | 0 => false
  | k + 1 => thr has ln k || !decide (has (10 * k + ln) = 0)
theorem there_B {ln F : Nat} (hl : ln < 10) : ∀ (n k : Nat) (μ : MS), k + n = 20 → m_isThere_B (F + n + 1) 0 (nI ln) (zb (thr (μ.2.1 19) ln k)) (nI k) μ = some (zb (thr (μ.2.1 19) ln 20), μ)
  | 0, k, μ, h => by
    have : k = 20 := by omega
    subst this
    rw [m_isThere_B, if_pos (by decide), if_pos]
    cases thr (μ.2.1 19) ln 20 <;> rfl
  | n + 1, k, μ, h => by
    have ih := there_B (F := F) hl n (k + 1) μ (by omega)
    rw [show F + (n + 1) + 1 = F + n + 1 + 1 by omega, m_isThere_B, if_neg (show ¬ (20 : Int32) ≤ nI k from nI_ge (b := 20) (by omega) (by decide)), e10, nI_clamp (by omega), nI_1]
    rw [thr] at ih
    cases ht : thr (μ.2.1 19) ln k with
    | true =>
      rw [ht, Bool.true_or] at ih
      show (m_isThere_B (F + n + 1) 0 (nI ln) 1 (nI (k + 1)) μ) = _
      exact ih
    | false =>
      rw [ht, Bool.false_or] at ih
      show (if inb (nI (10 * k + ln)) 200 = true then (if μ.2.1 19 (10 * k + ln) = 0 then m_isThere_B (F + n + 1) 0 (nI ln) 0 (nI (k + 1)) μ else m_isThere_B (F + n + 1) 0 (nI ln) 1 (nI (k + 1)) μ) else none) = _
      rw [if_pos (inb_nI (by omega) (by decide))]
      by_cases c : μ.2.1 19 (10 * k + ln) = 0
      · rw [if_pos c]
        rw [decide_eq_true c] at ih
        exact ih
      · rw [if_neg c]
        rw [decide_eq_false c] at ih
        exact ih
theorem there_eq {ln : Nat} {μ : MS} (hl : ln < 10) : m_isThere (nI ln) μ = some (zb (thr (μ.2.1 19) ln 20), μ) := by
  have hF : ∃ F, ∀ x μ, m_isThere x μ = m_isThere_B (F + 20 + 1) 0 x 0 0 μ := ⟨4075, fun x μ => by rw [m_isThere]⟩
  obtain ⟨F, eF⟩ := hF
  rw [eF]
  exact there_B hl 20 0 μ rfl
/-- the lines that are there, as bits -/
def rb (th : Nat → Bool) : Nat → Int32
  | 0 => 0
  | k + 1 => if th (k + 1) = true then rb th k ||| (1 <<< (nI (k + 1) &&& 31)) else rb th k
theorem dbit_eq {v has vl : Nat → Int32} {ln : Nat} {bits : Int32} (hV : VR v has vl) (hl : ln < 10) : ∀ k, k ≤ 20 → dbit v ln bits k = if thr has ln k = true then bits ||| (1 <<< (nI ln &&& 31)) else bits
  | 0, _ => by
    rw [dbit, thr, if_neg (by decide)]
  | k + 1, hk => by
    rw [dbit, thr, dbit_eq hV hl k (by omega), dval_nI (by omega) hl]
    rcases hV k ln (by omega) hl with ⟨a1, a2⟩ | ⟨a1, a2, a3, a4⟩
    · rw [if_pos a2, a1, decide_eq_true rfl, Bool.not_true, Bool.or_false]
    · have nn : ¬ v (ln * 20 + k) = (-2147483648 : Int32) := fun z => by
        rw [a2] at z
        rw [z] at a3
        exact absurd a3 (by decide)
      rw [if_neg nn, a1, decide_eq_false (by decide), Bool.not_false, Bool.or_true, if_pos rfl]
      split
      · rw [Int32.or_assoc, Int32.or_self]
      · rfl
theorem dbits_rb {v has vl : Nat → Int32} (hV : VR v has vl) : ∀ k, k < 10 → dbits v k = rb (fun ln => thr has ln 20) k
  | 0, _ => rfl
  | k + 1, hk => by
    rw [dbits, rb, dbit_eq hV hk 20 (Nat.le_refl _), dbits_rb hV k (by omega)]
theorem rb_cg {a b : Nat → Bool} : ∀ k, (∀ j, j ≤ k → a j = b j) → rb a k = rb b k
  | 0, _ => rfl
  | k + 1, h => by rw [rb, rb, rb_cg k (fun j hj => h j (by omega)), h (k + 1) (Nat.le_refl _)]
def tb (b1 b2 b3 b4 b5 b6 b7 b8 b9 : Bool) (k : Nat) : Bool := [false, b1, b2, b3, b4, b5, b6, b7, b8, b9].getD k false
theorem rb_bit0 : ∀ b1 b2 b3 b4 b5 b6 b7 b8 b9 : Bool, ∀ k, k < 10 → 0 < k → ((rb (tb b1 b2 b3 b4 b5 b6 b7 b8 b9) 9 >>> (nI k &&& 31)) &&& 1 = 1 ↔ tb b1 b2 b3 b4 b5 b6 b7 b8 b9 k = true) := by decide +kernel
theorem rb_bit {th : Nat → Bool} {k : Nat} (h : k < 10) (h0 : 0 < k) : (rb th 9 >>> (nI k &&& 31)) &&& 1 = 1 ↔ th k = true := by
  have e : ∀ j, 0 < j → j ≤ 9 → tb (th 1) (th 2) (th 3) (th 4) (th 5) (th 6) (th 7) (th 8) (th 9) j = th j := by
    intro j h1 h2
    match j, h1, h2 with
    | 1, _, _ => rfl
    | 2, _, _ => rfl
    | 3, _, _ => rfl
    | 4, _, _ => rfl
    | 5, _, _ => rfl
    | 6, _, _ => rfl
    | 7, _, _ => rfl
    | 8, _, _ => rfl
    | 9, _, _ => rfl
  have e2 : ∀ n, n ≤ 9 → rb th n = rb (tb (th 1) (th 2) (th 3) (th 4) (th 5) (th 6) (th 7) (th 8) (th 9)) n := by
    intro n
    induction n with
    | zero => intro _; rfl
    | succ n ih => intro hn; rw [rb, rb, ih (by omega), e (n + 1) (by omega) hn]
  rw [e2 9 (Nat.le_refl _), rb_bit0 _ _ _ _ _ _ _ _ _ k h h0, e k h0 (by omega)]
