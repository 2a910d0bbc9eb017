/-! class and reference, tied: count, check, print, rule -/
section INV3
variable {g : Nat → Int32} {len : Nat} {st : RSt} {v : Nat → Int32} {ps : PSt} {cc td : Int32} {rc : Nat} {ρ : Nat → RuS} {μ : MS}
theorem cnt_0 (h : Inv g len st v ps cc td rc ρ μ) {w : Int32} : ∀ (n k F : Nat), k + n = rc → m_count_B (F + n + 1) 0 w (fCnt (bB9 ρ true) k) (fCnt (bB9 ρ false) k) (nI k) 0 μ = m_count_B F 1 w (fCnt (bB9 ρ true) rc) (fCnt (bB9 ρ false) rc) 0 1 μ
  | 0, k, F, hk => by
    have : k = rc := by omega
    subst this
    rw [m_count_b0, h.2.1.2.1, if_pos (Int32.le_refl _)]
  | n + 1, k, F, hk => by
    obtain ⟨a1, a2, a3, a4, a5, a6⟩ := id h
    obtain ⟨f1, f2, f3, f4, f5, f6, f7, f8⟩ := (a5.1 k (by omega)).2
    have ih := cnt_0 h (w := w) n (k + 1) F (by omega)
    rw [fCnt, fCnt, bB9, bB9] at ih
    rw [show F + (n + 1) + 1 = F + n + 1 + 1 by omega, m_count_b0, a2.2.1, if_neg (nI_nle2 (by omega) (by omega)), if_pos (inb_nI (by omega) (by decide)), nI_clamp (by omega), f7, f2, nI_1, Int32.add_zero, Int32.add_zero]
    cases hF : rF (ρ k) with
    | false =>
      rw [hF, Bool.false_and, Bool.false_and, if_neg (by decide), if_neg (by decide)] at ih
      rw [if_pos (show zb false = 0 from rfl)]
      exact ih
    | true =>
      rw [hF, Bool.true_and, Bool.true_and] at ih
      rw [if_neg (show ¬ zb true = 0 by decide)]
      cases hH : rH (ρ k) with
      | false =>
        rw [hH, if_neg (by decide), if_pos (by decide)] at ih
        rw [if_pos (show zb false = 0 from rfl)]
        exact ih
      | true =>
        rw [hH, if_pos (by decide), if_neg (by decide)] at ih
        rw [if_neg (show ¬ zb true = 0 by decide)]
        exact ih
theorem cnt_1 {w x2 x3 : Int32} : ∀ (n k F : Nat), k + n = 9 → m_count_B (F + n + 1) 1 w x2 x3 (rb (fun ln => thr (μ.2.1 19) ln 20) k) (nI (k + 1)) μ = (if w = 0 then some (μ.1 2, μ) else (if w = 1 then some (μ.1 3, μ) else (if w = 2 then some (μ.1 4, μ) else (if w = 3 then some (x2, μ) else (if w = 4 then some (x3, μ) else (if w = 5 then some (rb (fun ln => thr (μ.2.1 19) ln 20) 9, μ) else some ((-1), μ)))))))
  | 0, k, F, hk => by
    have : k = 9 := by omega
    subst this
    rw [m_count_b1, if_pos (by decide)]
  | n + 1, k, F, hk => by
    have ih := cnt_1 (w := w) (x2 := x2) (x3 := x3) n (k + 1) F (by omega)
    rw [rb] at ih
    rw [show F + (n + 1) + 1 = F + n + 1 + 1 by omega, m_count_b1, if_neg (show ¬ (10 : Int32) ≤ nI (k + 1) from nI_ge (b := 10) (by omega) (by decide)), there_eq (by omega), nI_1]
    cases th : thr (μ.2.1 19) (k + 1) 20 with
    | false =>
      rw [th, if_neg (by decide)] at ih
      rw [bd_s, if_pos (show (zb false, μ).1 = 0 from rfl), Int32.or_zero]
      exact ih
    | true =>
      rw [th, if_pos rfl] at ih
      rw [bd_s, if_neg (show ¬ (zb true, μ).1 = 0 from (by decide : ¬ zb true = 0))]
      exact ih
theorem i_count (h : Inv g len st v ps cc td rc ρ μ) {w : Int32} : ∃ μ', m_count w μ = some (cntv len rc cc ρ v w, μ') ∧ μ'.1 0 = 0 ∧ Inv g len st v ps cc td rc ρ μ' := by
  have hF : ∃ F, ∀ x1 μ, m_count x1 μ = (if x1 < 100 then m_count_B (F + 50) 0 x1 0 0 0 0 (sI 0 0 μ) else (m_isRule (x1 - 100) (sI 0 0 μ)).bind (fun p16 => (if p16.1 = 0 then some ((-1), p16.2) else (if inb (x1 - 100) 20 = true then some (((p16.2.2.1 10) (x1 - 100).toNatClampNeg), p16.2) else none)))) := ⟨4046, fun x1 μ => by rw [m_count]⟩
  obtain ⟨F, eF⟩ := hF
  have h1 : Inv g len st v ps cc td rc ρ (sI 0 0 μ) := h.ke Ke.t
  obtain ⟨a1, a2, a3, a4, a5, a6⟩ := id h1
  have hc := a2.1
  refine ⟨sI 0 0 μ, ?_, sI_at, h1⟩
  rw [eF]
  by_cases c : w < 100
  · rw [if_pos c, show F + 50 = F + 50 - rc - 1 + rc + 1 by omega]
    refine (cnt_0 h1 (w := w) rc 0 (F + 50 - rc - 1) (by omega)).trans ?_
    rw [show F + 50 - rc - 1 = F + 50 - rc - 11 + 9 + 1 by omega]
    refine (cnt_1 (μ := sI 0 0 μ) (w := w) (x2 := fCnt (bB9 ρ true) rc) (x3 := fCnt (bB9 ρ false) rc) 9 0 (F + 50 - rc - 11) rfl).trans ?_
    rw [← dbits_rb a3 9 (by decide), a1.2.2.1, a2.2.1, a2.2.2.1, cntv]
    generalize dbits v 9 = LB
    by_cases w0 : w = 0
    · rw [if_pos w0, if_pos w0]
    · rw [if_neg w0, if_neg w0]
      by_cases w1 : w = 1
      · rw [if_pos w1, if_pos w1]
      · rw [if_neg w1, if_neg w1]
        by_cases w2 : w = 2
        · rw [if_pos w2, if_pos w2]
        · rw [if_neg w2, if_neg w2]
          by_cases w3 : w = 3
          · rw [if_pos w3, if_pos w3]
          · rw [if_neg w3, if_neg w3]
            by_cases w4 : w = 4
            · rw [if_pos w4, if_pos w4]
            · rw [if_neg w4, if_neg w4]
              by_cases w5 : w = 5
              · rw [if_pos w5, if_pos w5]
              · rw [if_neg w5, if_neg w5, if_pos c]
  · have nw : ∀ x : Int32, x < 100 → ¬ w = x := fun x hx e => c (by rw [e]; exact hx)
    rw [if_neg c, cntv, if_neg (nw 0 (by decide)), if_neg (nw 1 (by decide)), if_neg (nw 2 (by decide)), if_neg (nw 3 (by decide)), if_neg (nw 4 (by decide)), if_neg (nw 5 (by decide)), if_neg c]
    rcases isR_cases hc (w - 100) with ho | ⟨k, hk, e⟩
    · rw [isRule_n a2.2.1 ho]
      show (some ((-1 : Int32), sI 0 0 μ)) = _
      by_cases d : w - 100 < 0
      · rw [if_pos d]
      · rw [if_neg d, if_pos (ho.resolve_left d)]
    · obtain ⟨X, n, b1, b2, b3, b4, b5, b6, b7, b8⟩ := (a5.1 k hk).1
      rw [e, isRule_y a2.2.1 hk hc]
      show (if inb (nI k) 20 = true then some ((sI 0 0 μ).2.1 10 (nI k).toNatClampNeg, sI 0 0 μ) else none) = _
      rw [if_pos (inb_nI (by omega) (by decide)), nI_clamp (by omega), b8, if_neg (nI_pos (by omega)), if_neg (nI_nle2 hk (by omega))]
/-- check: a rule -/
theorem b01 (b : Bool) : vp_nar .boolean (zb b) = zb b := nar_b (zb01 b)
/-- the four flags of a rule are written -/
def wfl (k : Nat) (an bd mt : Bool) (lt : Int32) (μ : MS) : MS := sA 14 k lt (sA 15 k (zb mt) (sA 17 k (zb bd) (sA 16 k (zb an) μ)))
theorem wfl_k {k : Nat} {an bd mt : Bool} {lt : Int32} {μ : MS} : (wfl k an bd mt lt μ).1 = μ.1 ∧ (wfl k an bd mt lt μ).2.2 = μ.2.2 ∧ (∀ j, j ≠ 14 → j ≠ 15 → j ≠ 16 → j ≠ 17 → (wfl k an bd mt lt μ).2.1 j = μ.2.1 j) ∧ (wfl k an bd mt lt μ).2.1 14 = upd (μ.2.1 14) k lt ∧ (wfl k an bd mt lt μ).2.1 15 = upd (μ.2.1 15) k (zb mt) ∧ (wfl k an bd mt lt μ).2.1 16 = upd (μ.2.1 16) k (zb an) ∧ (wfl k an bd mt lt μ).2.1 17 = upd (μ.2.1 17) k (zb bd) := by
  refine ⟨rfl, rfl, fun j a b c d => ?_, ?_, ?_, ?_, ?_⟩
  · rw [wfl, sA_ne a, sA_ne b, sA_ne d, sA_ne c]
  · rw [wfl, sA_at, sA_ne (by decide), sA_ne (by decide), sA_ne (by decide)]
  · rw [wfl, sA_ne (by decide), sA_at, sA_ne (by decide), sA_ne (by decide)]
  · rw [wfl, sA_ne (by decide), sA_ne (by decide), sA_ne (by decide), sA_at]
  · rw [wfl, sA_ne (by decide), sA_ne (by decide), sA_at, sA_ne (by decide)]
/-- blocks 2 .. 10: fl says whether the rule is in force, x its answer -/
theorem ck_fl {k : Nat} {fl x : Int32} {an mt : Bool} {lt : Int32} {μ : MS} (hk : k < 20) (h16 : μ.2.1 16 k = zb an) (h15 : μ.2.1 15 k = zb mt) (h14 : μ.2.1 14 k = lt) : ∃ d, d ≤ 9 ∧ ∀ F, m_check_B (F + d) 2 (nI k) fl 0 x 0 μ = m_check_B F 0 (nI (k + 1)) 0 0 0 0 (wfl k (an && (decide (fl = 0) || decide (x = lt))) (!decide (fl = 0) && (!decide (x = 1) && !(an && (decide (fl = 0) || decide (x = lt))))) (mt || decide (x = 1)) (if fl = 0 then lt else x) μ) := by
  have i2 : inb (nI k) 20 = true := inb_nI hk (by decide)
  have c2 : (nI k).toNatClampNeg = k := nI_clamp (by omega)
  obtain ⟨a2, ha2⟩ : ∃ a2, (an && (decide (fl = 0) || decide (x = lt))) = a2 := ⟨_, rfl⟩
  obtain ⟨bd, hbd⟩ : ∃ bd, (!decide (fl = 0) && (!decide (x = 1) && !a2)) = bd := ⟨_, rfl⟩
  obtain ⟨m2, hm2⟩ : ∃ m2, (mt || decide (x = 1)) = m2 := ⟨_, rfl⟩
  rw [ha2, hbd, hm2]
  -- block 9 on
  have s9 : ∀ (μ1 : MS), μ1.2.1 14 k = lt → ∀ F, m_check_B (F + 2) 9 (nI k) fl x (nI k) (zb m2) μ1 = m_check_B F 0 (nI (k + 1)) 0 0 0 0 (sA 14 k (if fl = 0 then lt else x) (sA 15 k (zb m2) μ1)) := fun μ1 h F => by
    rw [m_check_b9, if_pos i2, c2, b01, h]
    by_cases c : fl = 0
    · rw [if_pos c, if_pos c, if_pos i2, m_check_b10, if_pos i2, c2, nI_1]
    · rw [if_neg c, if_neg c, m_check_b10, if_pos i2, c2, nI_1]
  -- block 7 on
  have s7 : ∀ (μ1 : MS), μ1.2.1 14 k = lt → μ1.2.1 15 k = zb mt → ∃ d, d ≤ 4 ∧ ∀ F, m_check_B (F + d) 7 (nI k) fl x (nI k) (zb bd) μ1 = m_check_B F 0 (nI (k + 1)) 0 0 0 0 (sA 14 k (if fl = 0 then lt else x) (sA 15 k (zb m2) (sA 17 k (zb bd) μ1))) := fun μ1 h h5 => by
    have r14 : (sA 17 k (zb bd) μ1).2.1 14 k = lt := by rw [sA_ne (by decide)]; exact h
    cases hmt : mt with
    | true =>
      have e : m2 = true := by rw [← hm2, hmt, Bool.true_or]
      refine ⟨4, by decide, fun F => ?_⟩
      rw [m_check_b7, if_pos i2, if_pos i2, c2, h5, hmt, if_neg (show ¬ zb true = 0 by decide), b01, m_check_b8]
      have := s9 (sA 17 k (zb bd) μ1) r14 F
      rw [e] at this ⊢
      exact this
    | false =>
      by_cases c : x = 1
      · have e : m2 = true := by rw [← hm2, decide_eq_true c, Bool.or_true]
        refine ⟨4, by decide, fun F => ?_⟩
        rw [m_check_b7, if_pos i2, if_pos i2, c2, h5, hmt, if_pos (show zb false = 0 from rfl), if_pos c, b01, m_check_b8]
        have := s9 (sA 17 k (zb bd) μ1) r14 F
        rw [e] at this ⊢
        exact this
      · have e : m2 = false := by rw [← hm2, hmt, decide_eq_false c, Bool.or_false]
        refine ⟨3, by decide, fun F => ?_⟩
        rw [m_check_b7, if_pos i2, if_pos i2, c2, h5, hmt, if_pos (show zb false = 0 from rfl), if_neg c, b01]
        have := s9 (sA 17 k (zb bd) μ1) r14 F
        rw [e] at this ⊢
        exact this
  -- block 5 on
  have s5 : ∃ d, d ≤ 6 ∧ ∀ F, m_check_B (F + d) 5 (nI k) fl x (nI k) (zb a2) μ = m_check_B F 0 (nI (k + 1)) 0 0 0 0 (wfl k a2 bd m2 (if fl = 0 then lt else x) μ) := by
    have r14 : (sA 16 k (zb a2) μ).2.1 14 k = lt := by rw [sA_ne (by decide)]; exact h14
    have r15 : (sA 16 k (zb a2) μ).2.1 15 k = zb mt := by rw [sA_ne (by decide)]; exact h15
    have r16 : (sA 16 k (zb a2) μ).2.1 16 k = zb a2 := by rw [sA_at, upd_at]
    obtain ⟨d, hd, r⟩ := s7 (sA 16 k (zb a2) μ) r14 r15
    have s6 : bd = false → ∀ F, m_check_B (F + d + 1) 6 (nI k) fl x (nI k) 0 (sA 16 k (zb a2) μ) = m_check_B F 0 (nI (k + 1)) 0 0 0 0 (wfl k a2 bd m2 (if fl = 0 then lt else x) μ) := fun e F => by
      rw [m_check_b6]
      have := r F
      rw [e] at this ⊢
      exact this
    by_cases c : fl = 0
    · have e : bd = false := by rw [← hbd, decide_eq_true c]; rfl
      refine ⟨d + 2, by omega, fun F => ?_⟩
      rw [show F + (d + 2) = F + d + 1 + 1 by omega, m_check_b5, if_pos i2, c2, if_pos c, b01]
      exact s6 e F
    · by_cases c1 : x = 1
      · have e : bd = false := by rw [← hbd, decide_eq_true c1, Bool.not_true, Bool.false_and, Bool.and_false]
        refine ⟨d + 2, by omega, fun F => ?_⟩
        rw [show F + (d + 2) = F + d + 1 + 1 by omega, m_check_b5, if_pos i2, c2, if_neg c, if_pos c1, b01]
        exact s6 e F
      · cases h2 : a2 with
        | true =>
          have e : bd = false := by rw [← hbd, h2, Bool.not_true, Bool.and_false, Bool.and_false]
          refine ⟨d + 2, by omega, fun F => ?_⟩
          rw [show F + (d + 2) = F + d + 1 + 1 by omega, m_check_b5, if_pos i2, c2, if_neg c, if_neg c1, if_pos i2, b01, ← h2, r16, h2, if_neg (show ¬ zb true = 0 by decide), ← h2]
          exact s6 e F
        | false =>
          have e : bd = true := by rw [← hbd, h2, decide_eq_false c, decide_eq_false c1]; rfl
          refine ⟨d + 1, by omega, fun F => ?_⟩
          rw [show F + (d + 1) = F + d + 1 by omega, m_check_b5, if_pos i2, c2, if_neg c, if_neg c1, if_pos i2, b01, ← h2, r16, h2, if_pos (show zb false = 0 from rfl), ← h2]
          have := r F
          rw [e] at this ⊢
          exact this
  obtain ⟨d, hd, r⟩ := s5
  cases han : an with
  | false =>
    have e : a2 = false := by rw [← ha2, han, Bool.false_and]
    refine ⟨d + 2, by omega, fun F => ?_⟩
    rw [show F + (d + 2) = F + d + 1 + 1 by omega, m_check_b2, if_pos i2, c2, h16, han, if_pos (show zb false = 0 from rfl), m_check_b4]
    have := r F
    rw [e] at this ⊢
    exact this
  | true =>
    by_cases c : fl = 0
    · have e : a2 = true := by rw [← ha2, han, decide_eq_true c]; rfl
      refine ⟨d + 2, by omega, fun F => ?_⟩
      rw [show F + (d + 2) = F + d + 1 + 1 by omega, m_check_b2, if_pos i2, c2, h16, han, if_neg (show ¬ zb true = 0 by decide), if_pos c, m_check_b3]
      have := r F
      rw [e] at this ⊢
      exact this
    · by_cases c1 : x = lt
      · have e : a2 = true := by rw [← ha2, han, decide_eq_true c1, Bool.or_true]; rfl
        refine ⟨d + 2, by omega, fun F => ?_⟩
        rw [show F + (d + 2) = F + d + 1 + 1 by omega, m_check_b2, if_pos i2, c2, h16, han, if_neg (show ¬ zb true = 0 by decide), if_neg c, h14, if_pos c1, m_check_b3]
        have := r F
        rw [e] at this ⊢
        exact this
      · have e : a2 = false := by rw [← ha2, decide_eq_false c, decide_eq_false c1]; cases an <;> rfl
        refine ⟨d + 2, by omega, fun F => ?_⟩
        rw [show F + (d + 2) = F + d + 1 + 1 by omega, m_check_b2, if_pos i2, c2, h16, han, if_neg (show ¬ zb true = 0 by decide), if_neg c, h14, if_neg c1, m_check_b4]
        have := r F
        rw [e] at this ⊢
        exact this
theorem ck_1 (h : Inv g len st v ps cc td rc ρ μ) {k : Nat} (hk : k < rc) (lb : Int32) (G : Nat → Int32) : ∃ d μ', d ≤ 12 ∧ (∀ F, m_check_B (F + d) 0 (nI k) 0 0 0 0 μ = m_check_B F 0 (nI (k + 1)) 0 0 0 0 μ') ∧ μ'.1 0 = μ.1 0 ∧ Inv g len st v ps cc td rc (va_up ρ k (ck1 v td lb G (ρ k)).2.2) μ' := by
  obtain ⟨a1, a2, a3, a4, a5, a6⟩ := id h
  obtain ⟨f1, f2, f3, f4, f5, f6, f7, f8⟩ := (a5.1 k hk).2
  have i2 : inb (nI k) 20 = true := inb_nI (by omega) (by decide)
  have c2 : (nI k).toNatClampNeg = k := nI_clamp (by omega)
  -- the tie behind the flags
  have fin : ∀ (μ1 : MS) (an bd mt : Bool) (lt : Int32), WkG μ μ1 → (lt = -1 ∨ tri lt) → Inv g len st v ps cc td rc (va_up ρ k ((ρ k).1, rG (ρ k), rH (ρ k), rD (ρ k), lt, mt, an, bd)) (wfl k an bd mt lt μ1) := by
    intro μ1 an bd mt lt hw hl
    obtain ⟨w1, w2, w3, w14, w15, w16, w17⟩ := wfl_k (k := k) (an := an) (bd := bd) (mt := mt) (lt := lt) (μ := μ1)
    have h1 : Inv g len st v ps cc td rc ρ μ1 := h.ke (wk_ke hw)
    refine h1.of5 (fun j _ => by rw [w1]) (fun j hj => w3 j (by omega) (by omega) (by omega) (by omega)) (h1.2.2.2.2.1.fl hk a2.1 rfl (fun j p q => w3 j (by omega) (by omega) (by omega) (by omega)) (fun j i p q hi => ?_) ?_)
    · by_cases e4 : j = 14
      · subst e4; rw [w14, upd_ne hi]
      · by_cases e5 : j = 15
        · subst e5; rw [w15, upd_ne hi]
        · by_cases e6 : j = 16
          · subst e6; rw [w16, upd_ne hi]
          · by_cases e7 : j = 17
            · subst e7; rw [w17, upd_ne hi]
            · rw [w3 j e4 e5 e6 e7]
    · obtain ⟨g1, g2, g3, -⟩ := (h1.2.2.2.2.1.1 k hk).2
      refine ⟨?_, ?_, ?_, ?_, ?_, ?_, ?_, hl⟩
      · rw [w3 11 (by decide) (by decide) (by decide) (by decide)]; exact g1
      · rw [w3 12 (by decide) (by decide) (by decide) (by decide)]; exact g2
      · rw [w3 13 (by decide) (by decide) (by decide) (by decide)]; exact g3
      · rw [w14, upd_at]
      · rw [w15, upd_at]
      · rw [w16, upd_at]
      · rw [w17, upd_at]
  by_cases c : rD (ρ k) ≤ td
  · obtain ⟨μ1, s1, s2, s3⟩ := work_in h hk G
    have g16 : μ1.2.1 16 k = zb (rA (ρ k)) := by rw [s2.2 16 (by decide) (by decide)]; exact f6
    have g15 : μ1.2.1 15 k = zb (rM (ρ k)) := by rw [s2.2 15 (by decide) (by decide)]; exact f5
    have g14 : μ1.2.1 14 k = rL (ρ k) := by rw [s2.2 14 (by decide) (by decide)]; exact f4
    obtain ⟨y, hy⟩ : ∃ y, wOut v G (ρ k).1 0 = y := ⟨_, rfl⟩
    obtain ⟨d, d1, d2⟩ := ck_fl (fl := 1) (x := y) (show k < 20 by omega) g16 g15 g14
    have hck : (ck1 v td lb G (ρ k)).2.2 = ((ρ k).1, rG (ρ k), rH (ρ k), rD (ρ k), y, ruM (rM (ρ k)) y, ruA (rL (ρ k)) (rA (ρ k)) y, ruF (rL (ρ k)) (rA (ρ k)) y) := by
      rw [ck1, if_pos c, ← hy]
    have ea : (rA (ρ k) && (decide ((1 : Int32) = 0) || decide (y = rL (ρ k)))) = ruA (rL (ρ k)) (rA (ρ k)) y := by
      rw [ruA, decide_eq_false (show ¬ (1 : Int32) = 0 by decide), Bool.false_or]
      by_cases q : y = rL (ρ k)
      · rw [if_pos q, decide_eq_true q, Bool.and_true]
      · rw [if_neg q, decide_eq_false q, Bool.and_false]
    have ef : (!decide ((1 : Int32) = 0) && (!decide (y = 1) && !ruA (rL (ρ k)) (rA (ρ k)) y)) = ruF (rL (ρ k)) (rA (ρ k)) y := by
      rw [ruF, decide_eq_false (show ¬ (1 : Int32) = 0 by decide), Bool.not_false, Bool.true_and]
      by_cases q : y = 1
      · rw [if_pos q, decide_eq_true q]; rfl
      · rw [if_neg q, decide_eq_false q]; rfl
    have em : (rM (ρ k) || decide (y = 1)) = ruM (rM (ρ k)) y := by
      rw [ruM]
      by_cases q : y = 1
      · rw [if_pos q, decide_eq_true q, Bool.or_true]
      · rw [if_neg q, decide_eq_false q, Bool.or_false]
    rw [ea, ef, em, if_neg (by decide)] at d2
    refine ⟨d + 2, wfl k (ruA (rL (ρ k)) (rA (ρ k)) y) (ruF (rL (ρ k)) (rA (ρ k)) y) (ruM (rM (ρ k)) y) y μ1, by omega, fun F => ?_, ?_, ?_⟩
    · rw [show F + (d + 2) = F + d + 1 + 1 by omega, m_check_b0, a2.2.1, if_neg (nI_nle2 hk (by omega)), if_pos i2, c2, a2.2.2.2, f3, if_neg (Int32.not_lt.mpr c), m_check_b1, if_neg (by decide), s1, hy]
      exact d2 F
    · rw [wfl_k.1, s2.1]
    · rw [hck]
      exact fin μ1 _ _ _ _ s2 (Or.inr (by rw [← hy]; exact s3))
  · obtain ⟨d, d1, d2⟩ := ck_fl (fl := 0) (x := -1) (show k < 20 by omega) f6 f5 f4
    have hck : (ck1 v td lb G (ρ k)).2.2 = ((ρ k).1, rG (ρ k), rH (ρ k), rD (ρ k), rL (ρ k), rM (ρ k), rA (ρ k), false) := by
      rw [ck1, if_neg c]
    rw [decide_eq_true (show (0 : Int32) = 0 from rfl), Bool.true_or, Bool.and_true, Bool.not_true, Bool.false_and, decide_eq_false (show ¬ (-1 : Int32) = 1 by decide), Bool.or_false, if_pos rfl] at d2
    refine ⟨d + 2, wfl k (rA (ρ k)) false (rM (ρ k)) (rL (ρ k)) μ, by omega, fun F => ?_, ?_, ?_⟩
    · rw [show F + (d + 2) = F + d + 1 + 1 by omega, m_check_b0, a2.2.1, if_neg (nI_nle2 hk (by omega)), if_pos i2, c2, a2.2.2.2, f3, if_pos (Int32.not_le.mp c), m_check_b1, if_pos rfl]
      exact d2 F
    · rw [wfl_k.1]
    · rw [hck]
      exact fin μ _ _ _ _ ⟨rfl, fun _ _ _ => rfl⟩ f8
theorem ck_out {lb : Int32} {G : Nat → Int32} : ∀ (n k F : Nat) (μ : MS), k + n = rc → 12 * n + 1 ≤ F → Inv g len st v ps cc td rc (ckS v td lb G ρ k).2.2 μ → ∃ μ', m_check_B F 0 (nI k) 0 0 0 0 μ = some (fOut (bBad (ckS v td lb G ρ rc).2.2 true) rc 10 0 0, μ') ∧ μ'.1 0 = μ.1 0 ∧ Inv g len st v ps cc td rc (ckS v td lb G ρ rc).2.2 μ'
  | 0, k, F, μ, hk, hF, h => by
    have : k = rc := by omega
    subst this
    obtain ⟨F, rfl⟩ : ∃ F', F = F' + 1 := ⟨F - 1, by omega⟩
    refine ⟨μ, ?_, rfl, h⟩
    have hb := badAt_eq (i0 := 0) (hd := true) h
    rw [m_check_b0, h.2.1.2.1, if_pos (Int32.le_refl _)]
    show (m_badAt 0 (zb true) μ).bind _ = _
    rw [hb]
    rfl
  | n + 1, k, F, μ, hk, hF, h => by
    obtain ⟨d, μ1, d1, d2, d3, d4⟩ := ck_1 h (show k < rc by omega) (ckS v td lb G ρ k).1 (ckS v td lb G ρ k).2.1
    obtain ⟨F, rfl⟩ : ∃ F', F = F' + d := ⟨F - d, by omega⟩
    obtain ⟨μ', s1, s2, s3⟩ := ck_out (lb := lb) (G := G) n (k + 1) F μ1 (by omega) (by omega) d4
    exact ⟨μ', (d2 F).trans s1, s2.trans d3, s3⟩
theorem i_check (h : Inv g len st v ps cc td rc ρ μ) (lb : Int32) (G : Nat → Int32) : ∃ μ', m_check μ = some (fOut (bBad (ckS v td lb G ρ rc).2.2 true) rc 10 0 0, μ') ∧ μ'.1 0 = 0 ∧ Inv g len st v ps (cc + 1) td rc (ckS v td lb G ρ rc).2.2 μ' := by
  have hF : ∃ F, 300 ≤ F ∧ ∀ μ, m_check μ = m_check_B F 0 0 0 0 0 0 (sI 4 ((μ.1 4) + 1) (sI 0 0 μ)) := ⟨4096, by decide, fun μ => by rw [m_check]⟩
  obtain ⟨F, hF, eF⟩ := hF
  obtain ⟨a1, a2, a3, a4, a5, a6⟩ := id h
  have h1 : Inv g len st v ps (cc + 1) td rc ρ (sI 4 (μ.1 4 + 1) (sI 0 0 μ)) := by
    refine ⟨a1.ke rfl (by rw [sI_ne (by decide), sI_ne (by decide)]), ⟨a2.1, ?_, by rw [sI_at, a2.2.2.1], ?_⟩, a3, a4.ke rfl (by rw [sI_ne (by decide), sI_ne (by decide)]), a5.ke (fun _ _ _ => rfl), a6⟩
    · rw [sI_ne (by decide), sI_ne (by decide)]; exact a2.2.1
    · rw [sI_ne (by decide), sI_ne (by decide)]; exact a2.2.2.2
  obtain ⟨μ', s1, s2, s3⟩ := ck_out (lb := lb) (G := G) (ρ := ρ) rc 0 F _ (by omega) (by omega) h1
  exact ⟨μ', by rw [eF]; exact s1, by rw [s2, sI_ne (by decide), sI_at], s3⟩
/-- what is printed has no -1 in it -/
theorem pNumT_el {w : Int32} : ∀ t x, x ∈ pNumT w t → ∃ i, i < t ∧ x = dg w i
  | 0, x, h => absurd h List.not_mem_nil
  | t + 1, x, h => by
    rw [pNumT] at h
    rcases List.mem_append.mp h with h | h
    · obtain ⟨i, a, b⟩ := pNumT_el t x h
      exact ⟨i, by omega, b⟩
    · by_cases c : uN t ≤ w ∨ uN t = 1
      · rw [if_pos c] at h
        exact ⟨t, by omega, List.mem_singleton.mp h⟩
      · rw [if_neg c] at h
        exact absurd h List.not_mem_nil
theorem pNum_ne {m : Nat} (hm : m < 10 ^ 7) {x : Int32} (h : x ∈ pNum (nI m)) : ¬ x = -1 := by
  obtain ⟨i, hi, e⟩ := pNumT_el 7 x h
  have h1 : 10 ^ (6 - i) ≤ 10 ^ 6 := Nat.pow_le_pow_right (by decide) (by omega)
  have hq : m / 10 ^ (6 - i) ≤ m := Nat.div_le_self _ _
  rw [e, dg, uN_w i hi, nI_div (by omega) (by omega), show (10 : Int32) = nI 10 from rfl, nI_div (by omega) (by omega), nI_mul, nI_subN (Nat.div_mul_le_self _ _), show (48 : Int32) = nI 48 from rfl, nI_add]
  exact nI_m1 (by omega)
theorem pTerm_ne {kd w x : Int32} (h : lf kd w) (hx : x ∈ pTerm kd w) : ¬ x = -1 := by
  obtain ⟨m, hm, e⟩ : ∃ m, m < 10 ^ 7 ∧ w = nI m := by
    rcases h with ⟨-, v1, v2⟩ | ⟨-, v1, v2⟩
    · obtain ⟨m, hm, e⟩ := nI_of v1
      refine ⟨m, ?_, e⟩
      rw [e] at v2
      rcases Nat.lt_or_ge m (10 ^ 7) with z | z
      · exact z
      · exact absurd v2 (nI_nle2 (a := m) (b := 9999999) (by omega) hm)
    · obtain ⟨m, hm, e⟩ := nI_of v1
      refine ⟨m, ?_, e⟩
      rw [e] at v2
      rcases Nat.lt_or_ge m 20 with z | z
      · omega
      · exact absurd v2 (nI_nlt (b := 20) z hm)
  subst e
  have l12 : ∀ y ∈ zSb 12, ¬ y = -1 := by decide
  have l13 : ∀ y ∈ zSb 13, ¬ y = -1 := by decide
  rw [pTerm] at hx
  rcases List.mem_append.mp hx with hx | hx
  · by_cases c : kd = 13
    · rw [if_pos c] at hx; exact l12 x hx
    · rw [if_neg c] at hx; exact absurd hx List.not_mem_nil
  · rcases List.mem_append.mp hx with hx | hx
    · by_cases c : kd = 14
      · rw [if_pos c] at hx; exact l13 x hx
      · rw [if_neg c] at hx; exact absurd hx List.not_mem_nil
    · rcases List.mem_append.mp hx with hx | hx
      · by_cases c : kd = 11
        · rw [if_pos c] at hx; exact absurd hx List.not_mem_nil
        · rw [if_neg c] at hx
          rw [List.mem_singleton.mp hx]; decide
      · exact pNum_ne hm hx
theorem wrap_ne {w : Bool} {l : List Int32} (h : ∀ x ∈ l, ¬ x = -1) : ∀ x ∈ wrap w l, ¬ x = -1 := by
  intro x hx
  cases w with
  | false => exact h x hx
  | true =>
    rcases List.mem_append.mp (show x ∈ [40] ++ (l ++ [41]) from hx) with q | q
    · rw [List.mem_singleton.mp q]; decide
    · rcases List.mem_append.mp q with q | q
      · exact h x q
      · rw [List.mem_singleton.mp q]; decide
theorem txt_ne {X : LQ} {u : Nat} (hu : u ≤ 40) : ∀ (n : Nat) (ty : Bool) (a b m : Nat), tr X n ty a b → b ≤ u → b - a ≤ m → ∀ x ∈ pTxt (LQ.K X) (LQ.V X) (LQ.R X) u m (nI a), ¬ x = -1
  | 0, _, _, _, _, h, _, _ => h.elim
  | n + 1, ty, a, b, m, h, hb, hm => by
    have hnode := tr_node h
    obtain ⟨h1, h2, h3, -, h5⟩ := h
    obtain ⟨m, rfl⟩ : ∃ m', m = m' + 1 := ⟨m - 1, by omega⟩
    intro x hx
    rcases h5 with ⟨q1, q2, q3, q4, q5⟩ | ⟨q1, q2, q3, q4, q5⟩ | ⟨q1, c, q2, q3, q4, q5, q6, q7⟩
    · rw [txt_lf hu (by omega) q1] at hx
      exact pTerm_ne q1 hx
    · have l := tr_lt q5
      rw [txt_un hu (by omega) q1 q2 (k_lt2 (hnode (a + 1) (by omega) l))] at hx
      rcases List.mem_append.mp hx with hx | hx
      · have p2 : ∀ y ∈ ([33] : List Int32), ¬ y = -1 := by decide
        have p3 : ∀ y ∈ ([97, 108, 108] : List Int32), ¬ y = -1 := by decide
        have p4 : ∀ y ∈ ([97, 110, 121] : List Int32), ¬ y = -1 := by decide
        rcases q1 with z | z | z
        · rw [z, pre, if_pos rfl] at hx; exact p2 x hx
        · rw [z, pre, if_neg (by decide), if_pos rfl] at hx; exact p3 x hx
        · rw [z, pre, if_neg (by decide), if_neg (by decide), if_pos rfl] at hx; exact p4 x hx
      · exact wrap_ne (txt_ne hu n true (a + 1) b m q5 hb (by omega)) x hx
    · have l := tr_lt q5
      have l2 := tr_lt q6
      rw [txt_bi hu l (by omega) q1 q2] at hx
      rcases List.mem_append.mp hx with hx | hx
      · exact wrap_ne (txt_ne hu n _ (a + 1) c m q5 (by omega) (by omega)) x hx
      · rcases List.mem_append.mp hx with hx | hx
        · rw [List.mem_singleton.mp hx]
          rcases q1 with z | z | z | z | z | z | z | z <;> rw [z] <;> decide
        · exact wrap_ne (txt_ne hu n _ c b m q6 hb (by omega)) x hx
theorem pPut_ne : ∀ (l : List Int32) (f : Nat → Int32) (q : Nat), (∀ x ∈ l, ¬ x = -1) → (∀ i, i < q → ¬ f i = -1) → q + l.length ≤ 200 → ∀ i, i < q + l.length → ¬ (pPut l (f, q)).1 i = -1
  | [], f, q, _, h, _, i, hi => h i hi
  | x :: l, f, q, hx, h, hq, i, hi => by
    have hl : (x :: l).length = l.length + 1 := List.length_cons
    have e : pPut (x :: l) (f, q) = pPut l (upd f q x, q + 1) := by
      show pPut l (pAdd (f, q) x) = _
      rw [pAdd, if_pos (show q < 200 by omega)]
    rw [e]
    refine pPut_ne l _ (q + 1) (fun y hy => hx y (List.mem_cons_of_mem _ hy)) (fun i hi => ?_) (by omega) i (by omega)
    by_cases c : i = q
    · rw [c, upd_at]; exact hx x List.mem_cons_self
    · rw [upd_ne c]; exact h i (by omega)
/-- print -/
theorem i_print_y (h : Inv g len st v ps cc td rc ρ μ) {k : Nat} (hk : k < rc) : ∃ μ', m_print (nI k) μ = some (nI (pPut (pTxt (ρ k).1.1 (ρ k).1.2.1 (ρ k).1.2.2.1 (ρ k).1.2.2.2 40 0) (ps.1, 0)).2, μ') ∧ μ'.1 0 = 0 ∧ Inv g len st v (pPut (pTxt (ρ k).1.1 (ρ k).1.2.1 (ρ k).1.2.2.1 (ρ k).1.2.2.2 40 0) (ps.1, 0)) cc td rc ρ μ' := by
  obtain ⟨a1, a2, a3, a4, a5, a6⟩ := id h
  obtain ⟨X, n, b1, b2, b3, b4, b5, b6, b7, b8⟩ := (a5.1 k hk).1
  obtain ⟨T, μ', t1, t2, t3, t4, t5, t6, t7, t8, t9⟩ := print_eq a2.1 hk a2.2.1 b5 b4 b7 (by rw [b1, b2]; exact b6)
  have tn : ∀ x ∈ T, ¬ x = -1 := by
    rw [t1]
    exact txt_ne b5 n true 0 _ 40 b4 (Nat.le_refl _) (by omega)
  rw [b1, b2, b3] at t1
  rw [← t1]
  have e2 : (pPut T (ps.1, 0)).2 = T.length := by rw [pPut_2 T ps.1 0 (by omega), Nat.zero_add]
  rw [e2]
  refine ⟨μ', t3, t4, a1.ke (t7 1 (by decide) (by decide)) (t6 2 (by decide) (by decide)), ⟨a2.1, ?_, ?_, ?_⟩, ?_, ⟨by rw [e2]; exact t2, by rw [e2]; exact t5, fun i hi => ?_⟩, a5.ke (fun j p q => t7 j (by omega) (by omega)), a6⟩
  · rw [t6 3 (by decide) (by decide)]; exact a2.2.1
  · rw [t6 4 (by decide) (by decide)]; exact a2.2.2.1
  · rw [t6 5 (by decide) (by decide)]; exact a2.2.2.2
  · rw [t7 19 (by decide) (by decide), t7 18 (by decide) (by decide)]; exact a3
  · rw [e2] at hi
    refine ⟨?_, pPut_ne T ps.1 0 tn (fun i hi => absurd hi (by omega)) (by omega) i (by omega)⟩
    rw [t9]
    exact pPut_ag T _ _ 0 (fun i hi => absurd hi (by omega)) (by omega) i (by omega)
theorem i_print_n (h : Inv g len st v ps cc td rc ρ μ) {i : Int32} (ho : i < 0 ∨ nI rc ≤ i) : ∃ μ', m_print i μ = some (0, μ') ∧ μ'.1 0 = 1 ∧ Inv g len st v ps cc td rc ρ μ' := by
  refine ⟨sI 0 1 μ, ?_, sI_at, h.ke Ke.t⟩
  rw [m_print, isRule_n h.2.1.2.1 ho]
  rfl
/-- rule -/
theorem i_rule_t (h : Inv g len st v ps cc td rc ρ μ) (hc : rc = 20) : ∃ μ', m_rule μ = some (0, μ') ∧ μ'.1 0 = 1 ∧ Inv g len st v ps cc td rc ρ μ' := by
  refine ⟨sI 0 1 μ, ?_, sI_at, h.ke Ke.t⟩
  rw [m_rule, h.2.1.2.1, hc, if_pos (show nI 20 = 20 from rfl)]
theorem bText_uk {g : Nat → Int32} {len : Nat} {st : RSt} : uok (bText g len st).2 := by
  obtain ⟨n, -, e⟩ := bText_0 (g := g) (len := len) (st := st)
  rw [e]
  exact bRun_u n (show (0 : Nat) ≤ 40 by decide)
theorem i_rule (h : Inv g len st v ps cc td rc ρ μ) (hc : rc < 20) {bt : Int32 × RSt} (hbt : bText g len st = bt) : (bt.1 = -1 → ∃ μ', m_rule μ = some (nI rc, μ') ∧ μ'.1 0 = 0 ∧ Inv g 0 bt.2 v ps cc td (rc + 1) (va_up ρ rc (bt.2.2.1, 0, true, 0, -1, false, false, false)) μ') ∧ (¬ bt.1 = -1 → ∃ μ', m_rule μ = some (-1 - bt.1, μ') ∧ μ'.1 0 = 0 ∧ Inv g 0 bt.2 v ps cc td rc ρ μ') := by
  obtain ⟨a1, a2, a3, a4, a5, a6⟩ := id h
  have hu := bText_uk (g := g) (len := len) (st := st)
  rw [hbt] at hu
  have n20 : ¬ μ.1 3 = 20 := by rw [a2.2.1]; exact nIl (c := 20) (by omega) (by omega) (by decide)
  have rt := read_top (st := st) (μ := sI 0 0 μ) a1.1 a1.2.2.2 a1.2.1 (by rw [sI_ne (by decide)]; exact a1.2.2.1)
  rw [hbt] at rt
  rcases rt with ⟨w, x, μ', r1, r2, r3, r4⟩ | ⟨μ', st', π, u, n, r1, r2, r3, r4, r5, r6, r7, r8⟩
  · have nb : ¬ bt.1 = -1 := by rw [r4]; exact nI_m1 (by omega)
    refine ⟨fun z => absurd z nb, fun _ => ?_⟩
    have fr := read_fr (sI 0 0 μ) (x, μ') r1
    have fr : Fr (sI 0 0 μ) μ' := fr
    refine ⟨sI 2 0 μ', ?_, ?_, ⟨by decide, ?_, sI_at, fun j hj => absurd hj (by omega)⟩, ⟨a2.1, ?_, ?_, ?_⟩, ?_, a4.ke ?_ ?_, a5.ke (fun j p q => ?_), hu⟩
    · rw [m_rule, if_neg n20, r1]
      show (if μ'.1 27 < 0 then _ else some (-1 - μ'.1 27, sI 2 0 μ')) = _
      rw [r3, if_neg (nI_pos (by omega)), r4]
    · rw [sI_ne (by decide), fr.1 0 (Or.inl (by decide)), sI_at]
    · rw [sI_2, fr.2.1 1 (Or.inl (by decide)), sI_2]; exact a1.2.1
    · rw [sI_ne (by decide), fr.1 3 (Or.inl (by decide)), sI_ne (by decide)]; exact a2.2.1
    · rw [sI_ne (by decide), fr.1 4 (Or.inl (by decide)), sI_ne (by decide)]; exact a2.2.2.1
    · rw [sI_ne (by decide), fr.1 5 (Or.inl (by decide)), sI_ne (by decide)]; exact a2.2.2.2
    · rw [sI_2, sI_2, fr.2.1 19 (Or.inl (by decide)), fr.2.1 18 (Or.inl (by decide))]; exact a3
    · rw [sI_2, fr.2.1 35 (Or.inr (by decide)), sI_2]
    · rw [sI_ne (by decide), fr.1 36 (Or.inr (by decide)), sI_ne (by decide)]
    · rw [sI_2, fr.2.1 j (Or.inl (by omega)), sI_2]
  · subst r3
    refine ⟨fun _ => ?_, fun z => absurd rfl z⟩
    have fr := read_fr (sI 0 0 μ) (nI (π 0), μ') r1
    have fr : Fr (sI 0 0 μ) μ' := fr
    have q3 : (sI 2 0 μ').1 3 = nI rc := by rw [sI_ne (by decide), fr.1 3 (Or.inl (by decide)), sI_ne (by decide)]; exact a2.2.1
    obtain ⟨μ2, s1, s2, s3, s4, s5, s6, s7⟩ := number_eq (X := lqX st'.2.1 π μ') (μ := sI 2 0 μ') hc r7 r5 (fun j hj => by
      have := r6.1 j hj
      show π j < 40
      omega) ⟨rfl, rfl, rfl, rfl⟩
    have rw1 : ∀ j, j < 20 → j < 6 ∨ 10 < j → μ2.2.1 j = μ.2.1 j := fun j hj hn => by
      rw [s4 j (by omega) (by omega) (by omega) (by omega) (by omega) (by omega), sI_2, fr.2.1 j (Or.inl hj), sI_2]
    have rw2 : ∀ j, j = 2 ∨ j < 2 ∨ 2 < j ∧ j < 24 ∨ 30 < j → j ≠ 0 → j ≠ 2 → μ2.1 j = μ.1 j := fun j hj h0 h2 => by
      rw [s2, sI_ne h2, fr.1 j (by omega), sI_ne h0]
    have lo : ∀ r j, r < rc → j < 40 → μ2.2.1 6 (40 * r + j) = μ.2.1 6 (40 * r + j) ∧ μ2.2.1 7 (40 * r + j) = μ.2.1 7 (40 * r + j) ∧ μ2.2.1 8 (40 * r + j) = μ.2.1 8 (40 * r + j) ∧ μ2.2.1 9 (40 * r + j) = μ.2.1 9 (40 * r + j) := fun r j hr hj => by
      obtain ⟨z6, z7, z8, z9⟩ := s7 (40 * r + j) (by omega)
      rw [z6, z7, z8, z9, sI_2, sI_2, sI_2, sI_2, fr.2.1 6 (Or.inl (by decide)), fr.2.1 7 (Or.inl (by decide)), fr.2.1 8 (Or.inl (by decide)), fr.2.1 9 (Or.inl (by decide))]
      exact ⟨rfl, rfl, rfl, rfl⟩
    have h10 : μ2.2.1 10 = upd (μ.2.1 10) rc (nI u) := by
      rw [s5, sI_2, fr.2.1 10 (Or.inl (by decide))]
      rfl
    -- the last writes
    obtain ⟨μ3, hμ3⟩ : ∃ μ3, μ3 = sI 3 (nI (rc + 1)) (sA 14 rc (-1) (sA 12 rc 1 μ2)) := ⟨_, rfl⟩
    have w3 : ∀ j, j ≠ 12 → j ≠ 14 → μ3.2.1 j = μ2.2.1 j := fun j p q => by rw [hμ3, sI_2, sA_ne q, sA_ne p]
    have w12 : μ3.2.1 12 = upd (μ2.2.1 12) rc 1 := by rw [hμ3, sI_2, sA_ne (by decide), sA_at]
    have w14 : μ3.2.1 14 = upd (μ2.2.1 14) rc (-1) := by rw [hμ3, sI_2, sA_at, sA_ne (by decide)]
    have w1 : ∀ j, j ≠ 3 → μ3.1 j = μ2.1 j := fun j p => by rw [hμ3, sI_ne p, sA_1, sA_1]
    refine ⟨μ3, ?_, ?_, ⟨by decide, ?_, ?_, fun j hj => absurd hj (by omega)⟩, ⟨by omega, ?_, ?_, ?_⟩, ?_, a4.ke ?_ ?_, ⟨fun r hr => ?_, fun r p q => ?_⟩, hu⟩
    · rw [m_rule, if_neg n20, r1]
      show (if μ'.1 27 < 0 then (m_number (μ'.1 3) (nI (π 0)) (sI 2 0 μ')).bind _ else _) = _
      have q3' : μ'.1 3 = nI rc := by rw [← q3, sI_ne (by decide)]
      rw [r2, if_pos (by decide), q3']
      have s1' : m_number (nI rc) (nI (π 0)) (sI 2 0 μ') = some μ2 := s1
      rw [s1']
      show (if inb (μ2.1 3) 20 = true then some (μ2.1 3 + 1 - 1, sI 3 (μ2.1 3 + 1) (sA 14 (μ2.1 3).toNatClampNeg (-1) (sA 12 (μ2.1 3).toNatClampNeg (vp_nar .boolean 1) μ2))) else none) = _
      have q32 : μ2.1 3 = nI rc := by rw [s2]; exact q3
      rw [q32, if_pos (inb_nI hc (by decide)), nI_clamp (by omega), nI_1, nI_pred, hμ3]
      rfl
    · rw [w1 0 (by decide), s2, sI_ne (by decide), fr.1 0 (Or.inl (by decide)), sI_at]
    · rw [w3 1 (by decide) (by decide), rw1 1 (by decide) (Or.inl (by decide))]; exact a1.2.1
    · rw [w1 2 (by decide), s2, sI_at]; rfl
    · rw [hμ3, sI_at]
    · rw [w1 4 (by decide), rw2 4 (by omega) (by decide) (by decide)]; exact a2.2.2.1
    · rw [w1 5 (by decide), rw2 5 (by omega) (by decide) (by decide)]; exact a2.2.2.2
    · rw [w3 19 (by decide) (by decide), w3 18 (by decide) (by decide), rw1 19 (by decide) (Or.inr (by decide)), rw1 18 (by decide) (Or.inr (by decide))]; exact a3
    · rw [w3 35 (by decide) (by decide), s4 35 (by decide) (by decide) (by decide) (by decide) (by decide) (by decide), sI_2, fr.2.1 35 (Or.inr (by decide)), sI_2]
    · rw [w1 36 (by decide), rw2 36 (by omega) (by decide) (by decide)]
    · by_cases e : r = rc
      · subst e
        rw [va_up_self]
        refine ⟨⟨lqX st'.2.1 π μ', n, rfl, rfl, rfl, ?_, ?_, ?_, fun j hj => ?_, ?_⟩, ?_, ?_, ?_, ?_, ?_, ?_, ?_, Or.inl rfl⟩
        · show tr (lqX st'.2.1 π μ') n true 0 st'.2.1.2.2.2
          rw [r4]; exact r7
        · show st'.2.1.2.2.2 ≤ 40
          omega
        · have e : SN st' + cw (lqX st'.2.1 π μ') n 0 ≤ 200 := by have := a1.1; omega
          exact e
        · have hj : j < st'.2.1.2.2.2 := hj
          rw [r4] at hj
          rw [w3 6 (by decide) (by decide), w3 7 (by decide) (by decide), w3 8 (by decide) (by decide), w3 9 (by decide) (by decide)]
          exact s6 j hj
        · show μ3.2.1 10 r = nI st'.2.1.2.2.2
          rw [w3 10 (by decide) (by decide), h10, upd_at, r4]
        · rw [w3 11 (by decide) (by decide), rw1 11 (by decide) (Or.inr (by decide))]
          exact (a5.2 r (Nat.le_refl _) hc).1
        · rw [w12, upd_at]; rfl
        · rw [w3 13 (by decide) (by decide), rw1 13 (by decide) (Or.inr (by decide))]
          exact (a5.2 r (Nat.le_refl _) hc).2.1
        · rw [w14, upd_at]
        · rw [w3 15 (by decide) (by decide), rw1 15 (by decide) (Or.inr (by decide))]
          exact (a5.2 r (Nat.le_refl _) hc).2.2.1
        · rw [w3 16 (by decide) (by decide), rw1 16 (by decide) (Or.inr (by decide))]
          exact (a5.2 r (Nat.le_refl _) hc).2.2.2.1
        · rw [w3 17 (by decide) (by decide), rw1 17 (by decide) (Or.inr (by decide))]
          exact (a5.2 r (Nat.le_refl _) hc).2.2.2.2
      · have hr2 : r < rc := by omega
        rw [va_up_ne _ _ e]
        obtain ⟨⟨X, m, b1, b2, b3, b4, b5, b6, b7, b8⟩, f1, f2, f3, f4, f5, f6, f7, f8⟩ := a5.1 r hr2
        refine ⟨⟨X, m, b1, b2, b3, b4, b5, b6, fun j hj => ?_, ?_⟩, ?_, ?_, ?_, ?_, ?_, ?_, ?_, f8⟩
        · obtain ⟨z6, z7, z8, z9⟩ := lo r j hr2 (by omega)
          rw [w3 6 (by decide) (by decide), w3 7 (by decide) (by decide), w3 8 (by decide) (by decide), w3 9 (by decide) (by decide), z6, z7, z8, z9]
          exact b7 j hj
        · rw [w3 10 (by decide) (by decide), h10, upd_ne e]; exact b8
        · rw [w3 11 (by decide) (by decide), rw1 11 (by decide) (Or.inr (by decide))]; exact f1
        · rw [w12, upd_ne e, rw1 12 (by decide) (Or.inr (by decide))]; exact f2
        · rw [w3 13 (by decide) (by decide), rw1 13 (by decide) (Or.inr (by decide))]; exact f3
        · rw [w14, upd_ne e, rw1 14 (by decide) (Or.inr (by decide))]; exact f4
        · rw [w3 15 (by decide) (by decide), rw1 15 (by decide) (Or.inr (by decide))]; exact f5
        · rw [w3 16 (by decide) (by decide), rw1 16 (by decide) (Or.inr (by decide))]; exact f6
        · rw [w3 17 (by decide) (by decide), rw1 17 (by decide) (Or.inr (by decide))]; exact f7
    · have p2 : rc ≤ r := by omega
      rw [w3 11 (by decide) (by decide), w3 13 (by decide) (by decide), w3 15 (by decide) (by decide), w3 16 (by decide) (by decide), w3 17 (by decide) (by decide), rw1 11 (by decide) (Or.inr (by decide)), rw1 13 (by decide) (Or.inr (by decide)), rw1 15 (by decide) (Or.inr (by decide)), rw1 16 (by decide) (Or.inr (by decide)), rw1 17 (by decide) (Or.inr (by decide))]
      exact a5.2 r p2 q
/-- what the class's worker stands on -/
theorem trr_ok {ts : TSt} {r : Nat} {μ : MS} (h : TrR ts r μ) : tOk ts := by
  obtain ⟨X, n, b1, b2, b3, b4, b5, b6, b7, b8⟩ := h
  refine ⟨tr_lt b4, b5, fun a ha => ?_⟩
  rw [← b1, ← b3]
  have hn := tr_node b4 a (Nat.zero_le _) ha
  have tl : tleft (LQ.K X) ts.2.2.2 (nI a) = wix (cCL (LQ.K X) a) := by
    rw [tleft, if_pos (thas_iff.mpr ⟨nI_pos (by omega), nI_nle2 ha (by omega)⟩), nI_clamp (by omega), cCL]
    by_cases c : 10 < LQ.K X a
    · rw [if_pos c, if_pos c]; rfl
    · rw [if_neg c, if_neg c, nI_1]; rfl
  refine ⟨tl, ?_, fun z hz => ?_, fun z hz => ?_⟩
  · rcases hn with ⟨-, q⟩ | ⟨-, q, -⟩ | ⟨-, c, q, q2, q3, -⟩
    · rw [cCR, if_pos q, q]; rfl
    · rw [cCR, if_pos q, q]; rfl
    · rw [cCR_y q (by omega), q]; rfl
  · rw [cCL] at hz
    by_cases c : 10 < LQ.K X a
    · rw [if_pos c] at hz; cases hz
    · rw [if_neg c] at hz
      have e := Option.some.inj hz
      rcases hn with ⟨q, -⟩ | ⟨-, -, q, -⟩ | ⟨-, c, -, q2, q3, -⟩
      · exact absurd (Int32.not_le.mp (lf_10 q)) c
      · omega
      · omega
  · rw [cCR] at hz
    by_cases c : LQ.R X a = -1
    · rw [if_pos c] at hz; cases hz
    · rw [if_neg c] at hz
      have e := Option.some.inj hz
      rcases hn with ⟨-, q⟩ | ⟨-, q, -⟩ | ⟨-, c2, q, q2, q3, -⟩
      · exact absurd q c
      · exact absurd q c
      · rw [q, nI_clamp (by omega)] at e
        omega
end INV3
