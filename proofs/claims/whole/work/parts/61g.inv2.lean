/-! class and reference, tied: further methods -/
section INV2
variable {g : Nat → Int32} {len : Nat} {st : RSt} {v : Nat → Int32} {ps : PSt} {cc td : Int32} {rc : Nat} {ρ : Nat → RuS} {μ : MS}
/-- answer -/
theorem i_answer_y (h : Inv g len st v ps cc td rc ρ μ) {k : Nat} (hk : k < rc) : (rH (ρ k) = false ∧ ¬ rL (ρ k) = -1 ∧ ¬ rL (ρ k) = 1 → ∃ μ', m_answer (nI k) μ = some (1, μ') ∧ μ'.1 0 = 0 ∧ Inv g len st v ps cc td rc (va_up ρ k ((ρ k).1, (ρ k).2.1, (ρ k).2.2.1, (ρ k).2.2.2.1, (ρ k).2.2.2.2.1, (ρ k).2.2.2.2.2.1, true, (ρ k).2.2.2.2.2.2.2)) μ') ∧ (¬ (rH (ρ k) = false ∧ ¬ rL (ρ k) = -1 ∧ ¬ rL (ρ k) = 1) → ∃ μ', m_answer (nI k) μ = some (0, μ') ∧ μ'.1 0 = 0 ∧ Inv g len st v ps cc td rc ρ μ') := by
  obtain ⟨a1, a2, a3, a4, a5, a6⟩ := id h
  have h3 : (sI 0 0 μ).1 3 = nI rc := by rw [sI_ne (by decide)]; exact a2.2.1
  obtain ⟨f1, f2, f3, f4, f5, f6, f7, f8⟩ := (a5.1 k hk).2
  have i2 : inb (nI k) 20 = true := inb_nI (by omega) (by decide)
  have c2 : (nI k).toNatClampNeg = k := nI_clamp (by omega)
  have start : m_answer (nI k) μ = (if μ.2.1 12 k = 0 then (if μ.2.1 14 k = (-1) then some (0, sI 0 0 μ) else (if μ.2.1 14 k = 1 then some (0, sI 0 0 μ) else some (1, sA 16 k (vp_nar .boolean 1) (sI 0 0 μ)))) else some (0, sI 0 0 μ)) := by
    rw [m_answer, isRule_y h3 hk a2.1]
    show (if inb (nI k) 20 = true then (if μ.2.1 12 (nI k).toNatClampNeg = 0 then (if μ.2.1 14 (nI k).toNatClampNeg = (-1) then some ((0 : Int32), sI 0 0 μ) else (if μ.2.1 14 (nI k).toNatClampNeg = 1 then some ((0 : Int32), sI 0 0 μ) else some ((1 : Int32), sA 16 (nI k).toNatClampNeg (vp_nar .boolean 1) (sI 0 0 μ)))) else some ((0 : Int32), sI 0 0 μ)) else none) = _
    rw [if_pos i2, c2]
  rw [f2, f4] at start
  refine ⟨fun ⟨c1, c3, c4⟩ => ?_, fun hn => ?_⟩
  · refine ⟨sA 16 k 1 (sI 0 0 μ), ?_, by rw [sA_1, sI_at], ?_⟩
    · rw [start, c1, if_pos (show zb false = 0 from rfl), if_neg c3, if_neg c4]
      rfl
    · refine h.of5 (fun j hj => by rw [sA_1, sI_ne (by omega)]) (fun j hj => by rw [sA_ne (by omega), sI_2]) (a5.fl hk a2.1 rfl (fun j p q => by rw [sA_ne (by omega), sI_2]) (fun j i p q hi => ?_) ?_)
      · by_cases e : j = 16
        · subst e; rw [sA_at, upd_ne hi, sI_2]
        · rw [sA_ne e, sI_2]
      · refine ⟨?_, ?_, ?_, ?_, ?_, ?_, ?_, f8⟩
        · rw [sA_ne (by decide), sI_2]; exact f1
        · rw [sA_ne (by decide), sI_2]; exact f2
        · rw [sA_ne (by decide), sI_2]; exact f3
        · rw [sA_ne (by decide), sI_2]; exact f4
        · rw [sA_ne (by decide), sI_2]; exact f5
        · rw [sA_at, upd_at]; rfl
        · rw [sA_ne (by decide), sI_2]; exact f7
  · refine ⟨sI 0 0 μ, ?_, sI_at, h.ke Ke.t⟩
    rw [start]
    by_cases c1 : rH (ρ k) = false
    · rw [c1, if_pos (show zb false = 0 from rfl)]
      by_cases c3 : rL (ρ k) = -1
      · rw [if_pos c3]
      · rw [if_neg c3]
        by_cases c4 : rL (ρ k) = 1
        · rw [if_pos c4]
        · exact absurd ⟨c1, c3, c4⟩ hn
    · have e : rH (ρ k) = true := by
        cases hh : rH (ρ k) with
        | true => rfl
        | false => exact absurd hh c1
      rw [e, if_neg (show ¬ zb true = 0 by decide)]
theorem i_answer_n (h : Inv g len st v ps cc td rc ρ μ) {i : Int32} (ho : i < 0 ∨ nI rc ≤ i) : ∃ μ', m_answer i μ = some (0, μ') ∧ μ'.1 0 = 0 ∧ Inv g len st v ps cc td rc ρ μ' := by
  have h3 : (sI 0 0 μ).1 3 = nI rc := by rw [sI_ne (by decide)]; exact h.2.1.2.1
  refine ⟨sI 0 0 μ, ?_, sI_at, h.ke Ke.t⟩
  rw [m_answer, isRule_n h3 ho]
  rfl
/-- was, is -/
theorem i_was_y (h : Inv g len st v ps cc td rc ρ μ) {k : Nat} (hk : k < rc) : ∃ μ', m_was (nI k) μ = some (rL (ρ k), μ') ∧ μ'.1 0 = 0 ∧ Inv g len st v ps cc td rc ρ μ' := by
  obtain ⟨a1, a2, a3, a4, a5, a6⟩ := id h
  refine ⟨sI 0 0 μ, ?_, sI_at, h.ke Ke.t⟩
  rw [m_was, isRule_y a2.2.1 hk a2.1]
  show (if inb (nI k) 20 = true then some (μ.2.1 14 (nI k).toNatClampNeg, sI 0 0 μ) else none) = _
  rw [if_pos (inb_nI (by omega) (by decide)), nI_clamp (by omega), (a5.1 k hk).2.2.2.2.1]
theorem i_was_n (h : Inv g len st v ps cc td rc ρ μ) {i : Int32} (ho : i < 0 ∨ nI rc ≤ i) : ∃ μ', m_was i μ = some (0, μ') ∧ μ'.1 0 = 1 ∧ Inv g len st v ps cc td rc ρ μ' := by
  refine ⟨sI 0 1 μ, ?_, sI_at, h.ke Ke.t⟩
  rw [m_was, isRule_n h.2.1.2.1 ho]
  rfl
theorem wk_ke {μ μ' : MS} (h : WkG μ μ') : Ke μ μ' := ⟨fun j _ => by rw [h.1], fun j hj => h.2 j (by omega) (by omega)⟩
theorem Ke.tr {x y z : MS} (h : Ke x y) (h2 : Ke y z) : Ke x z := ⟨fun j a => (h2.1 j a).trans (h.1 j a), fun j a => (h2.2 j a).trans (h.2 j a)⟩
theorem work_in (h : Inv g len st v ps cc td rc ρ μ) {k : Nat} (hk : k < rc) (G : Nat → Int32) : ∃ μ', m_work (nI k) μ = some (wOut v G (ρ k).1 0, μ') ∧ WkG μ μ' ∧ tri (wOut v G (ρ k).1 0) := by
  obtain ⟨a1, a2, a3, a4, a5, a6⟩ := id h
  obtain ⟨X, n, b1, b2, b3, b4, b5, b6, b7, b8⟩ := (a5.1 k hk).1
  obtain ⟨μ', s1, s2, s3⟩ := work_eq (G := G) (show k < 20 by omega) b5 b4 b7 b8 a3
  rw [b1, b2, b3] at s1 s3
  exact ⟨μ', s1, s2, s3⟩
theorem i_is_y (h : Inv g len st v ps cc td rc ρ μ) {k : Nat} (hk : k < rc) (G : Nat → Int32) : ∃ μ', m_is (nI k) μ = some (wOut v G (ρ k).1 0, μ') ∧ μ'.1 0 = 0 ∧ Inv g len st v ps cc td rc ρ μ' := by
  have h0 : Inv g len st v ps cc td rc ρ (sI 0 0 μ) := h.ke Ke.t
  obtain ⟨μ', s1, s2, -⟩ := work_in h0 hk G
  refine ⟨μ', ?_, by rw [s2.1, sI_at], h0.ke (wk_ke s2)⟩
  rw [m_is, isRule_y h.2.1.2.1 hk h.2.1.1]
  show ((m_work (nI k) (sI 0 0 μ)).bind _) = _
  rw [s1]
  rfl
theorem i_is_n (h : Inv g len st v ps cc td rc ρ μ) {i : Int32} (ho : i < 0 ∨ nI rc ≤ i) : ∃ μ', m_is i μ = some (0, μ') ∧ μ'.1 0 = 1 ∧ Inv g len st v ps cc td rc ρ μ' := by
  refine ⟨sI 0 1 μ, ?_, sI_at, h.ke Ke.t⟩
  rw [m_is, isRule_n h.2.1.2.1 ho]
  rfl
/-- at -/
theorem i_at_y (h : Inv g len st v ps cc td rc ρ μ) {i : Int32} (hi : ¬ sgv ps.1 ps.2 i = -1) : ∃ μ', m_at i μ = some (sgv ps.1 ps.2 i, μ') ∧ μ'.1 0 = 0 ∧ Inv g len st v ps cc td rc ρ μ' := by
  obtain ⟨a1, a2, a3, ⟨p1, p2, p3⟩, a5, a6⟩ := id h
  have n0 : ¬ i < 0 := fun z => hi (by rw [sgv, if_pos z])
  have n1 : ¬ nI ps.2 ≤ i := fun z => hi (by rw [sgv, if_neg n0, if_pos z])
  obtain ⟨k, hk, rfl⟩ := nI_of n0
  have hk2 : k < ps.2 := by
    rcases Nat.lt_or_ge k ps.2 with z | z
    · exact z
    · exact absurd (nI_le z hk) n1
  refine ⟨sI 0 0 μ, ?_, sI_at, h.ke Ke.t⟩
  rw [m_at, if_neg n0, p2, if_neg n1, if_pos (inb_nI (by omega) (by decide)), nI_clamp (by omega), sgv, if_neg n0, if_neg n1, nI_clamp (by omega), (p3 k hk2).1]
theorem i_at_n (h : Inv g len st v ps cc td rc ρ μ) {i : Int32} (hi : sgv ps.1 ps.2 i = -1) : ∃ μ', m_at i μ = some (0, μ') ∧ μ'.1 0 = 1 ∧ Inv g len st v ps cc td rc ρ μ' := by
  obtain ⟨a1, a2, a3, ⟨p1, p2, p3⟩, a5, a6⟩ := id h
  refine ⟨sI 0 1 μ, ?_, sI_at, h.ke Ke.t⟩
  rw [m_at]
  by_cases n0 : i < 0
  · rw [if_pos n0]
  · rw [if_neg n0, p2]
    by_cases n1 : nI ps.2 ≤ i
    · rw [if_pos n1]
    · exfalso
      obtain ⟨k, hk, rfl⟩ := nI_of n0
      have hk2 : k < ps.2 := by
        rcases Nat.lt_or_ge k ps.2 with z | z
        · exact z
        · exact absurd (nI_le z hk) n1
      rw [sgv, if_neg n0, if_neg n1, nI_clamp (by omega)] at hi
      exact (p3 k hk2).2 hi
/-- node -/
theorem i_node_n (h : Inv g len st v ps cc td rc ρ μ) {i i1 w : Int32} (ho : i < 0 ∨ nI rc ≤ i) : ∃ μ', m_node2 i i1 w μ = some (0, μ') ∧ μ'.1 0 = 1 ∧ Inv g len st v ps cc td rc ρ μ' := by
  refine ⟨sI 0 1 μ, ?_, sI_at, h.ke Ke.t⟩
  rw [m_node2, isRule_n h.2.1.2.1 ho]
  rfl
theorem node_s (h : Inv g len st v ps cc td rc ρ μ) {k : Nat} (hk : k < rc) {i1 w : Int32} : m_node2 (nI k) i1 w μ = (if i1 < 0 then some (0, sI 0 1 μ) else (if nI (ρ k).1.2.2.2 ≤ i1 then some (0, sI 0 1 μ) else (m_in w 0 3).bind (fun p38 => (if p38 = 0 then some (0, sI 0 1 μ) else (if w = 0 then (if inb (40 * nI k + i1) 800 = true then some (μ.2.1 6 (40 * nI k + i1).toNatClampNeg, sI 0 0 μ) else none) else (if w = 1 then (if inb (40 * nI k + i1) 800 = true then some (μ.2.1 7 (40 * nI k + i1).toNatClampNeg, sI 0 0 μ) else none) else (if w = 2 then (if inb (40 * nI k + i1) 800 = true then some (μ.2.1 8 (40 * nI k + i1).toNatClampNeg, sI 0 0 μ) else none) else (if inb (40 * nI k + i1) 800 = true then some (μ.2.1 9 (40 * nI k + i1).toNatClampNeg, sI 0 0 μ) else none)))))))) := by
  obtain ⟨a1, a2, a3, a4, a5, a6⟩ := id h
  have e := isRule_y a2.2.1 hk a2.1
  obtain ⟨X, n, b1, b2, b3, b4, b5, b6, b7, b8⟩ := (a5.1 k hk).1
  rw [m_node2, e]
  show (if i1 < 0 then some ((0 : Int32), sI 0 1 μ) else (m_isRule (nI k) μ).bind _) = _
  rw [e]
  by_cases c : i1 < 0
  · rw [if_pos c, if_pos c]
  · rw [if_neg c, if_neg c]
    show (if inb (nI k) 20 = true then (if μ.2.1 10 (nI k).toNatClampNeg ≤ i1 then some ((0 : Int32), sI 0 1 μ) else _) else none) = _
    rw [if_pos (inb_nI (by omega) (by decide)), nI_clamp (by omega), b8]
theorem in_3 {w : Int32} : (¬ w < 0 ∧ w ≤ 3) ↔ (¬ w < 0 ∧ ¬ 3 < w) := by rw [Int32.not_lt (a := 3)]
theorem i_node_n2 (h : Inv g len st v ps cc td rc ρ μ) {k : Nat} (hk : k < rc) {i1 w : Int32} (hbad : i1 < 0 ∨ nI (ρ k).1.2.2.2 ≤ i1 ∨ w < 0 ∨ 3 < w) : ∃ μ', m_node2 (nI k) i1 w μ = some (0, μ') ∧ μ'.1 0 = 1 ∧ Inv g len st v ps cc td rc ρ μ' := by
  refine ⟨sI 0 1 μ, ?_, sI_at, h.ke Ke.t⟩
  rw [node_s h hk]
  by_cases c : i1 < 0
  · rw [if_pos c]
  · rw [if_neg c]
    by_cases d : nI (ρ k).1.2.2.2 ≤ i1
    · rw [if_pos d]
    · rw [if_neg d, in_n (fun z => by
        rcases hbad with q | q | q | q
        · exact c q
        · exact d q
        · exact z.1 q
        · exact z.2 q)]
      rfl
theorem i_node_y (h : Inv g len st v ps cc td rc ρ μ) {k : Nat} (hk : k < rc) {i0 w : Int32} (hi0 : ¬ i0 < 0) (hi1 : ¬ nI (ρ k).1.2.2.2 ≤ i0) (hw0 : ¬ w < 0) (hw1 : w ≤ 3) : ∃ μ', m_node2 (nI k) i0 w μ = some (ndv (ρ k).1 i0 w, μ') ∧ μ'.1 0 = 0 ∧ Inv g len st v ps cc td rc ρ μ' := by
  obtain ⟨a1, a2, a3, a4, a5, a6⟩ := id h
  obtain ⟨X, n, b1, b2, b3, b4, b5, b6, b7, b8⟩ := (a5.1 k hk).1
  obtain ⟨j, hj, rfl⟩ := nI_of hi0
  have hj2 : j < (ρ k).1.2.2.2 := by
    rcases Nat.lt_or_ge j (ρ k).1.2.2.2 with z | z
    · exact z
    · exact absurd (nI_le z hj) hi1
  obtain ⟨r6, r7, r8, r9⟩ := b7 j hj2
  have e40 : (40 : Int32) * nI k + nI j = nI (40 * k + j) := by
    rw [show (40 : Int32) * nI k = nI (40 * k) from nI_mul 40 k, nI_add]
  have i8 : inb (nI (40 * k + j)) 800 = true := inb_nI (by omega) (by decide)
  have c8 : (nI (40 * k + j)).toNatClampNeg = 40 * k + j := nI_clamp (by omega)
  refine ⟨sI 0 0 μ, ?_, sI_at, h.ke Ke.t⟩
  rw [node_s h hk, if_neg hi0, if_neg hi1, in_y hw0 (Int32.not_lt.mpr hw1)]
  show (if w = 0 then (if inb (40 * nI k + nI j) 800 = true then some (μ.2.1 6 (40 * nI k + nI j).toNatClampNeg, sI 0 0 μ) else none) else (if w = 1 then (if inb (40 * nI k + nI j) 800 = true then some (μ.2.1 7 (40 * nI k + nI j).toNatClampNeg, sI 0 0 μ) else none) else (if w = 2 then (if inb (40 * nI k + nI j) 800 = true then some (μ.2.1 8 (40 * nI k + nI j).toNatClampNeg, sI 0 0 μ) else none) else (if inb (40 * nI k + nI j) 800 = true then some (μ.2.1 9 (40 * nI k + nI j).toNatClampNeg, sI 0 0 μ) else none)))) = _
  rw [e40, if_pos i8, if_pos i8, if_pos i8, if_pos i8, c8, r6, r7, r8, r9, b1, b2, b3, ndv, sgv_in b5 hj2, sgv_in b5 hj2, sgv_in b5 hj2]
  have et : Lf X j = tleft (ρ k).1.1 (ρ k).1.2.2.2 (nI j) := by
    rw [tleft, if_pos (thas_iff.mpr ⟨hi0, hi1⟩), nI_clamp (by omega), Lf, b1]
    by_cases c : (ρ k).1.1 j ≤ 10
    · rw [if_pos c, if_neg (Int32.not_lt.mpr c), nI_1]
    · rw [if_neg c, if_pos (Int32.not_le.mp c)]
  by_cases w0 : w = 0
  · rw [if_pos w0, if_pos w0]
  · rw [if_neg w0, if_neg w0]
    by_cases w1 : w = 1
    · rw [if_pos w1, if_pos w1]
    · rw [if_neg w1, if_neg w1]
      by_cases w2 : w = 2
      · rw [if_pos w2, if_pos w2, et]
      · rw [if_neg w2, if_neg w2]
/-- touch -/
theorem le11 {x : Int32} : x ≤ 11 ↔ x < 12 := by
  rw [Int32.le_iff_toInt_le, Int32.lt_iff_toInt_lt, show (11 : Int32).toInt = 11 from rfl, show (12 : Int32).toInt = 12 from rfl]
  omega
theorem tou_in {X : LQ} {r u F : Nat} {fd x2 : Int32} (hr : r < 20) (hu : u ≤ 40) (hw : rwr X r u μ) (h10 : μ.2.1 10 r = nI u) : ∀ (n j : Nat), j + n = u → ∃ d, d ≤ 2 * n + 1 ∧ ∀ F, m_touch_B (F + d) 1 fd x2 (nI r) (zb (tnames (LQ.K X) (LQ.V X) fd j)) (nI (40 * r + j)) μ = m_touch_B F 0 fd (if tnames (LQ.K X) (LQ.V X) fd u = true then x2 + 1 else x2) (nI (r + 1)) 0 0 μ
  | 0, j, hj => by
    have : j = u := by omega
    subst this
    have e40 : (40 : Int32) * nI r + nI j = nI (40 * r + j) := by
      rw [show (40 : Int32) * nI r = nI (40 * r) from nI_mul 40 r, nI_add]
    refine ⟨1, by omega, fun F => ?_⟩
    rw [m_touch_b1, if_pos (inb_nI hr (by decide)), nI_clamp (by omega), h10, e40, if_pos (show nI (40 * r + j) ≤ nI (40 * r + j) from Int32.le_refl _), nI_1]
    cases tnames (LQ.K X) (LQ.V X) fd j with
    | false =>
      rw [if_pos (show zb false = 0 from rfl), if_neg (show ¬ false = true by decide), Int32.add_zero]
    | true =>
      rw [if_neg (show ¬ zb true = 0 by decide), if_pos rfl]
  | n + 1, j, hj => by
    obtain ⟨d, hd, ih⟩ := tou_in (F := F) (x2 := x2) (fd := fd) hr hu hw h10 n (j + 1) (by omega)
    obtain ⟨w6, w7, -, -⟩ := hw j (by omega)
    have e40 : (40 : Int32) * nI r + nI u = nI (40 * r + u) := by
      rw [show (40 : Int32) * nI r = nI (40 * r) from nI_mul 40 r, nI_add]
    have c8 : (nI (40 * r + j)).toNatClampNeg = 40 * r + j := nI_clamp (by omega)
    rw [tnames] at ih
    refine ⟨d + 2, by omega, fun F => ?_⟩
    rw [show F + (d + 2) = F + d + 2 by omega, m_touch_b1, if_pos (inb_nI hr (by decide)), nI_clamp (by omega), h10, e40, if_neg (show ¬ nI (40 * r + u) ≤ nI (40 * r + j) from nI_nle2 (by omega) (by omega)), if_pos (inb_nI (by omega) (by decide)), c8, w6, w7, ← ih F]
    have b2 : m_touch_B (F + d + 1) 2 fd x2 (nI r) 0 (nI (40 * r + j)) μ = m_touch_B (F + d) 1 fd x2 (nI r) 1 (nI (40 * r + (j + 1))) μ := by rw [m_touch_b2, nI_1]; rfl
    have b3 : m_touch_B (F + d + 1) 3 fd x2 (nI r) 0 (nI (40 * r + j)) μ = m_touch_B (F + d) 1 fd x2 (nI r) 0 (nI (40 * r + (j + 1))) μ := by rw [m_touch_b3, nI_1]; rfl
    cases tnames (LQ.K X) (LQ.V X) fd j with
    | true =>
      rw [if_neg (show ¬ zb true = 0 by decide), Bool.true_or]
      exact b2
    | false =>
      rw [if_pos (show zb false = 0 from rfl), Bool.false_or]
      by_cases c : LQ.K X j ≤ 11
      · rw [if_pos c, decide_eq_true (le11.mp c)]
        exact b3
      · rw [if_neg c, decide_eq_false (fun z => c (le11.mpr z))]
        by_cases e : LQ.V X j = fd
        · rw [if_pos e, decide_eq_true e]
          exact b2
        · rw [if_neg e, decide_eq_false e]
          exact b3
theorem tou_out (h : Inv g len st v ps cc td rc ρ μ) {fd : Int32} : ∀ (n k F : Nat), k + n = rc → 90 * n + 1 ≤ F → m_touch_B F 0 fd (fCnt (bTou ρ fd) k) (nI k) 0 0 μ = some (fCnt (bTou ρ fd) rc, μ)
  | 0, k, F, hk, hF => by
    have : k = rc := by omega
    subst this
    obtain ⟨F, rfl⟩ : ∃ F', F = F' + 1 := ⟨F - 1, by omega⟩
    rw [m_touch_b0, h.2.1.2.1, if_pos (Int32.le_refl _)]
  | n + 1, k, F, hk, hF => by
    obtain ⟨a1, a2, a3, a4, a5, a6⟩ := id h
    obtain ⟨X, m, b1, b2, b3, b4, b5, b6, b7, b8⟩ := (a5.1 k (by omega)).1
    obtain ⟨d, d1, d2⟩ := tou_in (F := F) (x2 := fCnt (bTou ρ fd) k) (fd := fd) (show k < 20 by omega) b5 b7 b8 (ρ k).1.2.2.2 0 (by omega)
    obtain ⟨F, rfl⟩ : ∃ F', F = F' + d + 1 := ⟨F - d - 1, by omega⟩
    have e40 : (40 : Int32) * nI k = nI (40 * k + 0) := nI_mul 40 k
    rw [m_touch_b0, a2.2.1, if_neg (nI_nle2 (by omega) (by omega)), e40]
    refine (d2 F).trans ?_
    have ih := tou_out h (fd := fd) n (k + 1) F (by omega) (by omega)
    rw [fCnt, bTou] at ih
    rw [b1, b2]
    exact ih
theorem i_touch_y (h : Inv g len st v ps cc td rc ρ μ) {fd : Int32} (h0 : ¬ fd < 0) (h20 : fd < 20) : ∃ μ', m_touch fd μ = some (fCnt (bTou ρ fd) rc, μ') ∧ μ'.1 0 = 0 ∧ Inv g len st v ps cc td rc ρ μ' := by
  have hF : ∃ F, 2000 ≤ F ∧ ∀ x μ, m_touch x μ = (m_in x 0 19).bind (fun p5 => (if p5 = 0 then some (0, (sI 0 1 μ)) else m_touch_B F 0 x 0 0 0 0 (sI 0 0 μ))) := ⟨4096, by decide, fun x μ => by rw [m_touch]⟩
  obtain ⟨F, hF, eF⟩ := hF
  have h1 : Inv g len st v ps cc td rc ρ (sI 0 0 μ) := h.ke Ke.t
  have h19 : ¬ 19 < fd := by
    rw [Int32.lt_iff_toInt_lt, show (20 : Int32).toInt = 20 from rfl] at h20
    rw [Int32.lt_iff_toInt_lt, show (19 : Int32).toInt = 19 from rfl]
    omega
  refine ⟨sI 0 0 μ, ?_, sI_at, h1⟩
  rw [eF, in_y h0 h19]
  have := h.2.1.1
  exact tou_out h1 (fd := fd) rc 0 F (by omega) (by omega)
theorem i_touch_n (h : Inv g len st v ps cc td rc ρ μ) {fd : Int32} (h0 : fd < 0 ∨ 20 ≤ fd) : ∃ μ', m_touch fd μ = some (0, μ') ∧ μ'.1 0 = 1 ∧ Inv g len st v ps cc td rc ρ μ' := by
  refine ⟨sI 0 1 μ, ?_, sI_at, h.ke Ke.t⟩
  rw [m_touch, in_n (fun z => by
    rcases h0 with q | q
    · exact z.1 q
    · refine z.2 ?_
      rw [Int32.le_iff_toInt_le, show (20 : Int32).toInt = 20 from rfl] at q
      rw [Int32.lt_iff_toInt_lt, show (19 : Int32).toInt = 19 from rfl]
      omega)]
  rfl
/-- never -/
theorem nev_out (h : Inv g len st v ps cc td rc ρ μ) : ∀ (n k F : Nat) (i0 : Int32), k + n = rc → 3 * n + 1 ≤ F → m_never_B F 0 i0 (nI k) 0 μ = some (fRes (fIn (bNev ρ) n k i0) (fun _ => -1), μ)
  | 0, k, F, i0, hk, hF => by
    have : k = rc := by omega
    subst this
    obtain ⟨F, rfl⟩ : ∃ F', F = F' + 1 := ⟨F - 1, by omega⟩
    rw [m_never_b0, h.2.1.2.1, if_pos (Int32.le_refl _), fIn, fRes]
  | n + 1, k, F, i0, hk, hF => by
    obtain ⟨a1, a2, a3, a4, a5, a6⟩ := id h
    obtain ⟨f1, f2, f3, f4, f5, f6, f7, f8⟩ := (a5.1 k (by omega)).2
    obtain ⟨F, rfl⟩ : ∃ F', F = F' + 3 := ⟨F - 3, by omega⟩
    have ih := fun i0 => nev_out h n (k + 1) F i0 (by omega) (by omega)
    have skip : m_never_B (F + 2) 1 i0 (nI k) 0 μ = some (fRes (fIn (bNev ρ) n (k + 1) i0) (fun _ => -1), μ) := by
      rw [m_never_b1, m_never_b2, if_pos rfl, nI_1, Int32.sub_zero]
      exact ih i0
    rw [m_never_b0, a2.2.1, if_neg (nI_nle2 (by omega) (by omega)), if_pos (inb_nI (by omega) (by decide)), nI_clamp (by omega), f4, f5, fIn, bNev]
    have neg : rL (ρ k) < 0 ↔ rL (ρ k) = -1 := by
      rcases f8 with z | z | z | z <;> rw [z] <;> decide
    by_cases c : rL (ρ k) = -1
    · rw [if_pos (neg.mpr c), decide_eq_true c, Bool.not_true, Bool.false_and, if_neg (by decide)]
      exact skip
    · rw [if_neg (fun z => c (neg.mp z)), decide_eq_false c, Bool.not_false, Bool.true_and]
      cases rM (ρ k) with
      | true =>
        rw [if_neg (show ¬ zb true = 0 by decide), if_neg (show ¬ (!true) = true by decide)]
        exact skip
      | false =>
        rw [if_pos (show zb false = 0 from rfl), if_pos (show (!false) = true by decide)]
        by_cases e : i0 = 0
        · rw [if_pos e, if_pos e]; rfl
        · rw [if_neg e, if_neg e, m_never_b2, if_neg (by decide), nI_1]
          exact nev_out h n (k + 1) (F + 1) (i0 - 1) (by omega) (by omega)
theorem i_never (h : Inv g len st v ps cc td rc ρ μ) {i0 : Int32} : ∃ μ', m_never i0 μ = some (fRes (fIn (bNev ρ) rc 0 i0) (fun _ => -1), μ') ∧ μ'.1 0 = 0 ∧ Inv g len st v ps cc td rc ρ μ' := by
  have hF : ∃ F, 100 ≤ F ∧ ∀ x μ, m_never x μ = m_never_B F 0 x 0 0 (sI 0 0 μ) := ⟨4096, by decide, fun x μ => by rw [m_never]⟩
  obtain ⟨F, hF, eF⟩ := hF
  have h1 : Inv g len st v ps cc td rc ρ (sI 0 0 μ) := h.ke Ke.t
  have := h.2.1.1
  refine ⟨sI 0 0 μ, ?_, sI_at, h1⟩
  rw [eF]
  exact nev_out h1 rc 0 F i0 (by omega) (by omega)
/-- bad -/
theorem bad_in (h : Inv g len st v ps cc td rc ρ μ) {gp : Nat} {hd : Bool} (hg : gp < 10) : ∀ (n k F : Nat) (i0 : Int32), k + n = rc → 3 * n + 1 ≤ F → ∃ F', F ≤ F' + 3 * n + 1 ∧ m_badAt_B F 1 (zb hd) i0 (nI gp) (nI k) 0 μ = (match (fIn (bBad ρ hd gp) n k i0).1 with | some j => some (nI j, μ) | none => m_badAt_B F' 0 (zb hd) (fIn (bBad ρ hd gp) n k i0).2 (nI (gp + 1)) 0 0 μ)
  | 0, k, F, i0, hk, hF => by
    have : k = rc := by omega
    subst this
    obtain ⟨F, rfl⟩ : ∃ F', F = F' + 1 := ⟨F - 1, by omega⟩
    refine ⟨F, by omega, ?_⟩
    rw [m_badAt_b1, h.2.1.2.1, if_pos (Int32.le_refl _), nI_1, fIn]
  | n + 1, k, F, i0, hk, hF => by
    obtain ⟨a1, a2, a3, a4, a5, a6⟩ := id h
    obtain ⟨f1, f2, f3, f4, f5, f6, f7, f8⟩ := (a5.1 k (by omega)).2
    obtain ⟨F, rfl⟩ : ∃ F', F = F' + 3 := ⟨F - 3, by omega⟩
    rw [m_badAt_b1, a2.2.1, if_neg (nI_nle2 (by omega) (by omega)), if_pos (inb_nI (by omega) (by decide)), nI_clamp (by omega), f1, f2, f7, fIn, bBad]
    have skip : ∃ F', F + 3 ≤ F' + 3 * (n + 1) + 1 ∧ m_badAt_B (F + 2) 2 (zb hd) i0 (nI gp) (nI k) 0 μ = (match (fIn (bBad ρ hd gp) n (k + 1) i0).1 with | some j => some (nI j, μ) | none => m_badAt_B F' 0 (zb hd) (fIn (bBad ρ hd gp) n (k + 1) i0).2 (nI (gp + 1)) 0 0 μ) := by
      obtain ⟨F', g1, g2⟩ := bad_in h hg n (k + 1) F i0 (by omega) (by omega)
      refine ⟨F', by omega, ?_⟩
      rw [m_badAt_b2, m_badAt_b3, if_pos rfl, nI_1, Int32.sub_zero]
      exact g2
    by_cases c : rG (ρ k) = nI gp
    · rw [if_pos c, decide_eq_true c, Bool.true_and]
      cases rF (ρ k) with
      | false =>
        rw [if_pos (show zb false = 0 from rfl), Bool.false_and, if_neg (show ¬ false = true by decide)]
        exact skip
      | true =>
        rw [if_neg (show ¬ zb true = 0 by decide), Bool.true_and]
        have e : (zb (rH (ρ k)) = zb hd) ↔ ((rH (ρ k) == hd) = true) := by
          cases rH (ρ k) <;> cases hd <;> decide
        by_cases c2 : (rH (ρ k) == hd) = true
        · rw [if_pos (e.mpr c2), if_pos c2]
          by_cases c3 : i0 = 0
          · rw [if_pos c3, if_pos c3]
            exact ⟨F + 3, by omega, rfl⟩
          · rw [if_neg c3, if_neg c3]
            obtain ⟨F', g1, g2⟩ := bad_in h hg n (k + 1) (F + 1) (i0 - 1) (by omega) (by omega)
            refine ⟨F', by omega, ?_⟩
            rw [m_badAt_b3, if_neg (by decide), nI_1]
            exact g2
        · rw [if_neg (fun z => c2 (e.mp z)), if_neg c2]
          exact skip
    · rw [if_neg c, decide_eq_false c, Bool.false_and, if_neg (by decide)]
      exact skip
theorem bad_out (h : Inv g len st v ps cc td rc ρ μ) {hd : Bool} : ∀ (n gp F : Nat) (i0 : Int32), gp + n = 10 → 70 * n + 1 ≤ F → m_badAt_B F 0 (zb hd) i0 (nI gp) 0 0 μ = some (fOut (bBad ρ hd) rc n gp i0, μ)
  | 0, gp, F, i0, hk, hF => by
    have : gp = 10 := by omega
    subst this
    obtain ⟨F, rfl⟩ : ∃ F', F = F' + 1 := ⟨F - 1, by omega⟩
    rw [m_badAt_b0, if_pos (by decide), fOut]
  | n + 1, gp, F, i0, hk, hF => by
    obtain ⟨F, rfl⟩ : ∃ F', F = F' + 1 := ⟨F - 1, by omega⟩
    have hc := h.2.1.1
    obtain ⟨F', g1, g2⟩ := bad_in (hd := hd) h (show gp < 10 by omega) rc 0 F i0 (by omega) (by omega)
    rw [m_badAt_b0, if_neg (show ¬ (10 : Int32) ≤ nI gp from nI_ge (b := 10) (by omega) (by decide)), fOut, fRes]
    refine Eq.trans g2 ?_
    cases hq : (fIn (bBad ρ hd gp) rc 0 i0).1 with
    | some j => rfl
    | none => exact bad_out h n (gp + 1) F' _ (by omega) (by omega)
theorem badAt_eq (h : Inv g len st v ps cc td rc ρ μ) {i0 : Int32} {hd : Bool} : m_badAt i0 (zb hd) μ = some (fOut (bBad ρ hd) rc 10 0 i0, μ) := by
  have hF : ∃ F, 800 ≤ F ∧ ∀ x y μ, m_badAt x y μ = m_badAt_B F 0 y x 0 0 0 μ := ⟨4096, by decide, fun x y μ => by rw [m_badAt]⟩
  obtain ⟨F, hF, eF⟩ := hF
  rw [eF]
  exact bad_out h 10 0 F i0 rfl (by omega)
theorem i_bad (h : Inv g len st v ps cc td rc ρ μ) {i0 : Int32} {hd : Bool} : ∃ μ', m_bad i0 (zb hd) μ = some (fOut (bBad ρ hd) rc 10 0 i0, μ') ∧ μ'.1 0 = 0 ∧ Inv g len st v ps cc td rc ρ μ' := by
  have h1 : Inv g len st v ps cc td rc ρ (sI 0 0 μ) := h.ke Ke.t
  refine ⟨sI 0 0 μ, ?_, sI_at, h1⟩
  rw [m_bad, badAt_eq h1]
  rfl
end INV2
