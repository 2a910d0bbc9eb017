/-! sums, side by side -/
theorem zdig_n {x : Int32} (h : zdig x = true) : ∃ t : Nat, 48 ≤ t ∧ t ≤ 57 ∧ x = nI t := by
  simp only [zdig, Bool.and_eq_true, Bool.not_eq_true', decide_eq_false_iff_not] at h
  obtain ⟨h1, h2⟩ := h
  have h0 : ¬ x < 0 := fun z => h1 (Int32.lt_trans z (by decide))
  obtain ⟨t, ht, rfl⟩ := nI_of h0
  refine ⟨t, ?_, ?_, rfl⟩
  · rcases Nat.lt_or_ge t 48 with z | z
    · exact absurd (nI_lt (b := 48) z (by decide)) h1
    · exact z
  · rcases Nat.lt_or_ge 57 t with z | z
    · exact absurd (nI_lt (a := 57) z ht) h2
    · exact z
theorem nI_mul (a b : Nat) : nI a * nI b = nI (a * b) := (Int32.ofNat_mul a b).symm
theorem dgv_n {g : Nat → Int32} {p : Nat} : ∀ d, (∀ i, i < d → zdig (g (p + i)) = true) → ∃ m, m < 10 ^ d ∧ dgv g p d = nI m
  | 0, _ => ⟨0, by decide, nI_0.symm⟩
  | d + 1, h => by
    obtain ⟨m, h1, h2⟩ := dgv_n d (fun i hi => h i (by omega))
    obtain ⟨t, t1, t2, t3⟩ := zdig_n (h d (by omega))
    refine ⟨10 * m + (t - 48), by rw [Nat.pow_succ]; omega, ?_⟩
    rw [dgv, h2, t3, show (10 : Int32) = nI 10 from rfl, nI_mul, nI_add, show (48 : Int32) = nI 48 from rfl, nI_subN (by omega)]
    congr 1
    omega
theorem tmr_lf {g : Nat → Int32} {len b u : Nat} {q : Int32 × Int32 × Nat} (h : tmr g len b u = .inl q) : lf q.1 q.2.1 ∧ b < q.2.2 ∧ u < 40 := by
  have fok : ∀ e, fOk g len e = true → ¬ fV g len e < 0 ∧ fV g len e < 20 := fun e hk => by
    have h3 := fOk_iff.mp hk
    obtain ⟨m, m1, m2⟩ := dgv_n (g := g) (p := e) (min (fE g len e - e) 2) (fun i hi => (skp_all 200 e (e + i) (by omega) (by show e + i < fE g len e; omega)).2)
    have m3 : m < 100 := Nat.lt_of_lt_of_le m1 (Nat.pow_le_pow_right (n := 10) (by decide) (show min (fE g len e - e) 2 ≤ 2 by omega))
    show ¬ dgv g e _ < 0 ∧ dgv g e _ < 20
    rw [m2]
    exact ⟨nI_pos (by omega), by have := h3.2.2; rw [m2] at this; exact Int32.not_le.mp this⟩
  rw [tmr] at h
  by_cases c1 : b < len ∧ zdig (g b) = true
  · rw [if_pos c1] at h
    by_cases c2 : skp zdig g len 200 b - b ≤ 7 ∧ u < 40
    · rw [if_pos c2] at h
      cases h
      have hgt : b < skp zdig g len 200 b := by
        rw [skp, if_pos c1]
        have := skp_ge (P := zdig) (g := g) (len := len) 199 (b + 1)
        omega
      obtain ⟨m, m1, m2⟩ := dgv_n (g := g) (p := b) (skp zdig g len 200 b - b) (fun i hi => (skp_all (len := len) 200 b (b + i) (by omega) (by omega)).2)
      have m3 : m < 10000000 := Nat.lt_of_lt_of_le m1 (Nat.pow_le_pow_right (n := 10) (by decide) c2.1)
      refine ⟨Or.inl ⟨rfl, ?_, ?_⟩, hgt, c2.2⟩
      · show ¬ dgv g b _ < 0
        rw [m2]; exact nI_pos (by omega)
      · show dgv g b _ ≤ 9999999
        rw [m2]; exact nI_le (b := 9999999) (by omega) (by decide)
    · rw [if_neg c2] at h; cases h
  · rw [if_neg c1] at h
    by_cases c3 : b < len ∧ zlet (g b) = true
    · rw [if_pos c3] at h
      have hE : b ≤ wE g len b := skp_ge 200 b
      by_cases w1 : wcd g b (wE g len b - b) = 1
      · rw [if_pos w1] at h
        by_cases c4 : fOk g len (wE g len b) = true ∧ u < 40
        · rw [if_pos c4] at h
          cases h
          have h3 := (fOk_iff.mp c4.1).1
          exact ⟨Or.inr ⟨Or.inl rfl, fok _ c4.1⟩, by show b < fE g len (wE g len b); omega, c4.2⟩
        · rw [if_neg c4] at h; cases h
      · rw [if_neg w1] at h
        by_cases c5 : wcd g b (wE g len b - b) = 2 ∨ wcd g b (wE g len b - b) = 3
        · rw [if_pos c5] at h
          by_cases c6 : u < 40
          · rw [if_pos c6] at h
            by_cases c7 : isFb g len (pB g len (wE g len b)) = true
            · rw [if_pos c7] at h
              cases h
              have hF := isFb_iff.mp c7
              have h3 := (fOk_iff.mp hF.2.2.2).1
              have a1 : wE g len b ≤ pB g len (wE g len b) := skp_ge 200 _
              have a2 : pB g len (wE g len b) ≤ wE g len (pB g len (wE g len b)) := skp_ge 200 _
              refine ⟨Or.inr ⟨?_, fok _ hF.2.2.2⟩, by show b < fE g len (wE g len (pB g len (wE g len b))); omega, c6⟩
              rcases c5 with z | z
              · rw [z]; exact Or.inr (Or.inl (show (11 + 2 : Int32) = 13 by decide))
              · rw [z]; exact Or.inr (Or.inr (show (11 + 3 : Int32) = 14 by decide))
            · rw [if_neg c7] at h; cases h
          · rw [if_neg c6] at h; cases h
        · rw [if_neg c5] at h; cases h
    · rw [if_neg c3] at h; cases h
theorem rKind_of {st : RSt} {c k : Int32} (h : st.1 11 = c) (hc : (c = 43 ∧ k = 9) ∨ (c = 45 ∧ k = 10) ∨ (c = 60 ∧ k = 5) ∨ (c = 62 ∧ k = 6) ∨ (c = 61 ∧ k = 7) ∨ (c = 35 ∧ k = 8)) : rKind st = k := by
  rw [rKind, h]
  rcases hc with ⟨rfl, rfl⟩ | ⟨rfl, rfl⟩ | ⟨rfl, rfl⟩ | ⟨rfl, rfl⟩ | ⟨rfl, rfl⟩ | ⟨rfl, rfl⟩ <;> decide
theorem tIns_ok {s u : Nat} {kd : Int32} {ts : TSt} (hu : ts.2.2.2 = u) (hs : s ≤ u) (h4 : u < 40) : tIns (nI s) kd ts = (true, (insK ts.1 u s kd, insK ts.2.1 u s (-1), insR ts.2.2.1 u s, u + 1)) := by
  rw [tIns, hu, if_neg (fun z => z.elim (nI_pos (by omega)) (nI_nlt hs (by omega))), if_pos h4, nI_clamp (by omega)]
theorem tIns_no {s u : Nat} {kd : Int32} {ts : TSt} (hu : ts.2.2.2 = u) (hs : s ≤ u) (h4 : u = 40) : tIns (nI s) kd ts = (false, ts) := by
  rw [tIns, hu, if_neg (fun z => z.elim (nI_pos (by omega)) (nI_nlt hs (by omega))), if_neg (by omega)]
/-- a sum is read up to here: places s .. u-1 -/
def SmP (g : Nat → Int32) (len : Nat) (st : RSt) (μ : MS) (π : Nat → Nat) (s u n : Nat) : Prop :=
  μ.2.1 1 = g ∧ μ.1 2 = nI len ∧ μ.1 27 = -1 ∧ μ.1 24 = nI u ∧ u ≤ 40 ∧ st.2.1.2.2.2 = u ∧ pinj π u ∧ (∃ k, tr (lqX st.2.1 π μ) k false s u) ∧ st.1 9 = 4 ∧ st.1 7 = nI s ∧ ∃ p p', st.1 10 = nI p ∧ p ≤ len ∧ len + 1 ≤ n + p ∧ μ.1 25 = nI p' ∧ p' ≤ 1000 ∧ pB g len p = pB g len p'
/-! how long what is printed gets: a share for each node -/
def nc (k v : Int32) : Nat := if k = 11 then (pNum v).length else if k = 12 then 1 + (pNum v).length else if k = 13 then 5 + (pNum v).length else if k = 14 then 7 + (pNum v).length else if k = 3 ∨ k = 4 then 4 else 1
def sN (K V : Nat → Int32) : Nat → Nat
  | 0 => 0
  | n + 1 => sN K V n + nc (K n) (V n)
theorem sN_cg {K V K' V' : Nat → Int32} : ∀ n, (∀ j, j < n → K' j = K j ∧ V' j = V j) → sN K' V' n = sN K V n
  | 0, _ => rfl
  | n + 1, h => by rw [sN, sN, sN_cg n (fun j hj => h j (by omega)), (h n (by omega)).1, (h n (by omega)).2]
theorem sN_app {K V : Nat → Int32} {u : Nat} {k v : Int32} : sN (upd K u k) (upd V u v) (u + 1) = sN K V u + nc k v := by
  rw [sN, sN_cg u (fun j hj => ⟨upd_ne (by omega), upd_ne (by omega)⟩), upd_at, upd_at]
theorem sN_ins {K V : Nat → Int32} {u s : Nat} {k v : Int32} (hs : s ≤ u) : sN (insK K u s k) (insK V u s v) (u + 1) = sN K V u + nc k v := by
  have A : ∀ n, n ≤ s → sN (insK K u s k) (insK V u s v) n = sN K V n := fun n hn => sN_cg n (fun j hj => ⟨insK_lt (by omega) hs, insK_lt (by omega) hs⟩)
  have B : ∀ m, s + m ≤ u → sN (insK K u s k) (insK V u s v) (s + m + 1) = sN K V (s + m) + nc k v := by
    intro m
    induction m with
    | zero => intro _; rw [sN, Nat.add_zero, A s (Nat.le_refl _), insK_at, insK_at]
    | succ m ih =>
      intro h
      have i1 : insK K u s k (s + m + 1) = K (s + m) := insK_gt (by omega) (by omega)
      have i2 : insK V u s v (s + m + 1) = V (s + m) := insK_gt (by omega) (by omega)
      show sN (insK K u s k) (insK V u s v) (s + m + 1) + nc (insK K u s k (s + m + 1)) (insK V u s v (s + m + 1)) = sN K V (s + m) + nc (K (s + m)) (V (s + m)) + nc k v
      rw [ih (by omega), i1, i2]
      omega
  have := B (u - s) (by omega)
  rw [show s + (u - s) = u by omega] at this
  exact this
theorem uN_n : ∀ t, t < 7 → uN t = nI (10 ^ (6 - t)) := by decide
theorem pNumT_le (v : Int32) (t : Nat) : ∀ s, (pNumT v (t + s)).length ≤ (pNumT v t).length + s
  | 0 => Nat.le_refl _
  | s + 1 => by
    have ih := pNumT_le v t s
    show (pNumT v (t + s) ++ (if uN (t + s) ≤ v ∨ uN (t + s) = 1 then [48 + (v / uN (t + s) - v / uN (t + s) / 10 * 10)] else [])).length ≤ _
    rw [List.length_append]
    split
    · show _ + 1 ≤ _; omega
    · show _ + 0 ≤ _; omega
theorem pNumT_0 {m d : Nat} (hm : m < 10 ^ d) (h1 : 1 ≤ d) : ∀ t, t + d ≤ 7 → pNumT (nI m) t = []
  | 0, _ => rfl
  | t + 1, h => by
    have ht := uN_n t (by omega)
    have p1 : 10 ^ d ≤ 10 ^ (6 - t) := Nat.pow_le_pow_right (by decide) (by omega)
    have p2 : 10 ^ (6 - t) ≤ 10 ^ 6 := Nat.pow_le_pow_right (by decide) (by omega)
    have p4 : 10 ^ 1 ≤ 10 ^ (6 - t) := Nat.pow_le_pow_right (by decide) (by omega)
    have p3 : (10 : Nat) ^ 6 = 1000000 := by decide
    have hno : ¬ (uN t ≤ nI m ∨ uN t = 1) := by
      rw [ht]
      rintro (z | z)
      · exact nI_ge (by omega) (by omega) z
      · have := (nI_eq (a := 10 ^ (6 - t)) (b := 1) (by omega) (by decide)).mp z
        omega
    rw [pNumT, pNumT_0 hm h1 t (by omega), if_neg hno]
    rfl
theorem pNum_len {m d : Nat} (hm : m < 10 ^ d) (h1 : 1 ≤ d) (hd : d ≤ 7) : (pNum (nI m)).length ≤ d := by
  have := pNumT_le (nI m) (7 - d) d
  rw [show 7 - d + d = 7 by omega, pNumT_0 hm h1 (7 - d) (by omega)] at this
  rw [pNum]
  have e : ([] : List Int32).length = 0 := rfl
  omega
theorem tmr_nc {g : Nat → Int32} {len b u : Nat} {q : Int32 × Int32 × Nat} (hl : len ≤ 200) (h : tmr g len b u = .inl q) : nc q.1 q.2.1 + b ≤ q.2.2 := by
  have fok : ∀ e, fOk g len e = true → (pNum (fV g len e)).length + e ≤ fE g len e := fun e hk => by
    have h3 := fOk_iff.mp hk
    obtain ⟨m, m1, m2⟩ := dgv_n (g := g) (p := e) (min (fE g len e - e) 2) (fun i hi => (skp_all 200 e (e + i) (by omega) (by show e + i < fE g len e; omega)).2)
    have := pNum_len m1 (by omega) (by omega)
    show (pNum (dgv g e _)).length + e ≤ _
    rw [m2]
    omega
  rw [tmr] at h
  by_cases c1 : b < len ∧ zdig (g b) = true
  · rw [if_pos c1] at h
    by_cases c2 : skp zdig g len 200 b - b ≤ 7 ∧ u < 40
    · rw [if_pos c2] at h
      cases h
      have hgt : b < skp zdig g len 200 b := by
        rw [skp, if_pos c1]
        have := skp_ge (P := zdig) (g := g) (len := len) 199 (b + 1)
        omega
      obtain ⟨m, m1, m2⟩ := dgv_n (g := g) (p := b) (skp zdig g len 200 b - b) (fun i hi => (skp_all (len := len) 200 b (b + i) (by omega) (by omega)).2)
      have := pNum_len m1 (by omega) c2.1
      show nc 11 (dgv g b _) + b ≤ skp zdig g len 200 b
      rw [nc, if_pos rfl, m2]
      omega
    · rw [if_neg c2] at h; cases h
  · rw [if_neg c1] at h
    by_cases c3 : b < len ∧ zlet (g b) = true
    · rw [if_pos c3] at h
      have hE : b ≤ wE g len b := skp_ge 200 b
      have w := wcd_inv g b (wE g len b - b)
      by_cases w1 : wcd g b (wE g len b - b) = 1
      · rw [if_pos w1] at h
        by_cases c4 : fOk g len (wE g len b) = true ∧ u < 40
        · rw [if_pos c4] at h
          cases h
          have h3 := fok _ c4.1
          show nc 12 (fV g len (wE g len b)) + b ≤ fE g len (wE g len b)
          rw [nc, if_neg (by decide), if_pos rfl]
          rw [w1] at w
          rcases w with z | z | z | z | z | z
          · omega
          · exact absurd z.1 (by decide)
          · exact absurd z.1 (by decide)
          · exact absurd z.1 (by decide)
          · exact absurd z.1 (by decide)
          · exact absurd z (by decide)
        · rw [if_neg c4] at h; cases h
      · rw [if_neg w1] at h
        by_cases c5 : wcd g b (wE g len b - b) = 2 ∨ wcd g b (wE g len b - b) = 3
        · rw [if_pos c5] at h
          by_cases c6 : u < 40
          · rw [if_pos c6] at h
            by_cases c7 : isFb g len (pB g len (wE g len b)) = true
            · rw [if_pos c7] at h
              cases h
              have hF := isFb_iff.mp c7
              have h3 := fok _ hF.2.2.2
              have a1 : wE g len b ≤ pB g len (wE g len b) := skp_ge 200 _
              have a3 : wE g len b ≠ pB g len (wE g len b) := fun e => by
                have := skp_end (P := zlet) (g := g) (len := len) 200 b (by omega)
                have x1 := hF.1
                have x2 := hF.2.1
                rw [← e] at x1 x2
                exact this ⟨x1, x2⟩
              have a2 : pB g len (wE g len b) < wE g len (pB g len (wE g len b)) := by
                rcases wcd_inv g (pB g len (wE g len b)) (wE g len (pB g len (wE g len b)) - pB g len (wE g len b)) with z | z | z | z | z | z
                · omega
                · exact absurd (z.1.symm.trans hF.2.2.1) (by decide)
                · exact absurd (z.1.symm.trans hF.2.2.1) (by decide)
                · exact absurd (z.1.symm.trans hF.2.2.1) (by decide)
                · exact absurd (z.1.symm.trans hF.2.2.1) (by decide)
                · exact absurd (z.symm.trans hF.2.2.1) (by decide)
              show nc (11 + wcd g b (wE g len b - b)) (fV g len (wE g len (pB g len (wE g len b)))) + b ≤ fE g len (wE g len (pB g len (wE g len b)))
              rcases c5 with y | y
              · rw [y] at w
                rw [y, show (11 + 2 : Int32) = 13 by decide, nc, if_neg (by decide), if_neg (by decide), if_pos rfl]
                rcases w with z | z | z | z | z | z
                · exact absurd z.1 (by decide)
                · omega
                · exact absurd z.1 (by decide)
                · exact absurd z.1 (by decide)
                · exact absurd z.1 (by decide)
                · exact absurd z (by decide)
              · rw [y] at w
                rw [y, show (11 + 3 : Int32) = 14 by decide, nc, if_neg (by decide), if_neg (by decide), if_neg (by decide), if_pos rfl]
                rcases w with z | z | z | z | z | z
                · exact absurd z.1 (by decide)
                · exact absurd z.1 (by decide)
                · omega
                · exact absurd z.1 (by decide)
                · exact absurd z.1 (by decide)
                · exact absurd z (by decide)
            · rw [if_neg c7] at h; cases h
          · rw [if_neg c6] at h; cases h
        · rw [if_neg c5] at h; cases h
    · rw [if_neg c3] at h; cases h
abbrev SN (st : RSt) : Nat := sN st.2.1.1 st.2.1.2.1 st.2.1.2.2.2
abbrev PL (st : RSt) : Nat := (st.1 10).toNatClampNeg
theorem nc_op {k : Int32} (h : k = 9 ∨ k = 10 ∨ k = 5 ∨ k = 6 ∨ k = 7 ∨ k = 8 ∨ k = 0 ∨ k = 1 ∨ k = 2) : nc k (-1) = 1 := by
  rcases h with rfl | rfl | rfl | rfl | rfl | rfl | rfl | rfl | rfl <;> (rw [nc, if_neg (by decide), if_neg (by decide), if_neg (by decide), if_neg (by decide), if_neg (by decide)])
/-- what stays while sums are read -/
def SmF (st st' : RSt) (μ μ' : MS) : Prop := (∀ j, j ≠ 24 → j ≠ 25 → μ'.1 j = μ.1 j) ∧ (∀ j, j ≠ 20 → j ≠ 21 → j ≠ 22 → j ≠ 23 → μ'.2.1 j = μ.2.1 j) ∧ st'.2.2 = st.2.2 ∧ st'.1 5 = st.1 5 ∧ st'.1 6 = st.1 6 ∧ SN st' + PL st ≤ SN st + PL st'
theorem SmF.rf {st : RSt} {μ : MS} : SmF st st μ μ := ⟨fun _ _ _ => rfl, fun _ _ _ _ _ => rfl, rfl, rfl, rfl, Nat.le_refl _⟩
theorem SmF.tr {a b c : RSt} {x y z : MS} (h : SmF a b x y) (h2 : SmF b c y z) : SmF a c x z :=
  ⟨fun j p q => (h2.1 j p q).trans (h.1 j p q), fun j p q r t => (h2.2.1 j p q r t).trans (h.2.1 j p q r t), h2.2.2.1.trans h.2.2.1, h2.2.2.2.1.trans h.2.2.2.1, h2.2.2.2.2.1.trans h.2.2.2.2.1, by have := h.2.2.2.2.2; have := h2.2.2.2.2.2; omega⟩
theorem FlR.of {st st' : RSt} {μ μ' μ2 : MS} {w : Nat} (h : SmF st st' μ μ') (h2 : FlR μ' μ2 w) : FlR μ μ2 w :=
  ⟨h2.1, h2.2.1.trans (h.1 30 (by decide) (by decide)), h2.2.2.1.trans (h.2.1 28 (by decide) (by decide) (by decide) (by decide)), h2.2.2.2.trans (h.2.1 29 (by decide) (by decide) (by decide) (by decide))⟩
/-- in class BEHIND_TERM, an operator's token: the node goes in at s -/
theorem bTake_op {g : Nat → Int32} {len s u b : Nat} {st : RSt} {c kd : Int32} (ht : tkF st.1 (zTok g len st.1) b c (b + 1)) (h9 : st.1 9 = 4) (h7 : st.1 7 = nI s) (hu : st.2.1.2.2.2 = u) (hs : s ≤ u) (hc : (c = 43 ∧ kd = 9) ∨ (c = 45 ∧ kd = 10)) (h4 : u ≤ 40) :
    bTake (zTok g len st.1, st.2) = (decide (u < 40), (upd (zTok g len st.1) 9 2, (if u < 40 then (insK st.2.1.1 u s kd, insK st.2.1.2.1 u s (-1), insR st.2.1.2.2.1 u s, u + 1) else st.2.1), st.2.2)) := by
  obtain ⟨t1, t2, t3, t4⟩ := ht
  have z9 : zTok g len st.1 9 = 4 := by rw [t4 9 (by decide) (by decide) (by decide) (by decide), h9]
  have z7 : zTok g len st.1 7 = nI s := by rw [t4 7 (by decide) (by decide) (by decide) (by decide), h7]
  have hk : rKind (zTok g len st.1, st.2) = kd := rKind_of t1 (hc.imp id (fun z => Or.inl z))
  refine (bTake_4 (st := (zTok g len st.1, st.2)) z9).trans ((bBT_op (st := (zTok g len st.1, st.2)) t1 (by rcases hc with z | z; exact Or.inl z.1; exact Or.inr z.1)).trans ?_)
  rw [hk]
  show bTr (tIns (zTok g len st.1 7) kd st.2.1) (qs 9 2 (zTok g len st.1, st.2)) = _
  rw [z7]
  by_cases h : u < 40
  · rw [tIns_ok hu hs h, if_pos h, decide_eq_true h]; rfl
  · rw [tIns_no hu hs (by omega), if_neg h, decide_eq_false h]; rfl
