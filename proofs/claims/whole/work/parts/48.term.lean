/-! a term, on natural numbers: what both readers make of it -/
def isFb (g : Nat → Int32) (len b : Nat) : Bool := decide (b < len) && (zlet (g b) && (decide (wcd g b (wE g len b - b) = 1) && fOk g len (wE g len b)))
theorem isFb_iff {g : Nat → Int32} {len b : Nat} : isFb g len b = true ↔ isF g len b := by
  rw [isFb, isF, Bool.and_eq_true, Bool.and_eq_true, Bool.and_eq_true, decide_eq_true_eq, decide_eq_true_eq]
abbrev fV (g : Nat → Int32) (len e : Nat) : Int32 := dgv g e (min (fE g len e - e) 2)
/-- a node of a kind and a value, and the place behind it; or the place that is wrong -/
def tmr (g : Nat → Int32) (len b u : Nat) : (Int32 × Int32 × Nat) ⊕ Nat :=
  if b < len ∧ zdig (g b) = true then (if skp zdig g len 200 b - b ≤ 7 ∧ u < 40 then .inl (11, dgv g b (skp zdig g len 200 b - b), skp zdig g len 200 b) else .inr b)
  else if b < len ∧ zlet (g b) = true then
    (if wcd g b (wE g len b - b) = 1 then (if fOk g len (wE g len b) = true ∧ u < 40 then .inl (12, fV g len (wE g len b), fE g len (wE g len b)) else .inr b)
    else if wcd g b (wE g len b - b) = 2 ∨ wcd g b (wE g len b - b) = 3 then
      (if u < 40 then (if isFb g len (pB g len (wE g len b)) = true then .inl (11 + wcd g b (wE g len b - b), fV g len (wE g len (pB g len (wE g len b))), fE g len (wE g len (pB g len (wE g len b)))) else .inr (pB g len (wE g len b))) else .inr b)
    else .inr b)
  else .inr b
def AppR (μ μ' : MS) (u : Nat) (k v : Int32) : Prop := μ'.1 24 = nI (u + 1) ∧ (∀ j, j ≠ 24 → j ≠ 25 → μ'.1 j = μ.1 j) ∧ μ'.2.1 20 = upd (μ.2.1 20) u k ∧ μ'.2.1 21 = upd (μ.2.1 21) u v ∧ μ'.2.1 22 = upd (μ.2.1 22) u (-1) ∧ μ'.2.1 23 = upd (μ.2.1 23) u (-1) ∧ ∀ j, j ≠ 20 → j ≠ 21 → j ≠ 22 → j ≠ 23 → μ'.2.1 j = μ.2.1 j
/-- the reference has failed at w; its stack is as it was -/
def FlR (μ μ' : MS) (w : Nat) : Prop := μ'.1 27 = nI w ∧ μ'.1 30 = μ.1 30 ∧ μ'.2.1 28 = μ.2.1 28 ∧ μ'.2.1 29 = μ.2.1 29
def TmR (μ : MS) (u : Nat) (r : (Int32 × Int32 × Nat) ⊕ Nat) (o : Option (Int32 × MS)) : Prop := match r with
  | .inl q => ∃ μ', o = some (nI u, μ') ∧ AppR μ μ' u q.1 q.2.1 ∧ μ'.1 25 = nI q.2.2
  | .inr w => ∃ x μ', o = some (x, μ') ∧ FlR μ μ' w
theorem upd_upd {f : Nat → Int32} {k : Nat} {x y : Int32} : upd (upd f k x) k y = upd f k y := by
  funext j
  rw [upd, upd, upd]
  by_cases h : j = k
  · rw [if_pos h, if_pos h]
  · rw [if_neg h, if_neg h, if_neg h]
theorem app_of {μ : MS} {u e : Nat} {k v : Int32} : AppR μ (sA 21 u v (nodeS k u (sI 25 (nI e) μ))) u k v ∧ (sA 21 u v (nodeS k u (sI 25 (nI e) μ))).1 25 = nI e := by
  refine ⟨⟨?_, ?_, ?_, ?_, ?_, ?_, ?_⟩, ?_⟩
  · rw [sA_1, nodeS, sI_at]
  · intro j h1 h2
    rw [sA_1, nodeS, sI_ne h1]
    show (sI 25 (nI e) μ).1 j = _
    rw [sI_ne h2]
  · rw [sA_ne (by decide), nodeS, sI_2, sA_ne (by decide), sA_ne (by decide), sA_ne (by decide), sA_at, sI_2]
  · rw [sA_at, nodeS, sI_2, sA_ne (by decide), sA_ne (by decide), sA_at, upd_upd, sA_ne (by decide), sI_2]
  · rw [sA_ne (by decide), nodeS, sI_2, sA_ne (by decide), sA_at, sA_ne (by decide), sA_ne (by decide), sI_2]
  · rw [sA_ne (by decide), nodeS, sI_2, sA_at, sA_ne (by decide), sA_ne (by decide), sA_ne (by decide), sI_2]
  · intro j h1 h2 h3 h4
    rw [sA_ne h2, nodeS, sI_2, sA_ne h4, sA_ne h3, sA_ne h2, sA_ne h1, sI_2]
  · rw [sA_1, nodeS, sI_ne (by decide)]
    show (sI 25 (nI e) μ).1 25 = nI e
    exact sI_at
theorem fl_of {μ μ' : MS} {w : Nat} (h : μ'.1 27 = -1) (h1 : μ'.1 30 = μ.1 30) (h2 : μ'.2.1 28 = μ.2.1 28) (h3 : μ'.2.1 29 = μ.2.1 29) : FlR μ (mFail (nI w) μ') w := by
  refine ⟨by rw [mFail_w, h, if_neg (by decide)], by rw [mFail_1 (by decide)]; exact h1, h2, h3⟩
theorem term_eq {len p u : Nat} {μ : MS} (hl : len ≤ 200) (hp : p ≤ 1000) (h1 : μ.1 25 = nI p) (h2 : μ.1 2 = nI len) (hw0 : μ.1 27 = -1) (hu : μ.1 24 = nI u) (hu4 : u ≤ 40) (hg : ∀ j, j < len → ¬ μ.2.1 1 j = -1) : TmR μ u (tmr (μ.2.1 1) len (pB (μ.2.1 1) len p) u) (m_term μ) := by
  have hb := pB_le (g := μ.2.1 1) hl hp
  rw [m_term, look_eq hl h1 h2 hp]
  have hpb : skp zbl (μ.2.1 1) len 200 p = pB (μ.2.1 1) len p := rfl
  rw [hpb]
  generalize pB (μ.2.1 1) len p = b at hb
  have e1 : (sI 25 (nI b) μ).1 25 = nI b := sI_at
  have e2 : (sI 25 (nI b) μ).1 2 = nI len := by rw [sI_ne (by decide)]; exact h2
  have e7 : ∀ a, (sI 25 a μ).1 27 = -1 := fun a => by rw [sI_ne (by decide)]; exact hw0
  have e4 : ∀ a, (sI 25 a μ).1 24 = nI u := fun a => by rw [sI_ne (by decide)]; exact hu
  have e0 : ∀ a, (sI 25 a μ).1 30 = μ.1 30 := fun a => sI_ne (by decide)
  show TmR μ u (tmr (μ.2.1 1) len b u) (if sgv (μ.2.1 1) len (nI b) = -1 then _ else _)
  rw [sgv_p (by omega) (by omega)]
  by_cases hlt : b < len
  · rw [if_pos hlt, if_neg (hg b hlt), word_eq hl hb e1 e2]
    show TmR μ u (tmr (μ.2.1 1) len b u) (Option.bind (m_isDigit (μ.2.1 1 b)) _)
    rw [isDigit_eq]
    show TmR μ u (tmr (μ.2.1 1) len b u) (if zb (zdig (μ.2.1 1 b)) = 0 then _ else _)
    by_cases hd : zdig (μ.2.1 1 b) = true
    · -- a number
      rw [hd, if_neg (by decide), tmr, if_pos ⟨hlt, hd⟩, e1]
      rw [show (7 : Int32) = nI 7 from rfl, digits_eq (p0 := b) hl (by decide) hb e1 e2]
      have hmin : skp zdig (μ.2.1 1) len (7 + 1) b = min (b + 8) (skp zdig (μ.2.1 1) len 200 b) := skp_min 8 200 b (by decide)
      have hgt : b < skp zdig (μ.2.1 1) len 200 b := by
        rw [skp, if_pos ⟨hlt, hd⟩]
        have := skp_ge (P := zdig) (g := μ.2.1 1) (len := len) 199 (b + 1)
        omega
      show TmR μ u _ (Option.bind (if 1 ≤ skp zdig (μ.2.1 1) len (7 + 1) b - b ∧ skp zdig (μ.2.1 1) len (7 + 1) b - b ≤ 7 then some (dgv (μ.2.1 1) b (skp zdig (μ.2.1 1) len (7 + 1) b - b), sI 25 (nI (skp zdig (μ.2.1 1) len (7 + 1) b)) (sI 25 (nI b) μ)) else some (dgv (μ.2.1 1) b (skp zdig (μ.2.1 1) len (7 + 1) b - b), mFail (nI b) (sI 25 (nI (skp zdig (μ.2.1 1) len (7 + 1) b)) (sI 25 (nI b) μ)))) _)
      rw [hmin, sI_sI]
      by_cases c : skp zdig (μ.2.1 1) len 200 b - b ≤ 7
      · have em : min (b + 8) (skp zdig (μ.2.1 1) len 200 b) = skp zdig (μ.2.1 1) len 200 b := by omega
        rw [em, if_pos (show 1 ≤ skp zdig (μ.2.1 1) len 200 b - b ∧ skp zdig (μ.2.1 1) len 200 b - b ≤ 7 from ⟨by omega, c⟩)]
        show TmR μ u _ (if 0 ≤ (sI 25 (nI (skp zdig (μ.2.1 1) len 200 b)) μ).1 27 then _ else _)
        rw [e7, if_neg (show ¬ (0 : Int32) ≤ -1 by decide)]
        by_cases hu5 : u < 40
        · rw [if_pos (show skp zdig (μ.2.1 1) len 200 b - b ≤ 7 ∧ u < 40 from ⟨c, hu5⟩), node_ok (e4 _) hu5]
          show TmR μ u _ (if inb (nI u) 40 = true then some (nI u, sA 21 (nI u).toNatClampNeg _ _) else none)
          rw [if_pos (inb_nI hu5 (by decide)), nI_clamp (by omega)]
          exact ⟨_, rfl, app_of.1, app_of.2⟩
        · rw [if_neg (show ¬ (skp zdig (μ.2.1 1) len 200 b - b ≤ 7 ∧ u < 40) from fun z => hu5 z.2), node_full (by rw [e4, show u = 40 by omega])]
          show TmR μ u _ (if inb 0 40 = true then some (0, sA 21 _ _ (mFail (nI b) _)) else none)
          rw [if_pos (show inb 0 40 = true from rfl)]
          exact ⟨_, _, rfl, fl_of (e7 _) (e0 _) rfl rfl⟩
      · rw [if_neg (show ¬ (skp zdig (μ.2.1 1) len 200 b - b ≤ 7 ∧ u < 40) from fun z => c z.1), if_neg (show ¬ (1 ≤ min (b + 8) (skp zdig (μ.2.1 1) len 200 b) - b ∧ min (b + 8) (skp zdig (μ.2.1 1) len 200 b) - b ≤ 7) by omega)]
        show TmR μ u _ (if 0 ≤ (mFail (nI b) (sI 25 _ μ)).1 27 then _ else _)
        have hf := fl_of (μ := μ) (μ' := sI 25 (nI (min (b + 8) (skp zdig (μ.2.1 1) len 200 b))) μ) (w := b) (e7 _) (e0 _) rfl rfl
        rw [hf.1, if_pos (show (0 : Int32) ≤ nI b from nI_pos' (by omega)), if_pos (show inb 0 40 = true from rfl)]
        exact ⟨_, _, rfl, hf⟩
    · have hd : zdig (μ.2.1 1 b) = false := by simpa using hd
      rw [hd, if_pos (show zb false = 0 from rfl), tmr, if_neg (fun z => by rw [hd] at z; exact absurd z.2 (by decide))]
      by_cases hz : zlet (μ.2.1 1 b) = true
      · rw [if_pos ⟨hlt, hz⟩]
        show TmR μ u _ (if wcd (μ.2.1 1) b (wE (μ.2.1 1) len b - b) = 1 then _ else if wcd (μ.2.1 1) b (wE (μ.2.1 1) len b - b) = 2 then _ else if wcd (μ.2.1 1) b (wE (μ.2.1 1) len b - b) = 3 then _ else _)
        have hpb2 : pB (μ.2.1 1) len b = b := skp_no 200 (fun z => by
          have z2 : μ.2.1 1 b = 32 := by have := z.2; simp only [zbl, decide_eq_true_eq] at this; exact this
          rw [z2] at hz; exact absurd hz (by decide))
        by_cases w1 : wcd (μ.2.1 1) b (wE (μ.2.1 1) len b - b) = 1
        · rw [if_pos w1, if_pos w1]
          have hF := field_eq (p := b) hl hb e1 e2
          have hF' : (isF (μ.2.1 1) len b ∧ m_field (sI 25 (nI b) μ) = some (fV (μ.2.1 1) len (wE (μ.2.1 1) len b), sI 25 (nI (fE (μ.2.1 1) len (wE (μ.2.1 1) len b))) (sI 25 (nI b) μ))) ∨ (¬ isF (μ.2.1 1) len b ∧ ∃ r a, m_field (sI 25 (nI b) μ) = some (r, mFail (nI b) (sI 25 a (sI 25 (nI b) μ)))) := by
            have h : (sI 25 (nI b) μ).2.1 1 = μ.2.1 1 := rfl
            rw [h, hpb2] at hF
            exact hF
          rcases hF' with ⟨f1, f2⟩ | ⟨f1, r, a, f2⟩
          · rw [f2, sI_sI]
            show TmR μ u _ (if 0 ≤ (sI 25 _ μ).1 27 then _ else _)
            rw [e7, if_neg (show ¬ (0 : Int32) ≤ -1 by decide)]
            by_cases hu5 : u < 40
            · rw [if_pos (show fOk (μ.2.1 1) len (wE (μ.2.1 1) len b) = true ∧ u < 40 from ⟨f1.2.2.2, hu5⟩), node_ok (e4 _) hu5]
              show TmR μ u _ (if inb (nI u) 40 = true then some (nI u, sA 21 (nI u).toNatClampNeg _ _) else none)
              rw [if_pos (inb_nI hu5 (by decide)), nI_clamp (by omega)]
              exact ⟨_, rfl, app_of.1, app_of.2⟩
            · rw [if_neg (show ¬ (fOk (μ.2.1 1) len (wE (μ.2.1 1) len b) = true ∧ u < 40) from fun z => hu5 z.2), e1, node_full (by rw [e4, show u = 40 by omega])]
              show TmR μ u _ (if inb 0 40 = true then some (0, sA 21 _ _ (mFail (nI b) _)) else none)
              rw [if_pos (show inb 0 40 = true from rfl)]
              exact ⟨_, _, rfl, fl_of (e7 _) (e0 _) rfl rfl⟩
          · rw [f2, sI_sI, if_neg (show ¬ (fOk (μ.2.1 1) len (wE (μ.2.1 1) len b) = true ∧ u < 40) from fun z => f1 ⟨hlt, hz, w1, z.1⟩)]
            show TmR μ u _ (if 0 ≤ (mFail (nI b) (sI 25 _ μ)).1 27 then _ else _)
            have hf := fl_of (μ := μ) (μ' := sI 25 a μ) (w := b) (e7 _) (e0 _) rfl rfl
            rw [hf.1, if_pos (show (0 : Int32) ≤ nI b from nI_pos' (by omega)), if_pos (show inb 0 40 = true from rfl)]
            exact ⟨_, _, rfl, hf⟩
        · rw [if_neg w1, if_neg w1]
          have sub : ∀ (c : Int32) (k : Nat), wcd (μ.2.1 1) b (wE (μ.2.1 1) len b - b) = c → wE (μ.2.1 1) len b = b + k → k ≤ 5 → c = 2 ∨ c = 3 →
              TmR μ u (if u < 40 then (if isFb (μ.2.1 1) len (pB (μ.2.1 1) len (wE (μ.2.1 1) len b)) = true then .inl (11 + c, fV (μ.2.1 1) len (wE (μ.2.1 1) len (pB (μ.2.1 1) len (wE (μ.2.1 1) len b))), fE (μ.2.1 1) len (wE (μ.2.1 1) len (pB (μ.2.1 1) len (wE (μ.2.1 1) len b)))) else .inr (pB (μ.2.1 1) len (wE (μ.2.1 1) len b))) else .inr b)
                ((m_node (11 + c) ((sI 25 (nI b) μ).1 25) (sI 25 (nI b) μ)).bind (fun p138 => (if 0 ≤ (p138.2.1 27) then (if inb p138.1 40 = true then some (p138.1, (sA 21 (p138.1.toNatClampNeg) 0 (sI 25 ((p138.2.1 25) + nI k) p138.2))) else none) else (m_field (sI 25 ((p138.2.1 25) + nI k) p138.2)).bind (fun p170 => (if inb p138.1 40 = true then some (p138.1, (sA 21 (p138.1.toNatClampNeg) p170.1 p170.2)) else none))))) := by
            intro c k hc hk hk5 hc2
            rw [e1]
            by_cases hu5 : u < 40
            · rw [if_pos hu5, node_ok (e4 _) hu5]
              have n25 : (nodeS (11 + c) u (sI 25 (nI b) μ)).1 25 = nI b := by rw [nodeS, sI_ne (by decide)]; exact e1
              have n27 : (nodeS (11 + c) u (sI 25 (nI b) μ)).1 27 = -1 := by rw [nodeS, sI_ne (by decide)]; exact e7 (nI b)
              show TmR μ u _ (if 0 ≤ (nodeS (11 + c) u (sI 25 (nI b) μ)).1 27 then _ else _)
              rw [n27, if_neg (show ¬ (0 : Int32) ≤ -1 by decide), n25, nI_add]
              have hF := field_eq (len := len) (p := b + k) (μ := sI 25 (nI (b + k)) (nodeS (11 + c) u (sI 25 (nI b) μ))) hl (by omega) sI_at (by rw [sI_ne (by decide), nodeS, sI_ne (by decide)]; exact e2)
              have ht : (sI 25 (nI (b + k)) (nodeS (11 + c) u (sI 25 (nI b) μ))).2.1 1 = μ.2.1 1 := by rw [sI_2, nodeS, sI_2, sA_ne (by decide), sA_ne (by decide), sA_ne (by decide), sA_ne (by decide), sI_2]
              rw [ht, ← hk] at hF
              rw [hk] at hF ⊢
              rcases hF with ⟨f1, f2⟩ | ⟨f1, r, a, f2⟩
              · rw [f2, if_pos (isFb_iff.mpr f1), sI_sI]
                show TmR μ u _ (if inb (nI u) 40 = true then some (nI u, sA 21 (nI u).toNatClampNeg _ _) else none)
                rw [if_pos (inb_nI hu5 (by decide)), nI_clamp (by omega)]
                refine ⟨_, rfl, ?_, ?_⟩
                · have hA := (app_of (μ := μ) (u := u) (e := b) (k := 11 + c) (v := dgv (μ.2.1 1) (wE (μ.2.1 1) len (pB (μ.2.1 1) len (b + k))) (min (fE (μ.2.1 1) len (wE (μ.2.1 1) len (pB (μ.2.1 1) len (b + k))) - wE (μ.2.1 1) len (pB (μ.2.1 1) len (b + k))) 2))).1
                  exact ⟨by rw [sA_1, sI_ne (by decide)]; exact hA.1, fun j q1 q2 => by rw [sA_1, sI_ne q2]; exact hA.2.1 j q1 q2, hA.2.2.1, hA.2.2.2.1, hA.2.2.2.2.1, hA.2.2.2.2.2.1, hA.2.2.2.2.2.2⟩
                · rw [sA_1, sI_at]
              · rw [f2, if_neg (fun z => f1 (isFb_iff.mp z))]
                show TmR μ u _ (if inb (nI u) 40 = true then some (nI u, sA 21 (nI u).toNatClampNeg _ _) else none)
                rw [if_pos (inb_nI hu5 (by decide)), nI_clamp (by omega)]
                refine ⟨_, _, rfl, ?_⟩
                have hf := fl_of (μ := μ) (μ' := sI 25 a (sI 25 (nI (b + k)) (nodeS (11 + c) u (sI 25 (nI b) μ)))) (w := pB (μ.2.1 1) len (b + k)) (by rw [sI_ne (by decide), sI_ne (by decide)]; exact n27) (by rw [sI_ne (by decide), sI_ne (by decide), nodeS, sI_ne (by decide)]; exact e0 (nI b)) (by rw [sI_2, sI_2, nodeS, sI_2, sA_ne (by decide), sA_ne (by decide), sA_ne (by decide), sA_ne (by decide)]; rfl) (by rw [sI_2, sI_2, nodeS, sI_2, sA_ne (by decide), sA_ne (by decide), sA_ne (by decide), sA_ne (by decide)]; rfl)
                exact ⟨hf.1, hf.2.1, by rw [sA_ne (by decide)]; exact hf.2.2.1, by rw [sA_ne (by decide)]; exact hf.2.2.2⟩
            · rw [if_neg hu5, node_full (by rw [e4, show u = 40 by omega])]
              have hf := fl_of (μ := μ) (μ' := sI 25 (nI b) μ) (w := b) (e7 _) (e0 _) rfl rfl
              show TmR μ u _ (if 0 ≤ (mFail (nI b) (sI 25 (nI b) μ)).1 27 then _ else _)
              rw [hf.1, if_pos (show (0 : Int32) ≤ nI b from nI_pos' (by omega))]
              show TmR μ u _ (if inb 0 40 = true then some (0, sA 21 _ _ (sI 25 _ (mFail (nI b) _))) else none)
              rw [if_pos (show inb 0 40 = true from rfl)]
              exact ⟨_, _, rfl, by rw [sA_1, sI_ne (by decide)]; exact hf.1, by rw [sA_1, sI_ne (by decide)]; exact hf.2.1, by rw [sA_ne (by decide)]; exact hf.2.2.1, by rw [sA_ne (by decide)]; exact hf.2.2.2⟩
          have hE := skp_ge (P := zlet) (g := μ.2.1 1) (len := len) 200 b
          have hE : b ≤ wE (μ.2.1 1) len b := hE
          by_cases w2 : wcd (μ.2.1 1) b (wE (μ.2.1 1) len b - b) = 2
          · rw [if_pos w2, if_pos (Or.inl w2)]
            have hx := sub 2 3 w2 (by rcases wcd_inv (μ.2.1 1) b (wE (μ.2.1 1) len b - b) with z | z | z | z | z | z <;> first | omega | (rw [w2] at z; exact absurd z.1 (by decide)) | (rw [w2] at z; exact absurd z (by decide))) (by decide) (Or.inl rfl)
            rw [← w2] at hx
            exact hx
          · rw [if_neg w2]
            by_cases w3 : wcd (μ.2.1 1) b (wE (μ.2.1 1) len b - b) = 3
            · rw [if_pos w3, if_pos (Or.inr w3)]
              have hx := sub 3 5 w3 (by rcases wcd_inv (μ.2.1 1) b (wE (μ.2.1 1) len b - b) with z | z | z | z | z | z <;> first | omega | (rw [w3] at z; exact absurd z.1 (by decide)) | (rw [w3] at z; exact absurd z (by decide))) (by decide) (Or.inr rfl)
              rw [← w3] at hx
              exact hx
            · rw [if_neg w3, if_neg (fun z => z.elim w2 w3), e1, fail_eq]
              exact ⟨_, _, rfl, fl_of (e7 _) (e0 _) rfl rfl⟩
      · have hz : zlet (μ.2.1 1 b) = false := by simpa using hz
        have w0 : wcd (μ.2.1 1) b (wE (μ.2.1 1) len b - b) = 0 := by
          have : wE (μ.2.1 1) len b = b := skp_no 200 (fun z => by rw [hz] at z; exact absurd z.2 (by decide))
          rw [this, Nat.sub_self, wcd_0]
        rw [if_neg (fun z => by rw [hz] at z; exact absurd z.2 (by decide))]
        show TmR μ u _ (if wcd (μ.2.1 1) b (wE (μ.2.1 1) len b - b) = 1 then _ else if wcd (μ.2.1 1) b (wE (μ.2.1 1) len b - b) = 2 then _ else if wcd (μ.2.1 1) b (wE (μ.2.1 1) len b - b) = 3 then _ else _)
        rw [w0, if_neg (show ¬ (0 : Int32) = 1 by decide), if_neg (show ¬ (0 : Int32) = 2 by decide), if_neg (show ¬ (0 : Int32) = 3 by decide), e1, fail_eq]
        exact ⟨_, _, rfl, fl_of (e7 _) (e0 _) rfl rfl⟩
  · rw [if_neg hlt, if_pos (show (-1 : Int32) = -1 from rfl), tmr, if_neg (fun z => hlt z.1), if_neg (fun z => hlt z.1)]
    show TmR μ u _ (Option.bind (m_isDigit (-1)) _)
    rw [isDigit_eq, e1]
    show TmR μ u _ (Option.bind (m_fail (nI b) (sI 25 (nI b) μ)) _)
    rw [fail_eq]
    exact ⟨_, _, rfl, fl_of (e7 _) (e0 _) rfl rfl⟩
