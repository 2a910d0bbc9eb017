/-! what is put on the stack to be printed -/
def sz (w : Bool) : Nat := if w = true then 3 else 1
def pp (w : Bool) (k c : Nat) (μ : MS) : MS := if w = true then sA 37 (k + 2) 40 (sA 37 (k + 1) (nI (1000 + c)) (sA 37 k 41 μ)) else sA 37 k (nI (1000 + c)) μ
def wrap (w : Bool) (l : List Int32) : List Int32 := if w = true then [40] ++ (l ++ [41]) else l
theorem pp_k {w : Bool} {k c : Nat} {μ : MS} : (pp w k c μ).1 = μ.1 ∧ (∀ j, j ≠ 37 → (pp w k c μ).2.1 j = μ.2.1 j) ∧ (pp w k c μ).2.2 = μ.2.2 ∧ (∀ i, i < k → (pp w k c μ).2.1 37 i = μ.2.1 37 i) ∧ (w = false → (pp w k c μ).2.1 37 k = nI (1000 + c)) ∧ (w = true → (pp w k c μ).2.1 37 k = 41 ∧ (pp w k c μ).2.1 37 (k + 1) = nI (1000 + c) ∧ (pp w k c μ).2.1 37 (k + 2) = 40) := by
  cases w with
  | false =>
    have e : pp false k c μ = sA 37 k (nI (1000 + c)) μ := rfl
    rw [e]
    exact ⟨rfl, fun j h => sA_ne h, rfl, fun i h => by rw [sA_at, upd_ne (by omega)], fun _ => by rw [sA_at, upd_at], fun z => by cases z⟩
  | true =>
    have e : pp true k c μ = sA 37 (k + 2) 40 (sA 37 (k + 1) (nI (1000 + c)) (sA 37 k 41 μ)) := rfl
    rw [e]
    refine ⟨rfl, fun j h => by rw [sA_ne h, sA_ne h, sA_ne h], rfl, fun i h => ?_, fun z => (by cases z), fun _ => ⟨?_, ?_, ?_⟩⟩
    · rw [sA_at, upd_ne (by omega), sA_at, upd_ne (by omega), sA_at, upd_ne (by omega)]
    · rw [sA_at, upd_ne (by omega), sA_at, upd_ne (by omega), sA_at, upd_at]
    · rw [sA_at, upd_ne (by omega), sA_at, upd_at]
    · rw [sA_at, upd_at]
/-- does the left part need brackets, the right part -/
def wL (kd kl : Int32) : Bool := if kd = 1 ∧ kl = 0 then true else if kd = 2 ∧ kl < 2 then true else if kd = 3 then true else if kd = 4 then true else false
def wR (kd kr : Int32) : Bool := if 2 ≤ kd then false else if kr = kd then true else if kd = 1 ∧ kr = 0 then true else false
def sgn (kd : Int32) : Int32 := if kd = 0 then 124 else if kd = 1 then 38 else if kd = 5 then 60 else if kd = 6 then 62 else if kd = 7 then 61 else if kd = 8 then 35 else if kd = 9 then 43 else 45
theorem k1000 (c : Nat) : (1000 : Int32) + nI c = nI (1000 + c) := nI_add 1000 c
/-- from block 10 on -/
theorem uf_10 {F k c : Nat} {w : Bool} {μ : MS} (hk : k + 3 < 400) : m_unfold_B (F + 3) 10 0 0 (nI c) 0 (nI k) 0 0 (zb w) 0 μ = some (nI (k + sz w), pp w k c μ) := by
  have c0 : (nI k).toNatClampNeg = k := nI_clamp (by omega)
  have c1 : (nI (k + 1)).toNatClampNeg = k + 1 := nI_clamp (by omega)
  have c2 : (nI (k + 2)).toNatClampNeg = k + 2 := nI_clamp (by omega)
  cases w with
  | false =>
    rw [m_unfold_b10, if_pos (show zb false = 0 from rfl), m_unfold_b11, if_pos (inb_nI (by omega) (by decide)), if_pos (show zb false = 0 from rfl), c0, k1000, nI_1, m_unfold_b12]
    rfl
  | true =>
    rw [m_unfold_b10, if_neg (show ¬ zb true = 0 by decide), if_pos (inb_nI (by omega) (by decide)), c0, nI_1, m_unfold_b11, if_pos (inb_nI (by omega) (by decide)), if_neg (show ¬ zb true = 0 by decide), c1, nI_1, if_pos (inb_nI (by omega) (by decide)), c2, k1000, nI_1, m_unfold_b12]
    rfl
theorem uf_6 {F r k c : Nat} {kd kl : Int32} {μ : MS} (hr : r < 20) (hc : c < 40) (hk : k + 3 < 400) (hl : μ.2.1 6 (40 * r + c) = kl) : m_unfold_B (F + 7) 6 (nI r) kd (nI c) 0 (nI k) 0 0 0 0 μ = some (nI (k + sz (wL kd kl)), pp (wL kd kl) k c μ) := by
  have e40 : (40 : Int32) * nI r + nI c = nI (40 * r + c) := by
    rw [show (40 : Int32) * nI r = nI (40 * r) from nI_mul 40 r, nI_add]
  have c8 : (nI (40 * r + c)).toNatClampNeg = 40 * r + c := nI_clamp (by omega)
  rw [m_unfold_b6, e40, if_pos (inb_nI (by omega) (by decide)), c8, hl]
  have b9 : ∀ G, m_unfold_B (G + 4) 9 0 0 (nI c) 0 (nI k) 0 0 0 0 μ = some (nI (k + sz true), pp true k c μ) := fun G => by
    rw [m_unfold_b9]
    exact uf_10 (w := true) hk
  have b8 : ¬ kd = 3 → ¬ kd = 4 → ∀ G x4, x4 = kd → m_unfold_B (G + 5) 8 0 x4 (nI c) 0 (nI k) 0 0 0 0 μ = some (nI (k + sz false), pp false k c μ) := fun h3 h4 G x4 e => by
    rw [m_unfold_b8, e, if_neg h3, if_neg h4]
    exact uf_10 (F := G + 1) (w := false) hk
  by_cases a1 : kd = 1
  · by_cases a0 : kl = 0
    · have hw : wL kd kl = true := by rw [wL, if_pos ⟨a1, a0⟩]
      rw [if_pos a1, if_pos a0, hw]
      exact b9 (F + 2)
    · have hw : wL kd kl = false := by rw [wL, a1, if_neg (fun z => a0 z.2), if_neg (fun z => absurd z.1 (by decide)), if_neg (by decide), if_neg (by decide)]
      rw [if_pos a1, if_neg a0, hw, m_unfold_b7, if_neg (by rw [a1]; decide)]
      exact b8 (by rw [a1]; decide) (by rw [a1]; decide) F kd rfl
  · rw [if_neg a1, m_unfold_b7]
    by_cases a2 : kd = 2
    · by_cases al : kl < 2
      · have hw : wL kd kl = true := by rw [wL, if_neg (fun z => a1 z.1), if_pos ⟨a2, al⟩]
        rw [if_pos a2, if_pos al, hw]
        exact b9 (F + 1)
      · have hw : wL kd kl = false := by rw [wL, if_neg (fun z => a1 z.1), if_neg (fun z => al z.2), a2, if_neg (by decide), if_neg (by decide)]
        rw [if_pos a2, if_neg al, hw]
        exact b8 (by rw [a2]; decide) (by rw [a2]; decide) F kd rfl
    · rw [if_neg a2]
      by_cases a3 : kd = 3
      · have hw : wL kd kl = true := by rw [wL, if_neg (fun z => a1 z.1), if_neg (fun z => a2 z.1), if_pos a3]
        rw [m_unfold_b8, if_pos a3, hw]
        exact b9 F
      · by_cases a4 : kd = 4
        · have hw : wL kd kl = true := by rw [wL, if_neg (fun z => a1 z.1), if_neg (fun z => a2 z.1), if_neg a3, if_pos a4]
          rw [m_unfold_b8, if_neg a3, if_pos a4, hw]
          exact b9 F
        · have hw : wL kd kl = false := by rw [wL, if_neg (fun z => a1 z.1), if_neg (fun z => a2 z.1), if_neg a3, if_neg a4]
          rw [hw]
          exact b8 a3 a4 F kd rfl
theorem uf_4 {F r k c : Nat} {kd kl : Int32} {μ : MS} (hr : r < 20) (hc : c < 40) (hk : k + 4 < 400) (hl : μ.2.1 6 (40 * r + c) = kl) : m_unfold_B (F + 9) 4 (nI r) kd (nI c) 0 (nI k) 0 0 0 0 μ = some (nI (k + 1 + sz (wL kd kl)), pp (wL kd kl) (k + 1) c (sA 37 k (sgn kd) μ)) := by
  have c0 : (nI k).toNatClampNeg = k := nI_clamp (by omega)
  have e : m_unfold_B (F + 9) 4 (nI r) kd (nI c) 0 (nI k) 0 0 0 0 μ = m_unfold_B (F + 8) 5 (nI r) kd (nI c) 0 (nI (k + 1)) 0 0 (nI k) (sgn kd) μ := by
    rw [m_unfold_b4, nI_1, sgn]
    repeat' split
    all_goals rfl
  rw [e, m_unfold_b5, if_pos (inb_nI (by omega) (by decide)), c0]
  exact uf_6 hr hc (by omega) (by rw [sA_ne (by decide)]; exact hl)
theorem uf_2 {F r k c a : Nat} {kd kl : Int32} {w : Bool} {μ : MS} (hr : r < 20) (hc : a < 40) (hk : k + 8 < 400) (hl : μ.2.1 6 (40 * r + a) = kl) : m_unfold_B (F + 11) 2 (nI r) kd (nI a) (nI c) (nI k) 0 0 (zb w) 0 μ = some (nI (k + sz w + 1 + sz (wL kd kl)), pp (wL kd kl) (k + sz w + 1) a (sA 37 (k + sz w) (sgn kd) (pp w k c μ))) := by
  have c0 : (nI k).toNatClampNeg = k := nI_clamp (by omega)
  have c1 : (nI (k + 1)).toNatClampNeg = k + 1 := nI_clamp (by omega)
  have c2 : (nI (k + 2)).toNatClampNeg = k + 2 := nI_clamp (by omega)
  have hp : (pp w k c μ).2.1 6 (40 * r + a) = kl := by rw [pp_k.2.1 6 (by decide)]; exact hl
  have hs : sz w ≤ 3 := by cases w <;> decide
  have res := uf_4 (F := F) (r := r) (k := k + sz w) (c := a) (kd := kd) (kl := kl) (μ := pp w k c μ) hr hc (by omega) hp
  rw [← res]
  cases w with
  | false =>
    rw [m_unfold_b2, if_pos (show zb false = 0 from rfl), m_unfold_b3, if_pos (inb_nI (by omega) (by decide)), if_pos (show zb false = 0 from rfl), c0, k1000, nI_1]
    rfl
  | true =>
    rw [m_unfold_b2, if_neg (show ¬ zb true = 0 by decide), if_pos (inb_nI (by omega) (by decide)), c0, nI_1, m_unfold_b3, if_pos (inb_nI (by omega) (by decide)), if_neg (show ¬ zb true = 0 by decide), c1, nI_1, if_pos (inb_nI (by omega) (by decide)), c2, k1000, nI_1]
    rfl
theorem m_unf_F : ∃ F, ∀ x1 x2 x3 μ, m_unfold x1 x2 x3 μ = (if inb x1 800 = true then (if ((μ.2.1 9) x1.toNatClampNeg) < 0 then m_unfold_B (F + 12) 6 x2 ((μ.2.1 6) x1.toNatClampNeg) ((μ.2.1 8) x1.toNatClampNeg) 0 x3 0 0 0 0 μ else (if inb ((40 * x2) + ((μ.2.1 9) x1.toNatClampNeg)) 800 = true then (if 2 ≤ ((μ.2.1 6) x1.toNatClampNeg) then m_unfold_B (F + 12) 1 x2 ((μ.2.1 6) x1.toNatClampNeg) ((μ.2.1 8) x1.toNatClampNeg) ((μ.2.1 9) x1.toNatClampNeg) x3 0 0 0 0 μ else (if ((μ.2.1 6) ((40 * x2) + ((μ.2.1 9) x1.toNatClampNeg)).toNatClampNeg) = ((μ.2.1 6) x1.toNatClampNeg) then m_unfold_B (F + 12) 0 x2 ((μ.2.1 6) x1.toNatClampNeg) ((μ.2.1 8) x1.toNatClampNeg) ((μ.2.1 9) x1.toNatClampNeg) x3 0 0 0 0 μ else (if ((μ.2.1 6) x1.toNatClampNeg) = 1 then (if ((μ.2.1 6) ((40 * x2) + ((μ.2.1 9) x1.toNatClampNeg)).toNatClampNeg) = 0 then m_unfold_B (F + 12) 0 x2 ((μ.2.1 6) x1.toNatClampNeg) ((μ.2.1 8) x1.toNatClampNeg) ((μ.2.1 9) x1.toNatClampNeg) x3 0 0 0 0 μ else m_unfold_B (F + 12) 1 x2 ((μ.2.1 6) x1.toNatClampNeg) ((μ.2.1 8) x1.toNatClampNeg) ((μ.2.1 9) x1.toNatClampNeg) x3 0 0 0 0 μ) else m_unfold_B (F + 12) 1 x2 ((μ.2.1 6) x1.toNatClampNeg) ((μ.2.1 8) x1.toNatClampNeg) ((μ.2.1 9) x1.toNatClampNeg) x3 0 0 0 0 μ))) else none)) else none) :=
  ⟨4084, fun x1 x2 x3 μ => by rw [m_unfold]⟩
theorem unf_un {X : LQ} {r u a k : Nat} {μ : MS} (hr : r < 20) (hu : u ≤ 40) (ha : a + 1 < u) (hw : rwr X r u μ) (hk : k + 8 < 400) (h10 : LQ.K X a ≤ 10) (hR : LQ.R X a = -1) : m_unfold (nI (40 * r + a)) (nI r) (nI k) μ = some (nI (k + sz (wL (LQ.K X a) (LQ.K X (a + 1)))), pp (wL (LQ.K X a) (LQ.K X (a + 1))) k (a + 1) μ) := by
  obtain ⟨F, eF⟩ := m_unf_F
  obtain ⟨w6, w7, w8', w9'⟩ := hw a (by omega)
  have c8 : (nI (40 * r + a)).toNatClampNeg = 40 * r + a := nI_clamp (by omega)
  rw [eF, if_pos (inb_nI (by omega) (by decide)), c8, w9', hR, if_pos (by decide), w6, w8', Lf, if_pos h10]
  exact uf_6 (F := F + 5) hr (by omega) (by omega) (hw (a + 1) ha).1
theorem unf_bi {X : LQ} {r u a c k : Nat} {μ : MS} (hr : r < 20) (hu : u ≤ 40) (ha : a + 1 < u) (hc : c < u) (hw : rwr X r u μ) (hk : k + 8 < 400) (h10 : LQ.K X a ≤ 10) (hR : LQ.R X a = nI c) : m_unfold (nI (40 * r + a)) (nI r) (nI k) μ = some (nI (k + sz (wR (LQ.K X a) (LQ.K X c)) + 1 + sz (wL (LQ.K X a) (LQ.K X (a + 1)))), pp (wL (LQ.K X a) (LQ.K X (a + 1))) (k + sz (wR (LQ.K X a) (LQ.K X c)) + 1) (a + 1) (sA 37 (k + sz (wR (LQ.K X a) (LQ.K X c))) (sgn (LQ.K X a)) (pp (wR (LQ.K X a) (LQ.K X c)) k c μ))) := by
  obtain ⟨F, eF⟩ := m_unf_F
  obtain ⟨w6, w7, w8', w9'⟩ := hw a (by omega)
  have c8 : (nI (40 * r + a)).toNatClampNeg = 40 * r + a := nI_clamp (by omega)
  have e40 : (40 : Int32) * nI r + nI c = nI (40 * r + c) := by
    rw [show (40 : Int32) * nI r = nI (40 * r) from nI_mul 40 r, nI_add]
  have c9 : (nI (40 * r + c)).toNatClampNeg = 40 * r + c := nI_clamp (by omega)
  have y : ∀ w : Bool, m_unfold_B (F + 12) (if w = true then 0 else 1) (nI r) (LQ.K X a) (nI (a + 1)) (nI c) (nI k) 0 0 0 0 μ = some (nI (k + sz w + 1 + sz (wL (LQ.K X a) (LQ.K X (a + 1)))), pp (wL (LQ.K X a) (LQ.K X (a + 1))) (k + sz w + 1) (a + 1) (sA 37 (k + sz w) (sgn (LQ.K X a)) (pp w k c μ))) := fun w => by
    have h2 := uf_2 (F := F) (r := r) (k := k) (c := c) (a := a + 1) (kd := LQ.K X a) (kl := LQ.K X (a + 1)) (w := w) (μ := μ) hr (by omega) hk (hw (a + 1) ha).1
    cases w with
    | true => rw [if_pos rfl, m_unfold_b0]; exact h2
    | false => rw [if_neg (by decide), m_unfold_b1]; exact h2
  rw [eF, if_pos (inb_nI (by omega) (by decide)), c8, w9', hR, if_neg (nI_pos (by omega)), e40, if_pos (inb_nI (by omega) (by decide)), c9, w6, w8', Lf, if_pos h10, (hw c hc).1]
  by_cases a1 : 2 ≤ LQ.K X a
  · have hw : wR (LQ.K X a) (LQ.K X c) = false := by rw [wR, if_pos a1]
    rw [if_pos a1, hw]
    exact y false
  · rw [if_neg a1]
    by_cases a2 : LQ.K X c = LQ.K X a
    · have hw : wR (LQ.K X a) (LQ.K X c) = true := by rw [wR, if_neg a1, if_pos a2]
      rw [if_pos a2, hw]
      exact y true
    · rw [if_neg a2]
      by_cases a3 : LQ.K X a = 1
      · rw [if_pos a3]
        by_cases a4 : LQ.K X c = 0
        · have hw : wR (LQ.K X a) (LQ.K X c) = true := by rw [wR, if_neg a1, if_neg a2, if_pos ⟨a3, a4⟩]
          rw [if_pos a4, hw]
          exact y true
        · have hw : wR (LQ.K X a) (LQ.K X c) = false := by rw [wR, if_neg a1, if_neg a2, if_neg (fun z => a4 z.2)]
          rw [if_neg a4, hw]
          exact y false
      · have hw : wR (LQ.K X a) (LQ.K X c) = false := by rw [wR, if_neg a1, if_neg a2, if_neg (fun z => a3 z.1)]
        rw [if_neg a3, hw]
        exact y false
/-! what stands on the stack is printed -/
theorem rwr_p {X : LQ} {r u k q : Nat} {l : List Int32} {μ μ' : MS} (h : rwr X r u μ) (hp : Prt l k q μ μ') : rwr X r u μ' := fun j hj => by
  obtain ⟨a, b, c, d⟩ := h j hj
  exact ⟨by rw [hp.2.1 6 (by decide) (by decide)]; exact a, by rw [hp.2.1 7 (by decide) (by decide)]; exact b, by rw [hp.2.1 8 (by decide) (by decide)]; exact c, by rw [hp.2.1 9 (by decide) (by decide)]; exact d⟩
theorem sg_run {r k q : Nat} {x : Int32} {μ : MS} (hk : k < 400) (hx : μ.2.1 37 k = x) (hx1 : ¬ 1000 ≤ x) (h6 : μ.1 36 = nI q) (hq : q < 200) (F : Nat) : m_print_B (F + 2) 0 (nI r) (nI (k + 1)) 0 μ = m_print_B F 0 (nI r) (nI k) 0 (putS x q μ) := by
  rw [m_print_b0, if_neg (nI_nle (by omega) (by omega)), nI_am, if_pos (inb_nI hk (by decide)), nI_clamp (by omega), hx, if_neg hx1, put_eq h6 hq]
  show m_print_B (F + 1) 8 (nI r) (nI k) 0 (putS x q μ) = _
  rw [m_print_b8]
def PrI (X : LQ) (r u a b : Nat) (T : List Int32) : Prop := ∀ (k q : Nat) (μ : MS), rwr X r u μ → μ.2.1 37 k = nI (1000 + a) → k + 7 * (b - a) ≤ 390 → μ.1 36 = nI q → q + T.length ≤ 200 → ∃ d μ', d ≤ 20 * (b - a) ∧ (∀ F, m_print_B (F + d) 0 (nI r) (nI (k + 1)) 0 μ = m_print_B F 0 (nI r) (nI k) 0 μ') ∧ Prt T k q μ μ'
theorem wrap_len {w : Bool} {l : List Int32} : (wrap w l).length = l.length + (if w = true then 2 else 0) := by
  cases w with
  | false => rfl
  | true =>
    show (40 :: (l ++ [41])).length = _
    rw [List.length_cons, List.length_append]
    rfl
theorem blk {X : LQ} {r u c e k q : Nat} {T : List Int32} {w : Bool} {μ : MS} (ih : PrI X r u c e T) (hce : c < e) (hw : rwr X r u μ) (s0 : w = false → μ.2.1 37 k = nI (1000 + c)) (s1 : w = true → μ.2.1 37 k = 41 ∧ μ.2.1 37 (k + 1) = nI (1000 + c) ∧ μ.2.1 37 (k + 2) = 40) (hk : k + 2 + 7 * (e - c) ≤ 390) (h6 : μ.1 36 = nI q) (hq : q + (wrap w T).length ≤ 200) :
    ∃ d μ', d ≤ 20 * (e - c) + 4 ∧ (∀ F, m_print_B (F + d) 0 (nI r) (nI (k + sz w)) 0 μ = m_print_B F 0 (nI r) (nI k) 0 μ') ∧ Prt (wrap w T) k q μ μ' := by
  rw [wrap_len] at hq
  cases w with
  | false =>
    obtain ⟨d, μ', a1, a2, a3⟩ := ih k q μ hw (s0 rfl) (by omega) h6 (by omega)
    exact ⟨d, μ', by omega, a2, a3⟩
  | true =>
    obtain ⟨t1, t2, t3⟩ := s1 rfl
    have hq2 : q + (T.length + 2) ≤ 200 := hq
    have P1 : Prt [40] (k + 2) q μ (putS 40 q μ) := putS_p (by omega)
    obtain ⟨d, μ', a1, a2, a3⟩ := ih (k + 1) (q + 1) (putS 40 q μ) (rwr_p hw P1) (by rw [P1.2.2.2.1 (k + 1) (by omega)]; exact t2) (by omega) putS_6 (by omega)
    have x41 : μ'.2.1 37 k = 41 := by rw [a3.2.2.2.1 k (by omega), P1.2.2.2.1 k (by omega)]; exact t1
    have P3 : Prt [41] k (q + 1 + T.length) μ' (putS 41 (q + 1 + T.length) μ') := putS_p (by omega)
    refine ⟨2 + d + 2, putS 41 (q + 1 + T.length) μ', by omega, fun F => ?_, ?_⟩
    · rw [show F + (2 + d + 2) = F + 2 + d + 2 by omega]
      refine (sg_run (r := r) (k := k + 2) (by omega) t3 (by decide) h6 (by omega) (F + 2 + d)).trans ?_
      refine (a2 (F + 2)).trans ?_
      exact sg_run (by omega) x41 (by decide) a3.2.2.2.2.1 (by omega) F
    · exact (P1.lo (by omega)).tr ((a3.lo (by omega)).tr P3 (by show q + 1 + T.length ≤ 200; omega)) (by show q + 1 ≤ 200; omega)
/-- what a node prints ahead of its parts -/
def pre (kd : Int32) : List Int32 := if kd = 2 then [33] else if kd = 3 then [97, 108, 108] else if kd = 4 then [97, 110, 121] else []
theorem nd_run {X : LQ} {r u a k q : Nat} {μ : MS} (hr : r < 20) (hu : u ≤ 40) (ha : a < u) (hw : rwr X r u μ) (hk : k < 400) (h37 : μ.2.1 37 k = nI (1000 + a)) (h10 : LQ.K X a ≤ 10) (h6 : μ.1 36 = nI q) (hq : q + (pre (LQ.K X a)).length ≤ 200) : ∃ d μ1, d ≤ 9 ∧ (∀ F, m_print_B (F + d) 0 (nI r) (nI (k + 1)) 0 μ = (m_unfold (nI (40 * r + a)) (nI r) (nI k) μ1).bind (fun p222 => m_print_B F 0 (nI r) p222.1 0 p222.2)) ∧ Prt (pre (LQ.K X a)) k q μ μ1 := by
  obtain ⟨w6, w7, w8', w9'⟩ := hw a ha
  have c8 : (nI (40 * r + a)).toNatClampNeg = 40 * r + a := nI_clamp (by omega)
  have i8 : inb (nI (40 * r + a)) 800 = true := inb_nI (by omega) (by decide)
  have ex : (40 : Int32) * nI r + nI (1000 + a) - 1000 = nI (40 * r + a) := by
    rw [show (40 : Int32) * nI r = nI (40 * r) from nI_mul 40 r, nI_add, show (1000 : Int32) = nI 1000 from rfl, nI_subN (by omega), show 40 * r + (1000 + a) - 1000 = 40 * r + a by omega]
  have e8 : ∀ F : Nat, (fun p222 : Int32 × MS => m_print_B (F + 1) 8 (nI r) p222.1 0 p222.2) = (fun p222 => m_print_B F 0 (nI r) p222.1 0 p222.2) := fun F => funext (fun p => by rw [m_print_b8])
  have g1000 : (1000 : Int32) ≤ nI (1000 + a) := nI_le (a := 1000) (by omega) (by omega)
  -- from block 1 on
  have kA : ∀ μ1 : MS, μ1.2.1 6 (40 * r + a) = LQ.K X a → ¬ LQ.K X a = 3 → ¬ LQ.K X a = 4 → ∀ F, m_print_B (F + 7) 1 (nI r) (nI k) (nI (40 * r + a)) μ1 = (m_unfold (nI (40 * r + a)) (nI r) (nI k) μ1).bind (fun p222 => m_print_B F 0 (nI r) p222.1 0 p222.2) := fun μ1 h n3 n4 F => by
    rw [m_print_b1, if_pos i8, c8, h, if_neg n3, if_neg n4, m_print_b3, if_pos i8, c8, h, if_neg n3, m_print_b4, if_pos i8, c8, h, if_neg n3, m_print_b5, if_pos i8, c8, h, if_neg n4, m_print_b6, if_pos i8, c8, h, if_neg n4, m_print_b7, e8]
  by_cases k3 : LQ.K X a = 3
  · have hp : pre (LQ.K X a) = [97, 108, 108] := by rw [pre, k3, if_neg (by decide), if_pos rfl]
    rw [hp] at hq ⊢
    have hq : q + 3 ≤ 200 := hq
    have P : Prt [97, 108, 108] k q μ (putS 108 (q + 1 + 1) (putS 108 (q + 1) (putS 97 q μ))) := (putS_p (x := 97) (by omega)).tr ((putS_p (x := 108) (by show q + 1 < 200; omega)).tr (putS_p (x := 108) (by show q + 1 + 1 < 200; omega)) (by show q + 1 + 1 ≤ 200; omega)) (by show q + 1 ≤ 200; omega)
    have m1 : (putS 97 q μ).2.1 6 (40 * r + a) = 3 := by rw [putS_2 (by decide), w6, k3]
    have m2 : (putS 108 (q + 1) (putS 97 q μ)).2.1 6 (40 * r + a) = 3 := by rw [putS_2 (by decide), m1]
    have m3 : (putS 108 (q + 1 + 1) (putS 108 (q + 1) (putS 97 q μ))).2.1 6 (40 * r + a) = 3 := by rw [putS_2 (by decide), m2]
    refine ⟨9, _, by decide, fun F => ?_, P⟩
    rw [m_print_b0, if_neg (nI_nle (by omega) (by omega)), nI_am, if_pos (inb_nI hk (by decide)), nI_clamp (by omega), h37, if_pos g1000, ex, if_pos i8, c8, w6, if_pos h10, k3, if_neg (by decide), m_print_b1, if_pos i8, c8, w6, if_pos k3, m_print_b2, put_eq h6 (by omega)]
    show m_print_B (F + 6) 3 (nI r) (nI k) (nI (40 * r + a)) (putS 97 q μ) = _
    rw [m_print_b3, if_pos i8, c8, m1, if_pos rfl, put_eq putS_6 (by omega)]
    show m_print_B (F + 5) 4 (nI r) (nI k) (nI (40 * r + a)) (putS 108 (q + 1) (putS 97 q μ)) = _
    rw [m_print_b4, if_pos i8, c8, m2, if_pos rfl, put_eq putS_6 (by omega)]
    show m_print_B (F + 4) 5 (nI r) (nI k) (nI (40 * r + a)) (putS 108 (q + 1 + 1) (putS 108 (q + 1) (putS 97 q μ))) = _
    rw [m_print_b5, if_pos i8, c8, m3, if_neg (by decide), m_print_b6, if_pos i8, c8, m3, if_neg (by decide), m_print_b7, e8]
  · by_cases k4 : LQ.K X a = 4
    · have hp : pre (LQ.K X a) = [97, 110, 121] := by rw [pre, k4, if_neg (by decide), if_neg (by decide), if_pos rfl]
      rw [hp] at hq ⊢
      have hq : q + 3 ≤ 200 := hq
      have P : Prt [97, 110, 121] k q μ (putS 121 (q + 1 + 1) (putS 110 (q + 1) (putS 97 q μ))) := (putS_p (x := 97) (by omega)).tr ((putS_p (x := 110) (by show q + 1 < 200; omega)).tr (putS_p (x := 121) (by show q + 1 + 1 < 200; omega)) (by show q + 1 + 1 ≤ 200; omega)) (by show q + 1 ≤ 200; omega)
      have m1 : (putS 97 q μ).2.1 6 (40 * r + a) = 4 := by rw [putS_2 (by decide), w6, k4]
      have m2 : (putS 110 (q + 1) (putS 97 q μ)).2.1 6 (40 * r + a) = 4 := by rw [putS_2 (by decide), m1]
      refine ⟨9, _, by decide, fun F => ?_, P⟩
      rw [m_print_b0, if_neg (nI_nle (by omega) (by omega)), nI_am, if_pos (inb_nI hk (by decide)), nI_clamp (by omega), h37, if_pos g1000, ex, if_pos i8, c8, w6, if_pos h10, k4, if_neg (by decide), m_print_b1, if_pos i8, c8, w6, if_neg k3, if_pos k4, m_print_b2, put_eq h6 (by omega)]
      show m_print_B (F + 6) 3 (nI r) (nI k) (nI (40 * r + a)) (putS 97 q μ) = _
      rw [m_print_b3, if_pos i8, c8, m1, if_neg (by decide), m_print_b4, if_pos i8, c8, m1, if_neg (by decide), m_print_b5, if_pos i8, c8, m1, if_pos rfl, put_eq putS_6 (by omega)]
      show m_print_B (F + 3) 6 (nI r) (nI k) (nI (40 * r + a)) (putS 110 (q + 1) (putS 97 q μ)) = _
      rw [m_print_b6, if_pos i8, c8, m2, if_pos rfl, put_eq putS_6 (by omega)]
      show m_print_B (F + 2) 7 (nI r) (nI k) (nI (40 * r + a)) (putS 121 (q + 1 + 1) (putS 110 (q + 1) (putS 97 q μ))) = _
      rw [m_print_b7, e8]
    · by_cases k2 : LQ.K X a = 2
      · have hp : pre (LQ.K X a) = [33] := by rw [pre, if_pos k2]
        rw [hp] at hq ⊢
        have hq : q + 1 ≤ 200 := hq
        refine ⟨8, putS 33 q μ, by decide, fun F => ?_, putS_p (by omega)⟩
        rw [m_print_b0, if_neg (nI_nle (by omega) (by omega)), nI_am, if_pos (inb_nI hk (by decide)), nI_clamp (by omega), h37, if_pos g1000, ex, if_pos i8, c8, w6, if_pos h10, if_pos k2, put_eq h6 (by omega)]
        exact kA (putS 33 q μ) (by rw [putS_2 (by decide)]; exact w6) k3 k4 F
      · have hp : pre (LQ.K X a) = [] := by rw [pre, if_neg k2, if_neg k3, if_neg k4]
        rw [hp]
        refine ⟨8, μ, by decide, fun F => ?_, Prt.rf h6⟩
        rw [m_print_b0, if_neg (nI_nle (by omega) (by omega)), nI_am, if_pos (inb_nI hk (by decide)), nI_clamp (by omega), h37, if_pos g1000, ex, if_pos i8, c8, w6, if_pos h10, if_neg k2]
        exact kA μ w6 k3 k4 F
