/-! closing what is open, side by side -/
theorem dep_le {q : Nat × Nat} {S : SK} : dep S ≤ dep (q :: S) := by
  rw [dep]; exact Nat.le_add_right _ _
theorem dep_lo {t p : Nat} {S : SK} (h : t ≤ 1) : dep ((t, p) :: S) = dep S := by
  show dep S + (if 2 ≤ t then 1 else 0) = dep S
  rw [if_neg (by omega), Nat.add_zero]
theorem dep_hi {t p : Nat} {S : SK} (h : 2 ≤ t) : dep ((t, p) :: S) = dep S + 1 := by
  show dep S + (if 2 ≤ t then 1 else 0) = dep S + 1
  rw [if_pos h]
theorem lvl_lo {t p : Nat} {S : SK} (h : ¬ 3 ≤ t) : lvl ((t, p) :: S) = lvl S := by
  show lvl S + (if 3 ≤ t then 1 else 0) = lvl S
  rw [if_neg h, Nat.add_zero]
theorem lvl_hi {t p : Nat} {S : SK} (h : 3 ≤ t) : lvl ((t, p) :: S) = lvl S + 1 := by
  show lvl S + (if 3 ≤ t then 1 else 0) = lvl S + 1
  rw [if_pos h]
theorem lst_lo {t p s : Nat} {S : SK} (h : ¬ 3 ≤ t) : lst ((t, p) :: S) s = lst S p := by
  show (if 3 ≤ t then s else lst S p) = lst S p
  rw [if_neg h]
theorem dlv_lo {t p : Nat} {S : SK} (h : ¬ 3 ≤ t) : dlv ((t, p) :: S) = dlv S := by
  show (if 3 ≤ t then dep S + 1 else dlv S) = dlv S
  rw [if_neg h]
/-- a part is read: places s .. u-1 -/
def RelB (st : RSt) (μ : MS) (S : SK) (π : Nat → Nat) (s u : Nat) : Prop := Rel st μ S π s u ∧ ∃ k, tr (lqX st.2.1 π μ) k true s u
theorem chn_id {X : LQ} : ∀ {S : SK} {s : Nat}, chn X S s → ∀ q ∈ S, q.1 ≤ 3 → q.2 < s := fun h q hq z => (chn_le h q hq).2 z
/-- a not is closed -/
theorem not_step {X : LQ} {S : SK} {p u k : Nat} (hπ : pinj (LQ.n X) u) (hu : u ≤ 40) (hc : chn X ((2, p) :: S) (p + 1)) (ht : tr X k true (p + 1) u) :
    chn (LQlr X (LQ.n X p) (nI (LQ.n X (p + 1))) (LQ.mr X (LQ.n X p))) S p ∧ tr (LQlr X (LQ.n X p) (nI (LQ.n X (p + 1))) (LQ.mr X (LQ.n X p))) (k + 1) true p u := by
  have hlt := tr_lt ht
  obtain ⟨h1, h2⟩ := hc
  have ids : ∀ j, j < u → j ≠ p → LQ.n X j ≠ LQ.n X p := fun j hj hn e => hn (hπ.2 j p hj (by omega) e)
  have ag : ∀ j, j < u → j ≠ p → lsa X (LQlr X (LQ.n X p) (nI (LQ.n X (p + 1))) (LQ.mr X (LQ.n X p))) j := fun j hj hn => lr_lsa (ids j hj hn)
  have h2 : (2 = 2 → nd X p 2) ∧ LQ.R X p = -1 ∧ LQ.mr X (LQ.n X p) = -1 := by
    rcases h2 with ⟨z, -⟩ | ⟨-, -, z2, -, z3, -, z4⟩ | ⟨z, -⟩
    · exact absurd z (by show ¬ 2 ≤ 1; decide)
    · exact ⟨z2, z3, z4⟩
    · exact absurd z (by show ¬ 2 = 4; decide)
  obtain ⟨a1, a2, a3, a4⟩ := h2.1 rfl
  refine ⟨chn_cg h1 (fun j hj => ag j (by omega) (by omega)), by omega, ?_, ?_, ?_, Or.inr (Or.inl ⟨?_, h2.2.1, upd_at, ?_, tr_cg ht (fun j x y => ag j y (by omega))⟩)⟩
  · exact a3.trans a1.symm
  · exact a4.trans a2.symm
  · show true = decide (LQ.K X p ≤ 8)
    rw [a1]; rfl
  · show un (LQ.K X p)
    rw [a1]; exact Or.inl rfl
  · show upd (LQ.mr X) (LQ.n X p) (LQ.mr X (LQ.n X p)) (LQ.n X p) = -1
    rw [upd_at]; exact h2.2.2
/-- an and or an or is closed -/
theorem bin_step {X : LQ} {S : SK} {t p s u k : Nat} (ht1 : t ≤ 1) (hπ : pinj (LQ.n X) u) (hu : u ≤ 40) (hc : chn X ((t, p) :: S) s) (ht : tr X k true s u) :
    ∃ n, chn (LQlr X (LQ.n X p) (LQ.ml X (LQ.n X p)) (nI (LQ.n X s))) S p ∧ tr (LQlr X (LQ.n X p) (LQ.ml X (LQ.n X p)) (nI (LQ.n X s))) n true p u := by
  have hlt := tr_lt ht
  obtain ⟨h1, h2⟩ := hc
  rcases h2 with ⟨-, b1, b2, b3, b4, b5, m, b6⟩ | ⟨z, -⟩ | ⟨z, -⟩
  · have b1 : p < s := b1
    have hlt2 := tr_lt b6
    have ids : ∀ j, j < u → j ≠ p → LQ.n X j ≠ LQ.n X p := fun j hj hn e => hn (hπ.2 j p hj (by omega) e)
    have ag : ∀ j, j < u → j ≠ p → lsa X (LQlr X (LQ.n X p) (LQ.ml X (LQ.n X p)) (nI (LQ.n X s))) j := fun j hj hn => lr_lsa (ids j hj hn)
    obtain ⟨a1, a2, a3, a4⟩ := b2
    have a1 : LQ.K X p = nI t := a1
    have kt : bi (nI t) ∧ decide (nI t ≤ 8) = true ∧ decide (nI t ≤ 4) = true ∧ ¬ (8 : Int32) < nI t := by
      rcases Nat.lt_or_ge t 1 with z | z
      · have : t = 0 := by omega
        subst this
        exact ⟨Or.inl (by decide), by decide, by decide, by decide⟩
      · have : t = 1 := by omega
        subst this
        exact ⟨Or.inr (Or.inl (by decide)), by decide, by decide, by decide⟩
    refine ⟨m + k + 1, chn_cg h1 (fun j hj => ag j (by omega) (by omega)), by omega, ?_, ?_, ?_, Or.inr (Or.inr ⟨?_, s, b3, ?_, upd_at, ?_, ?_, fun z => absurd z ?_⟩)⟩
    · exact a3.trans a1.symm
    · exact a4.trans a2.symm
    · show true = decide (LQ.K X p ≤ 8)
      rw [a1, kt.2.1]
    · show bi (LQ.K X p)
      rw [a1]; exact kt.1
    · show upd (LQ.ml X) (LQ.n X p) (LQ.ml X (LQ.n X p)) (LQ.n X p) = nI (LQ.n X (p + 1))
      rw [upd_at]; exact b4
    · show tr _ _ (decide (LQ.K X p ≤ 4)) _ _
      rw [a1, kt.2.2.1]
      exact tr_le (tr_cg b6 (fun j x y => ag j (by omega) (by omega))) (by omega)
    · show tr _ _ (decide (LQ.K X p ≤ 4)) _ _
      rw [a1, kt.2.2.1]
      exact tr_le (tr_cg ht (fun j x y => ag j y (by omega))) (by omega)
    · show ¬ 8 < LQ.K X p
      rw [a1]; exact kt.2.2.2
  · have z : t = 2 ∨ t = 3 := z
    omega
  · have z : t = 4 := z
    omega
theorem wl_0 {b : Int32} : wl 0 b = 0 := by rw [wl, if_neg (by decide), if_neg (by decide)]
theorem wl_1 {b : Int32} : wl 1 b = (if b = 0 then 2 else 0) := by
  rw [wl, if_neg (show ¬ (1 : Int32) = 2 by decide), if_pos (show (1 : Int32) = 1 from rfl)]
theorem wrr_0 {b : Int32} : wrr 0 b = (if b = 0 then 2 else 0) := by
  rw [wrr, if_neg (show ¬ (0 : Int32) = 1 by decide), if_pos (show (0 : Int32) = 0 from rfl)]
theorem wrr_1 {b : Int32} : wrr 1 b = (if b = 0 ∨ b = 1 then 2 else 0) := by
  rw [wrr, if_pos (show (1 : Int32) = 1 from rfl)]
theorem cwN_b {kd kl kr : Int32} {l r : Nat} (h : kd = 0 ∨ kd = 1) : cwN kd kl kr l r = l + r + wl kd kl + wrr kd kr := by
  have n : ¬ kd = 2 ∧ ¬ (kd = 3 ∨ kd = 4) := by rcases h with rfl | rfl <;> decide
  rw [cwN, if_neg n.1, if_neg n.2, if_pos h]
theorem PR.part {X : LQ} {S : SK} {s u c : Nat} (h : PR X S s u c) (hw : wp S (LQ.K X s) = 0) : PB X S s u c := by
  obtain ⟨c0, k, h1, h2, h3⟩ := h
  exact ⟨c0, k, h1, h2, by rw [hw]; omega⟩
theorem not_pot {X : LQ} {S : SK} {p u c : Nat} (hπ : pinj (LQ.n X) u) (hu : u ≤ 40) (hc : chn X ((2, p) :: S) (p + 1)) (h : PB X ((2, p) :: S) (p + 1) u c) : PB (LQlr X (LQ.n X p) (nI (LQ.n X (p + 1))) (LQ.mr X (LQ.n X p))) S p u c := by
  obtain ⟨c0, k, h1, h2, h3⟩ := h
  have hlt := tr_lt h2
  obtain ⟨-, s2⟩ := not_step hπ hu hc h2
  have ids : ∀ j, j < u → j ≠ p → LQ.n X j ≠ LQ.n X p := fun j hj hn e => hn (hπ.2 j p hj (by omega) e)
  have kp : LQ.K X p = 2 := by
    rcases hc.2 with ⟨z, -⟩ | ⟨-, -, z2, -⟩ | ⟨z, -⟩
    · exact absurd z (by show ¬ 2 ≤ 1; decide)
    · exact (z2 rfl).1
    · exact absurd z (by show ¬ 2 = 4; decide)
  have w1 : wp ((2, p) :: S) (LQ.K X (p + 1)) = wl 2 (LQ.K X (p + 1)) := by
    rw [wp, wl, if_pos (show tp ((2, p) :: S) = 1 ∨ tp ((2, p) :: S) = 2 from Or.inr rfl), if_pos rfl]
  rw [w1] at h3
  have e1 : cw (LQlr X (LQ.n X p) (nI (LQ.n X (p + 1))) (LQ.mr X (LQ.n X p))) k (p + 1) = cw X k (p + 1) := cw_cg (X := X) (by omega) h2 (Nat.le_refl _) (fun j _ _ => ⟨rfl, rfl⟩)
  have e2 : cw (LQlr X (LQ.n X p) (nI (LQ.n X (p + 1))) (LQ.mr X (LQ.n X p))) (k + 1) p = wl 2 (LQ.K X (p + 1)) + cw X k (p + 1) := by
    rw [cw, e1]
    show cwN (LQ.K X p) (LQ.K X (p + 1)) _ _ _ = _
    rw [kp, cwN, if_pos rfl]
  have e3 : wp S (LQ.K X p) = 0 := by rw [kp]; exact wp_0 (by decide)
  refine ⟨c0, k + 1, bk_cg (X := X) (by omega) (bk_2i h1 (Or.inl rfl)) hc.1 (fun j hj => lr_lsa (ids j (by omega) (by omega))), s2, ?_⟩
  rw [e2]
  show c0 + _ + wp S (LQ.K X p) ≤ c
  rw [e3]
  omega
theorem bin_pot {X : LQ} {S : SK} {t p s u c : Nat} (ht1 : t ≤ 1) (hπ : pinj (LQ.n X) u) (hu : u ≤ 40) (hc : chn X ((t, p) :: S) s) (h : PB X ((t, p) :: S) s u c) : PR (LQlr X (LQ.n X p) (LQ.ml X (LQ.n X p)) (nI (LQ.n X s))) S p u c ∧ LQ.K X p = nI t := by
  obtain ⟨c0, k, h1, h2, h3⟩ := h
  have hlt := tr_lt h2
  obtain ⟨n, -, s2⟩ := bin_step ht1 hπ hu hc h2
  obtain ⟨c', kl, b1, b2, b3⟩ := bk_01i ht1 h1
  have hlt2 := tr_lt b2
  have ids : ∀ j, j < u → j ≠ p → LQ.n X j ≠ LQ.n X p := fun j hj hn e => hn (hπ.2 j p hj (by omega) e)
  have kp : LQ.K X p = nI t ∧ LQ.R X p = nI s := by
    rcases hc.2 with ⟨-, -, z2, z3, -⟩ | ⟨z, -⟩ | ⟨z, -⟩
    · exact ⟨z2.1, z3⟩
    · have z : t = 2 ∨ t = 3 := z
      omega
    · have z : t = 4 := z
      omega
  refine ⟨?_, kp.1⟩
  have e1 : cw (LQlr X (LQ.n X p) (LQ.ml X (LQ.n X p)) (nI (LQ.n X s))) (n + kl + k) (p + 1) = cw X kl (p + 1) := cw_cg (X := X) (by omega) b2 (by omega) (fun j _ _ => ⟨rfl, rfl⟩)
  have e2 : cw (LQlr X (LQ.n X p) (LQ.ml X (LQ.n X p)) (nI (LQ.n X s))) (n + kl + k) s = cw X k s := cw_cg (X := X) (by omega) h2 (by omega) (fun j _ _ => ⟨rfl, rfl⟩)
  have e3 : cw (LQlr X (LQ.n X p) (LQ.ml X (LQ.n X p)) (nI (LQ.n X s))) (n + kl + k + 1) p = cwN (nI t) (LQ.K X (p + 1)) (LQ.K X s) (cw X kl (p + 1)) (cw X k s) := by
    have r1 : LQ.R (LQlr X (LQ.n X p) (LQ.ml X (LQ.n X p)) (nI (LQ.n X s))) p = nI s := kp.2
    rw [cw, e1, r1, nI_clamp (by omega), e2]
    show cwN (LQ.K X p) _ _ _ _ = _
    rw [kp.1]
    rfl
  refine ⟨c', n + kl + k + 1, bk_cg (X := X) (by omega) b1 hc.1 (fun j hj => lr_lsa (ids j (by omega) (by omega))), tr_le s2 (by omega), ?_⟩
  rw [e3]
  rcases Nat.lt_or_ge t 1 with z | z
  · have : t = 0 := by omega
    subst this
    rw [if_neg (fun z => absurd z.1 (by decide))] at b3
    have t0 : tp ((0, p) :: S) = 0 := rfl
    rw [wp, t0, if_neg (by decide)] at h3
    rw [show nI 0 = (0 : Int32) from rfl, cwN_b (Or.inl rfl), wl_0, wrr_0]
    omega
  · have : t = 1 := by omega
    subst this
    have b4 : (if 1 = 1 ∧ LQ.K X (p + 1) = 0 then 2 else 0) = (if LQ.K X (p + 1) = 0 then 2 else 0) := by
      by_cases y : LQ.K X (p + 1) = 0
      · rw [if_pos y, if_pos ⟨rfl, y⟩]
      · rw [if_neg y, if_neg (fun z => y z.2)]
    rw [b4] at b3
    rw [wp, if_pos (show tp ((1, p) :: S) = 1 ∨ tp ((1, p) :: S) = 2 from Or.inl rfl)] at h3
    rw [show nI 1 = (1 : Int32) from rfl, cwN_b (Or.inr rfl), wl_1, wrr_1]
    omega
theorem wp_1 {S : SK} (h : tp S = 0 ∨ 3 ≤ tp S) : wp S 1 = 0 := by
  rw [wp, if_neg (show ¬ (tp S = 1 ∨ tp S = 2) by omega), if_neg (by decide)]
theorem upd_id {f : Nat → Int32} {k : Nat} : upd f k (f k) = f := by
  funext j
  by_cases h : j = k
  · rw [h, upd_at]
  · rw [upd_ne h]
theorem lq_l {ts : TSt} {π : Nat → Nat} {μ : MS} {i : Nat} {a : Int32} : lqX ts π (sA 22 i a μ) = LQlr (lqX ts π μ) i a (LQ.mr (lqX ts π μ) i) := by
  show (_, _, _, _, (sA 22 i a μ).2.1 20, (sA 22 i a μ).2.1 21, (sA 22 i a μ).2.1 22, (sA 22 i a μ).2.1 23) = (_, _, _, _, _, _, upd (μ.2.1 22) i a, upd (μ.2.1 23) i (μ.2.1 23 i))
  rw [sA_ne (by decide), sA_ne (by decide), sA_at, sA_ne (by decide), upd_id]
  rfl
theorem lq_r {ts : TSt} {π : Nat → Nat} {μ : MS} {i : Nat} {a : Int32} : lqX ts π (sA 23 i a μ) = LQlr (lqX ts π μ) i (LQ.ml (lqX ts π μ) i) a := by
  show (_, _, _, _, (sA 23 i a μ).2.1 20, (sA 23 i a μ).2.1 21, (sA 23 i a μ).2.1 22, (sA 23 i a μ).2.1 23) = (_, _, _, _, _, _, upd (μ.2.1 22) i (μ.2.1 22 i), upd (μ.2.1 23) i a)
  rw [sA_ne (by decide), sA_ne (by decide), sA_ne (by decide), sA_at, upd_id]
  rfl
/-- what a closing leaves as it is -/
def TkF (μ μ' : MS) : Prop := (∀ j, j ≠ 26 → j ≠ 30 → μ'.1 j = μ.1 j) ∧ ∀ j, j ≠ 22 → j ≠ 23 → μ'.2.1 j = μ.2.1 j
theorem TkF.rf {μ : MS} : TkF μ μ := ⟨fun _ _ _ => rfl, fun _ _ _ => rfl⟩
theorem TkF.tr {x y z : MS} (h : TkF x y) (h2 : TkF y z) : TkF x z := ⟨fun j a b => (h2.1 j a b).trans (h.1 j a b), fun j a b => (h2.2 j a b).trans (h.2 j a b)⟩
theorem tk_top {X : LQ} {ok on : Nat → Int32} {q : Nat × Nat} {S : SK} (h : opn X ok on (q :: S)) : ok S.length = nI q.1 ∧ on S.length = (if q.1 = 4 then -1 else nI (LQ.n X q.2)) := h.2
theorem taken_sim {st : RSt} {π : Nat → Nat} {u : Nat} : ∀ (S : SK) (f s : Nat) (μ : MS), S.length + 1 ≤ f → RelB st μ S π s u → ∃ S' s' μ', m_taken_B f 0 (nI (π s)) μ = some (nI (π s'), μ') ∧ RelB st μ' S' π s' u ∧ tp S' ≠ 1 ∧ tp S' ≠ 2 ∧ TkF μ μ' ∧ dep S' ≤ dep S ∧ ∀ c, PB (lqX st.2.1 π μ) S s u c → PB (lqX st.2.1 π μ') S' s' u c
  | [], f, s, μ, hf, hR => by
    obtain ⟨f, rfl⟩ : ∃ f', f = f' + 1 := ⟨f - 1, by omega⟩
    have h30 : μ.1 30 = nI 0 := hR.1.2.2.2.2.2.2.2.2.2.1
    refine ⟨[], s, μ, ?_, hR, by decide, by decide, TkF.rf, Nat.le_refl _, fun _ h => h⟩
    rw [m_taken_B, h30, if_pos (by decide)]
  | q :: S, f, s, μ, hf, hR => by
    obtain ⟨f, rfl⟩ : ∃ f', f = f' + 1 := ⟨f - 1, by have : (q :: S).length = S.length + 1 := List.length_cons; omega⟩
    obtain ⟨⟨h27, h24, hu4, hu, hπ, hch, hsh, hdep, h26, h30, hop, h5, hrg, hrs, has, hds⟩, k, ht⟩ := id hR
    have hl6 : (q :: S).length < 64 := by
      have := shp_len hsh
      split at this <;> (try split at this) <;> omega
    have hlen : (q :: S).length = S.length + 1 := List.length_cons
    rw [hlen] at h30 hl6
    obtain ⟨o1, o2⟩ := tk_top hop
    have hlt := tr_lt ht
    have e30 : nI (S.length + 1) - 1 = nI S.length := nI_pred _
    have stop : q.1 ≠ 1 → q.1 ≠ 2 → ∃ S' s' μ', m_taken_B (f + 1) 0 (nI (π s)) μ = some (nI (π s'), μ') ∧ RelB st μ' S' π s' u ∧ tp S' ≠ 1 ∧ tp S' ≠ 2 ∧ TkF μ μ' ∧ dep S' ≤ dep (q :: S) ∧ ∀ c, PB (lqX st.2.1 π μ) (q :: S) s u c → PB (lqX st.2.1 π μ') S' s' u c := fun n1 n2 => by
      have h4 := shp_4 hsh q List.mem_cons_self
      refine ⟨q :: S, s, μ, ?_, hR, n1, n2, TkF.rf, Nat.le_refl _, fun _ h => h⟩
      rw [m_taken_B, h30, if_neg (nI_nle (by omega) (by omega)), e30, if_pos (inb_nI (by omega) (by decide)), nI_clamp (by omega), o1, if_neg (show ¬ nI q.1 = 2 from nIl (c := 2) n2 (by omega) (by decide)), if_neg (show ¬ nI q.1 = 1 from nIl (c := 1) n1 (by omega) (by decide))]
    by_cases t2 : q.1 = 2
    · obtain ⟨t, p⟩ := q
      have t2 : t = 2 := t2
      subst t2
      have hsp : s = p + 1 := by
        rcases hch.2 with ⟨z, -⟩ | ⟨-, z, -⟩ | ⟨z, -⟩
        · exact absurd z (by show ¬ 2 ≤ 1; decide)
        · exact z
        · exact absurd z (by show ¬ 2 = 4; decide)
      subst hsp
      have o2 : μ.2.1 29 S.length = nI (π p) := o2
      have ip := hπ.1 p (by omega)
      obtain ⟨c1, c2⟩ := not_step hπ hu4 hch ht
      have hX : lqX st.2.1 π (sI 26 (nI (dep S)) (sA 22 (π p) (nI (π (p + 1))) (sI 30 (nI S.length) μ))) = LQlr (lqX st.2.1 π μ) (π p) (nI (π (p + 1))) (LQ.mr (lqX st.2.1 π μ) (π p)) := lq_l (ts := st.2.1) (π := π) (μ := μ)
      have hR2 : RelB st (sI 26 (nI (dep S)) (sA 22 (π p) (nI (π (p + 1))) (sI 30 (nI S.length) μ))) S π p u := by
        have dp : dep ((2, p) :: S) = dep S + 1 := by show dep S + (if 2 ≤ 2 then 1 else 0) = _; rw [if_pos (by decide)]
        refine ⟨⟨?_, ?_, hu4, hu, hπ, ?_, hsh.1, by omega, sI_at, ?_, ?_, h5, hrg.1, hrs, has, hds⟩, k + 1, ?_⟩
        · rw [sI_ne (by decide), sA_1, sI_ne (by decide)]; exact h27
        · rw [sI_ne (by decide), sA_1, sI_ne (by decide)]; exact h24
        · rw [hX]; exact c1
        · rw [sI_ne (by decide), sA_1, sI_at]
        · rw [hX]
          exact opn_cg hop.1 (fun j hj => ⟨rfl, rfl⟩) (fun r hr z => rfl) (shp_4 hsh.1)
        · rw [hX]; exact c2
      obtain ⟨S', s', μ', r1, r2, r3, r4, r5, r6, r7⟩ := taken_sim S f p _ (by omega) hR2
      refine ⟨S', s', μ', ?_, r2, r3, r4, TkF.tr ⟨fun j a b => ?_, fun j a b => ?_⟩ r5, Nat.le_trans r6 dep_le, fun c hP => r7 c (by rw [hX]; exact not_pot hπ hu4 hch hP)⟩
      · rw [m_taken_B, h30, if_neg (nI_nle (by omega) (by omega)), e30, if_pos (inb_nI (by omega) (by decide)), nI_clamp (by omega), o1, if_pos (show nI 2 = 2 from rfl), o2, if_pos (inb_nI (by omega) (by decide)), nI_clamp (by omega)]
        have e26 : μ.1 26 - 1 = nI (dep S) := by
          have dp : dep ((2, p) :: S) = dep S + 1 := by show dep S + (if 2 ≤ 2 then 1 else 0) = _; rw [if_pos (by decide)]
          rw [h26, dp, nI_pred]
        rw [e26]
        exact r1
      · rw [sI_ne a, sA_1, sI_ne b]
      · rw [sI_2, sA_ne a, sI_2]
    · by_cases t1 : q.1 = 1
      · obtain ⟨t, p⟩ := q
        have t1 : t = 1 := t1
        subst t1
        have hps : p < s := (chn_le hch (1, p) List.mem_cons_self).2 (by show 1 ≤ 3; decide)
        have o2 : μ.2.1 29 S.length = nI (π p) := o2
        have ip := hπ.1 p (by omega)
        obtain ⟨nn, c1, c2⟩ := bin_step (t := 1) (by decide) hπ hu4 hch ht
        have hX : lqX st.2.1 π (sA 23 (π p) (nI (π s)) (sI 30 (nI S.length) μ)) = LQlr (lqX st.2.1 π μ) (π p) (LQ.ml (lqX st.2.1 π μ) (π p)) (nI (π s)) := lq_r (ts := st.2.1) (π := π) (μ := μ)
        have hR2 : RelB st (sA 23 (π p) (nI (π s)) (sI 30 (nI S.length) μ)) S π p u := by
          refine ⟨⟨?_, ?_, hu4, hu, hπ, ?_, hsh.1, hdep, ?_, ?_, ?_, h5, hrg.1, hrs, has, hds⟩, nn, ?_⟩
          · rw [sA_1, sI_ne (by decide)]; exact h27
          · rw [sA_1, sI_ne (by decide)]; exact h24
          · rw [hX]; exact c1
          · rw [sA_1, sI_ne (by decide)]; exact h26
          · rw [sA_1, sI_at]
          · rw [hX]
            exact opn_cg hop.1 (fun j hj => ⟨rfl, rfl⟩) (fun r hr z => rfl) (shp_4 hsh.1)
          · rw [hX]; exact c2
        obtain ⟨S', s', μ', r1, r2, r3, r4, r5, r6, r7⟩ := taken_sim S f p _ (by omega) hR2
        refine ⟨S', s', μ', ?_, r2, r3, r4, TkF.tr ⟨fun j a b => ?_, fun j a b => ?_⟩ r5, Nat.le_trans r6 dep_le, fun c hP => r7 c (by rw [hX]; obtain ⟨z1, z2⟩ := bin_pot (t := 1) (by decide) hπ hu4 hch hP; exact z1.part ((congrArg (wp S) z2).trans (wp_1 (hsh.2.2.1 rfl))))⟩
        · rw [m_taken_B, h30, if_neg (nI_nle (by omega) (by omega)), e30, if_pos (inb_nI (by omega) (by decide)), nI_clamp (by omega), o1, if_neg (show ¬ nI 1 = 2 by decide), if_pos (show nI 1 = 1 from rfl), o2, if_pos (inb_nI (by omega) (by decide)), nI_clamp (by omega)]
          exact r1
        · rw [sA_1, sI_ne b]
        · rw [sA_ne b, sI_2]
      · exact stop t1 t2
