/-! behind a part, side by side -/
theorem dlv_dep : ∀ {S : SK}, shp S → tp S ≠ 1 → tp S ≠ 2 → dlv S = dep S
  | [], _, _, _ => rfl
  | (t, p) :: S, h, n1, n2 => by
    obtain ⟨h1, h2, h3, h4⟩ := h
    have n1 : t ≠ 1 := n1
    have n2 : t ≠ 2 := n2
    by_cases c : 3 ≤ t
    · rw [dep_hi (by omega)]
      show (if 3 ≤ t then dep S + 1 else dlv S) = _
      rw [if_pos c]
    · have z : 3 ≤ tp S := h2 (by show t = 0; omega)
      rw [dlv_lo c, dep_lo (by omega)]
      exact dlv_dep h1 (by omega) (by omega)
theorem ast_s : ∀ {S : SK} {s : Nat}, tp S ≠ 1 → tp S ≠ 2 → ast S s = s
  | [], _, _, _ => rfl
  | (t, p) :: S, s, n1, n2 => by
    have n1 : t ≠ 1 := n1
    have n2 : t ≠ 2 := n2
    show (if 3 ≤ t then s else if t = 0 then s else ast S p) = s
    by_cases c : 3 ≤ t
    · rw [if_pos c]
    · rw [if_neg c, if_pos (by omega)]
theorem lst_s : ∀ {S : SK} {s : Nat}, 3 ≤ tp S → lst S s = s
  | [], _, _ => rfl
  | (t, p) :: S, s, h => by
    have h : 3 ≤ t := h
    show (if 3 ≤ t then s else lst S p) = s
    rw [if_pos h]
/-- as Rel, but for where the row of ands begins -/
def RelN (st : RSt) (μ : MS) (S : SK) (π : Nat → Nat) (s u : Nat) : Prop :=
  μ.1 27 = -1 ∧ μ.1 24 = nI u ∧ u ≤ 40 ∧ st.2.1.2.2.2 = u ∧ pinj π u ∧ chn (lqX st.2.1 π μ) S s ∧ shp S ∧ dep S ≤ 10 ∧ μ.1 26 = nI (dep S) ∧ μ.1 30 = nI S.length ∧ opn (lqX st.2.1 π μ) (μ.2.1 28) (μ.2.1 29) S ∧ st.1 5 = nI (lvl S) ∧ rgs st.2.2.1 st.2.2.2.1 st.2.2.2.2 S ∧ st.2.2.1 (lvl S) = nI (lst S s) ∧ st.2.2.2.2 (lvl S) = nI (dlv S)
theorem Rel.nas {st : RSt} {μ : MS} {S : SK} {π : Nat → Nat} {s u : Nat} (h : Rel st μ S π s u) : RelN st μ S π s u := by
  obtain ⟨h27, h24, hu4, hu, hπ, hch, hsh, hdep, h26, h30, hop, h5, hrg, hrs, has, hds⟩ := h
  exact ⟨h27, h24, hu4, hu, hπ, hch, hsh, hdep, h26, h30, hop, h5, hrg, hrs, hds⟩
theorem Rel.at {st : RSt} {μ : MS} {S : SK} {π : Nat → Nat} {s u : Nat} {a : Int32} (h : Rel st μ S π s u) : Rel st (sI 25 a μ) S π s u := by
  obtain ⟨h27, h24, hu4, hu, hπ, hch, hsh, hdep, h26, h30, hop, h5, hrg, hrs, has, hds⟩ := h
  exact ⟨by rw [sI_ne (by decide)]; exact h27, by rw [sI_ne (by decide)]; exact h24, hu4, hu, hπ, hch, hsh, hdep, by rw [sI_ne (by decide)]; exact h26, by rw [sI_ne (by decide)]; exact h30, hop, h5, hrg, hrs, has, hds⟩
theorem shp_64 {S : SK} (hsh : shp S) (hd : dep S ≤ 10) : S.length < 64 := by
  have := shp_len hsh
  split at this <;> (try split at this) <;> omega
/-- or(): an or that is open is closed -/
theorem or_sim {st : RSt} {μ : MS} {S : SK} {π : Nat → Nat} {s u c : Nat} (hR : Rel st μ S π s u) (n1 : tp S ≠ 1) (n2 : tp S ≠ 2) (hP : PB (lqX st.2.1 π μ) S s u c) :
    ∃ S' s' μ', m_or (nI (π s)) μ = some (nI (π s'), μ') ∧ RelN st μ' S' π s' u ∧ PR (lqX st.2.1 π μ') S' s' u c ∧ 3 ≤ tp S' ∧ lst S s = s' ∧ lvl S' = lvl S ∧ dep S' = dep S ∧ dlv S' = dlv S ∧ (∀ j, j ≠ 30 → μ'.1 j = μ.1 j) ∧ ∀ j, j ≠ 23 → μ'.2.1 j = μ.2.1 j := by
  obtain ⟨h27, h24, hu4, hu, hπ, hch, hsh, hdep, h26, h30, hop, h5, hrg, hrs, has, hds⟩ := id hR
  have hl6 := shp_64 hsh hdep
  cases S with
  | nil =>
    have h30 : μ.1 30 = nI 0 := h30
    refine ⟨[], s, μ, ?_, hR.nas, hP.rule, by decide, rfl, rfl, rfl, rfl, fun _ _ => rfl, fun _ _ => rfl⟩
    rw [m_or, h30, if_pos nI_0]
  | cons q S =>
    obtain ⟨t, p⟩ := q
    have n1 : t ≠ 1 := n1
    have n2 : t ≠ 2 := n2
    have hlen : ((t, p) :: S).length = S.length + 1 := List.length_cons
    rw [hlen] at h30 hl6
    obtain ⟨o1, o2⟩ := tk_top hop
    have e30 : nI (S.length + 1) - 1 = nI S.length := nI_pred _
    have e0 : ¬ nI (S.length + 1) = 0 := nIl (c := 0) (by omega) (by omega) (by decide)
    have h4 : t ≤ 4 := hsh.2.2.2
    by_cases t0 : t = 0
    · subst t0
      have hps : p < s := (chn_le hch (0, p) List.mem_cons_self).2 (by show 0 ≤ 3; decide)
      have o1 : μ.2.1 28 S.length = nI 0 := o1
      have o2 : μ.2.1 29 S.length = nI (π p) := o2
      obtain ⟨z1, z2⟩ := bin_pot (t := 0) (by decide) hπ hu4 hch hP
      obtain ⟨c0, k, b1, b2, b3⟩ := hP
      have hlt := tr_lt b2
      have ip := hπ.1 p (by omega)
      obtain ⟨nn, d1, d2⟩ := bin_step (t := 0) (by decide) hπ hu4 hch b2
      have hX : lqX st.2.1 π (sA 23 (π p) (nI (π s)) (sI 30 (nI S.length) μ)) = LQlr (lqX st.2.1 π μ) (π p) (LQ.ml (lqX st.2.1 π μ) (π p)) (nI (π s)) := lq_r (ts := st.2.1) (π := π) (μ := μ)
      have ht3 : 3 ≤ tp S := hsh.2.1 rfl
      have lv : lvl ((0, p) :: S) = lvl S := lvl_lo (by decide)
      have dp : dep ((0, p) :: S) = dep S := dep_lo (by decide)
      have dl : dlv ((0, p) :: S) = dlv S := dlv_lo (by decide)
      have ls : lst ((0, p) :: S) s = lst S p := lst_lo (by decide)
      rw [lv, ls] at hrs
      rw [lv, dl] at hds
      refine ⟨S, p, sA 23 (π p) (nI (π s)) (sI 30 (nI S.length) μ), ?_, ⟨?_, ?_, hu4, hu, hπ, ?_, hsh.1, by omega, ?_, ?_, ?_, by rw [← lv]; exact h5, hrg.1, hrs, hds⟩, by rw [hX]; exact z1, ht3, by rw [ls]; exact lst_s ht3, lv.symm, dp.symm, dl.symm, fun j a => ?_, fun j a => ?_⟩
      · rw [m_or, h30, if_neg e0, e30, if_pos (inb_nI (by omega) (by decide)), nI_clamp (by omega), o1, if_pos nI_0, o2, if_pos (inb_nI (by omega) (by decide)), nI_clamp (by omega)]
      · rw [sA_1, sI_ne (by decide)]; exact h27
      · rw [sA_1, sI_ne (by decide)]; exact h24
      · rw [hX]; exact d1
      · rw [sA_1, sI_ne (by decide), ← dp]; exact h26
      · rw [sA_1, sI_at]
      · rw [hX]
        exact opn_cg hop.1 (fun j hj => ⟨rfl, rfl⟩) (fun r hr z => rfl) (shp_4 hsh.1)
      · rw [sA_1, sI_ne a]
      · rw [sA_ne a, sI_2]
    · have ht3 : 3 ≤ t := by omega
      have o1 : μ.2.1 28 S.length = nI t := o1
      refine ⟨(t, p) :: S, s, μ, ?_, hR.nas, hP.rule, ht3, lst_s (S := (t, p) :: S) ht3, rfl, rfl, rfl, fun _ _ => rfl, fun _ _ => rfl⟩
      rw [m_or, h30, if_neg e0, e30, if_pos (inb_nI (by omega) (by decide)), nI_clamp (by omega), o1, if_neg (show ¬ nI t = 0 from nIl (c := 0) t0 (by omega) (by decide))]
/-- all( and any( are closed -/
theorem all_step {X : LQ} {S : SK} {p u k : Nat} (hπ : pinj (LQ.n X) u) (hu : u ≤ 40) (hc : chn X ((3, p) :: S) (p + 1)) (ht : tr X k true (p + 1) u) :
    chn (LQlr X (LQ.n X p) (nI (LQ.n X (p + 1))) (LQ.mr X (LQ.n X p))) S p ∧ tr (LQlr X (LQ.n X p) (nI (LQ.n X (p + 1))) (LQ.mr X (LQ.n X p))) (k + 1) true p u ∧ (LQ.K X p = 3 ∨ LQ.K X p = 4) := by
  have hlt := tr_lt ht
  obtain ⟨h1, h2⟩ := hc
  have ids : ∀ j, j < u → j ≠ p → LQ.n X j ≠ LQ.n X p := fun j hj hn e => hn (hπ.2 j p hj (by omega) e)
  have ag : ∀ j, j < u → j ≠ p → lsa X (LQlr X (LQ.n X p) (nI (LQ.n X (p + 1))) (LQ.mr X (LQ.n X p))) j := fun j hj hn => lr_lsa (ids j hj hn)
  have h2 : (nd X p 3 ∨ nd X p 4) ∧ LQ.R X p = -1 ∧ LQ.mr X (LQ.n X p) = -1 := by
    rcases h2 with ⟨z, -⟩ | ⟨-, -, -, z2, z3, -, z4⟩ | ⟨z, -⟩
    · exact absurd z (by show ¬ 3 ≤ 1; decide)
    · exact ⟨z2 rfl, z3, z4⟩
    · exact absurd z (by show ¬ 3 = 4; decide)
  have h3 : (LQ.K X p = 3 ∨ LQ.K X p = 4) ∧ LQ.mk X (LQ.n X p) = LQ.K X p ∧ LQ.mt X (LQ.n X p) = LQ.V X p := by
    rcases h2.1 with ⟨a1, a2, a3, a4⟩ | ⟨a1, a2, a3, a4⟩
    · exact ⟨Or.inl a1, a3.trans a1.symm, a4.trans a2.symm⟩
    · exact ⟨Or.inr a1, a3.trans a1.symm, a4.trans a2.symm⟩
  refine ⟨chn_cg h1 (fun j hj => ag j (by omega) (by omega)), ⟨by omega, h3.2.1, h3.2.2, ?_, Or.inr (Or.inl ⟨?_, h2.2.1, upd_at, ?_, tr_cg ht (fun j x y => ag j y (by omega))⟩)⟩, h3.1⟩
  · show true = decide (LQ.K X p ≤ 8)
    rcases h3.1 with z | z <;> rw [z] <;> rfl
  · show un (LQ.K X p)
    exact Or.inr h3.1
  · show upd (LQ.mr X) (LQ.n X p) (LQ.mr X (LQ.n X p)) (LQ.n X p) = -1
    rw [upd_at]; exact h2.2.2
theorem all_pot {X : LQ} {S : SK} {p u c : Nat} (hπ : pinj (LQ.n X) u) (hu : u ≤ 40) (hc : chn X ((3, p) :: S) (p + 1)) (h : PR X ((3, p) :: S) (p + 1) u c) : PB (LQlr X (LQ.n X p) (nI (LQ.n X (p + 1))) (LQ.mr X (LQ.n X p))) S p u (c + 1) := by
  obtain ⟨c0, k, h1, h2, h3⟩ := h
  have hlt := tr_lt h2
  obtain ⟨-, s2, kp⟩ := all_step hπ hu hc h2
  have ids : ∀ j, j < u → j ≠ p → LQ.n X j ≠ LQ.n X p := fun j hj hn e => hn (hπ.2 j p hj (by omega) e)
  have e1 : cw (LQlr X (LQ.n X p) (nI (LQ.n X (p + 1))) (LQ.mr X (LQ.n X p))) k (p + 1) = cw X k (p + 1) := cw_cg (X := X) (by omega) h2 (Nat.le_refl _) (fun j _ _ => ⟨rfl, rfl⟩)
  have e2 : cw (LQlr X (LQ.n X p) (nI (LQ.n X (p + 1))) (LQ.mr X (LQ.n X p))) (k + 1) p = 1 + cw X k (p + 1) := by
    rw [cw, e1]
    show cwN (LQ.K X p) (LQ.K X (p + 1)) _ _ _ = _
    rw [cwN, if_neg (by rcases kp with z | z <;> rw [z] <;> decide), if_pos kp]
  have e3 : wp S (LQ.K X p) = 0 := wp_0 (by rcases kp with z | z <;> rw [z] <;> decide)
  refine ⟨c0, k + 1, bk_cg (X := X) (by omega) (bk_2i h1 (Or.inr rfl)) hc.1 (fun j hj => lr_lsa (ids j (by omega) (by omega))), s2, ?_⟩
  rw [e2]
  show c0 + _ + wp S (LQ.K X p) ≤ c + 1
  rw [e3]
  omega
theorem par_pot {X : LQ} {S : SK} {p u c : Nat} (h : PR X ((4, p) :: S) p u c) : PB X S p u (c + 1) := by
  obtain ⟨c0, k, h1, h2, h3⟩ := h
  obtain ⟨c', b1, b2⟩ := bk_4i h1
  have := wp_le S (LQ.K X p)
  exact ⟨c', k, b1, h2, by omega⟩
theorem cl_3 {st st' : RSt} {μ : MS} {S : SK} {π : Nat → Nat} {p s u c : Nat} {a : Int32} (hR : RelN st μ ((3, p) :: S) π s u) (h2 : st'.2 = st.2) (h5 : st'.1 5 = nI (lvl S)) (hP : PR (lqX st.2.1 π μ) ((3, p) :: S) s u c) :
    π p < 40 ∧ μ.2.1 28 S.length = nI 3 ∧ μ.2.1 29 S.length = nI (π p) ∧ RelB st' (sA 22 (π p) (nI (π s)) (sI 25 a (sI 26 (nI (dep S)) (sI 30 (nI S.length) μ)))) S π p u ∧ PB (lqX st'.2.1 π (sA 22 (π p) (nI (π s)) (sI 25 a (sI 26 (nI (dep S)) (sI 30 (nI S.length) μ))))) S p u (c + 1) := by
  obtain ⟨h27, h24, hu4, hu, hπ, hch, hsh, hdep, h26, h30, hop, -, hrg, hrs, hds⟩ := hR
  have hsp : s = p + 1 := by
    rcases hch.2 with ⟨z, -⟩ | ⟨-, z, -⟩ | ⟨z, -⟩
    · exact absurd z (by show ¬ 3 ≤ 1; decide)
    · exact z
    · exact absurd z (by show ¬ 3 = 4; decide)
  subst hsp
  obtain ⟨o1, o2⟩ := tk_top hop
  have o1 : μ.2.1 28 S.length = nI 3 := o1
  have o2 : μ.2.1 29 S.length = nI (π p) := o2
  have dp : dep ((3, p) :: S) = dep S + 1 := dep_hi (by decide)
  have hp2 := all_pot hπ hu4 hch hP
  obtain ⟨c0, k, b1, b2, b3⟩ := hP
  have hlt := tr_lt b2
  have ip := hπ.1 p (by omega)
  obtain ⟨d1, d2, d3⟩ := all_step hπ hu4 hch b2
  obtain ⟨g1, g2, g3⟩ := hrg.2 (by show 3 ≤ 3; decide)
  have hX : lqX st'.2.1 π (sA 22 (π p) (nI (π (p + 1))) (sI 25 a (sI 26 (nI (dep S)) (sI 30 (nI S.length) μ)))) = LQlr (lqX st.2.1 π μ) (π p) (nI (π (p + 1))) (LQ.mr (lqX st.2.1 π μ) (π p)) := by
    rw [h2]
    exact lq_l (ts := st.2.1) (π := π) (μ := μ)
  refine ⟨by omega, o1, o2, ⟨⟨?_, ?_, hu4, by rw [h2]; exact hu, hπ, ?_, hsh.1, by omega, ?_, ?_, ?_, h5, by rw [h2]; exact hrg.1, by rw [h2]; exact g1, by rw [h2]; exact g2, by rw [h2]; exact g3⟩, k + 1, ?_⟩, ?_⟩
  · rw [sA_1, sI_ne (by decide), sI_ne (by decide), sI_ne (by decide)]; exact h27
  · rw [sA_1, sI_ne (by decide), sI_ne (by decide), sI_ne (by decide)]; exact h24
  · rw [hX]; exact d1
  · rw [sA_1, sI_ne (by decide), sI_at]
  · rw [sA_1, sI_ne (by decide), sI_ne (by decide), sI_at]
  · rw [hX]
    exact opn_cg hop.1 (fun j hj => ⟨rfl, rfl⟩) (fun r hr z => rfl) (shp_4 hsh.1)
  · rw [hX]; exact d2
  · rw [hX]; exact hp2
theorem cl_4 {st st' : RSt} {μ : MS} {S : SK} {π : Nat → Nat} {p s u c : Nat} {a : Int32} (hR : RelN st μ ((4, p) :: S) π s u) (h2 : st'.2 = st.2) (h5 : st'.1 5 = nI (lvl S)) (hP : PR (lqX st.2.1 π μ) ((4, p) :: S) s u c) :
    s = p ∧ μ.2.1 28 S.length = nI 4 ∧ RelB st' (sI 25 a (sI 26 (nI (dep S)) (sI 30 (nI S.length) μ))) S π p u ∧ PB (lqX st'.2.1 π (sI 25 a (sI 26 (nI (dep S)) (sI 30 (nI S.length) μ)))) S p u (c + 1) := by
  obtain ⟨h27, h24, hu4, hu, hπ, hch, hsh, hdep, h26, h30, hop, -, hrg, hrs, hds⟩ := hR
  have hsp : s = p := by
    rcases hch.2 with ⟨z, -⟩ | ⟨z, -⟩ | ⟨-, z⟩
    · exact absurd z (by show ¬ 4 ≤ 1; decide)
    · exact absurd z (by show ¬ (4 = 2 ∨ 4 = 3); decide)
    · exact z
  subst hsp
  obtain ⟨o1, o2⟩ := tk_top hop
  have o1 : μ.2.1 28 S.length = nI 4 := o1
  have dp : dep ((4, s) :: S) = dep S + 1 := dep_hi (by decide)
  have hp2 := par_pot hP
  obtain ⟨c0, k, b1, b2, b3⟩ := hP
  obtain ⟨g1, g2, g3⟩ := hrg.2 (by show 3 ≤ 4; decide)
  have hX : lqX st'.2.1 π (sI 25 a (sI 26 (nI (dep S)) (sI 30 (nI S.length) μ))) = lqX st.2.1 π μ := by
    rw [h2]
    rfl
  refine ⟨rfl, o1, ⟨⟨?_, ?_, hu4, by rw [h2]; exact hu, hπ, ?_, hsh.1, by omega, ?_, ?_, ?_, h5, by rw [h2]; exact hrg.1, by rw [h2]; exact g1, by rw [h2]; exact g2, by rw [h2]; exact g3⟩, k, ?_⟩, ?_⟩
  · rw [sI_ne (by decide), sI_ne (by decide), sI_ne (by decide)]; exact h27
  · rw [sI_ne (by decide), sI_ne (by decide), sI_ne (by decide)]; exact h24
  · rw [hX]; exact hch.1
  · rw [sI_ne (by decide), sI_at]
  · rw [sI_ne (by decide), sI_ne (by decide), sI_at]
  · rw [hX]; exact hop.1
  · rw [hX]; exact b2
  · rw [hX]; exact hp2
/-- an and or an or is opened over what was read -/
theorem ins_push {X : LQ} {S : SK} {t s u k : Nat} (ht : t ≤ 1) (hπ : pinj (LQ.n X) u) (hu : u < 40) (hc : chn X S s) (h : tr X k true s u) :
    chn (LQlr (LQins X s u (nI t)) u (nI (LQ.n X s)) (-1)) ((t, s) :: S) (u + 1) ∧ (∀ j, j < s → lsa X (LQlr (LQins X s u (nI t)) u (nI (LQ.n X s)) (-1)) j) ∧ pinj (LQ.n (LQlr (LQins X s u (nI t)) u (nI (LQ.n X s)) (-1))) (u + 1) ∧ ∀ c0 c, bk X S s c0 → c0 + cw X k s + (if t = 1 ∧ LQ.K X s = 0 then 2 else 0) ≤ c → bk (LQlr (LQins X s u (nI t)) u (nI (LQ.n X s)) (-1)) ((t, s) :: S) (u + 1) c := by
  have hlt := tr_lt h
  have p1 : pinj (LQ.n (LQins X s u (nI t))) (u + 1) := pinj_ins hπ (by omega)
  have ns : LQ.n (LQins X s u (nI t)) s = u := insP_at
  have ids : ∀ j, j < u + 1 → j ≠ s → LQ.n (LQins X s u (nI t)) j ≠ u := fun j hj hn e => hn (p1.2 j s hj (by omega) (e.trans ns.symm))
  have t1 : tr (LQins X s u (nI t)) k true (s + 1) (u + 1) := tr_sh (by omega) h (fun j a b => ins_lss hπ a b)
  have t2 : tr (LQlr (LQins X s u (nI t)) u (nI (LQ.n X s)) (-1)) k true (s + 1) (u + 1) := tr_cg t1 (fun j a b => lr_lsa (ids j (by omega) (by omega)))
  have ag : ∀ j, j < s → lsa X (LQlr (LQins X s u (nI t)) u (nI (LQ.n X s)) (-1)) j := fun j hj => lsa_tr (ins_lsa hπ (by omega) hj) (lr_lsa (ids j (by omega) (by omega)))
  have hn1 : LQ.n (LQins X s u (nI t)) (s + 1) = LQ.n X s := insP_gt (Nat.le_refl _)
  refine ⟨⟨chn_cg hc ag, Or.inl ⟨ht, by show s < u + 1; omega, ⟨insK_at, insK_at, ?_, ?_⟩, insR_at, ?_, ?_, k, t2⟩⟩, ag, p1, fun c0 c hb hle => bk_01 ht (bk_cg (X := X) (by omega) hb hc ag) t2 ?_⟩
  · show upd (LQ.mk X) u (nI t) (LQ.n (LQins X s u (nI t)) s) = nI t
    rw [ns, upd_at]
  · show upd (LQ.mt X) u (-1) (LQ.n (LQins X s u (nI t)) s) = -1
    rw [ns, upd_at]
  · show upd (upd (LQ.ml X) u (-1)) u (nI (LQ.n X s)) (LQ.n (LQins X s u (nI t)) s) = nI (LQ.n (LQins X s u (nI t)) (s + 1))
    rw [ns, upd_at, hn1]
  · show upd (upd (LQ.mr X) u (-1)) u (-1) (LQ.n (LQins X s u (nI t)) s) = -1
    rw [ns, upd_at]
  · have e1 : cw (LQlr (LQins X s u (nI t)) u (nI (LQ.n X s)) (-1)) k (s + 1) = cw (LQins X s u (nI t)) k (s + 1) := cw_cg (X := LQins X s u (nI t)) (by omega) t1 (Nat.le_refl _) (fun j _ _ => ⟨rfl, rfl⟩)
    have e2 : cw (LQins X s u (nI t)) k (s + 1) = cw X k s := cw_sh (by omega) h (fun j a b => ins_lss hπ a b)
    have e3 : LQ.K (LQlr (LQins X s u (nI t)) u (nI (LQ.n X s)) (-1)) (s + 1) = LQ.K X s := insK_gt (Nat.le_refl _) hlt
    rw [e1, e2, e3]
    exact hle
theorem lq_s {ts : TSt} {π : Nat → Nat} {μ : MS} {k i : Nat} {a : Int32} (h : 24 ≤ k) : lqX ts π (sA k i a μ) = lqX ts π μ := by
  show (_, _, _, _, (sA k i a μ).2.1 20, (sA k i a μ).2.1 21, (sA k i a μ).2.1 22, (sA k i a μ).2.1 23) = _
  rw [sA_ne (by omega), sA_ne (by omega), sA_ne (by omega), sA_ne (by omega)]
  rfl
set_option maxHeartbeats 1000000 in
theorem push_sim {g : Nat → Int32} {len n u t s b c : Nat} {st st' : RSt} {μ : MS} {S : SK} {π : Nat → Nat} (ht : t ≤ 1) (hR : RelN st μ S π s u) (hu40 : u < 40) (hs0 : t = 0 → 3 ≤ tp S) (hs1 : t = 1 → tp S = 0 ∨ 3 ≤ tp S)
    (hk : ∃ c0 k, bk (lqX st.2.1 π μ) S s c0 ∧ tr (lqX st.2.1 π μ) k true s u ∧ c0 + cw (lqX st.2.1 π μ) k s + (if t = 1 ∧ LQ.K (lqX st.2.1 π μ) s = 0 then 2 else 0) ≤ c)
    (hst : st'.2.1 = (insK st.2.1.1 u s (nI t), insK st.2.1.2.1 u s (-1), insR st.2.1.2.2.1 u s, u + 1))
    (hrs' : st'.2.2.1 = st.2.2.1) (hds' : st'.2.2.2.2 = st.2.2.2.2) (has' : st'.2.2.2.1 (lvl S) = nI (ast ((t, s) :: S) (u + 1))) (has2 : ∀ j, j < lvl S → st'.2.2.2.1 j = st.2.2.2.1 j)
    (h5' : st'.1 5 = st.1 5) (h9' : st'.1 9 = 0) (h6' : st'.1 6 = nI (dep S)) (h10' : st'.1 10 = nI (b + 1)) (h1 : μ.2.1 1 = g) (h2 : μ.1 2 = nI len) (hl : len ≤ 200) (hb : b < len) (hn : len ≤ n + b) (hSN : SN st + c ≤ b) :
    RelW g len st' (sI 25 (nI (b + 1)) (sI 30 (nI (S.length + 1)) (sA 29 S.length (nI u) (sA 28 S.length (nI t) (sA 22 u (nI (π s)) (nodeS (nI t) u μ)))))) ((t, s) :: S) (insP π s u) (u + 1) n := by
  obtain ⟨h27, h24, hu4, hu, hπ, hch, hsh, hdep, h26, h30, hop, h5, hrg, hrs, hds⟩ := hR
  obtain ⟨c0, k, k1, k2, k3⟩ := hk
  obtain ⟨i1, i2, i3, i4⟩ := ins_push (X := lqX st.2.1 π μ) ht hπ hu40 hch k2
  obtain ⟨n20, n21, n22, n23, nar, n24, nin⟩ := nodeS_k (k := nI t) (u := u) (μ := μ)
  have hi : lqX st'.2.1 (insP π s u) (nodeS (nI t) u μ) = LQins (lqX st.2.1 π μ) s u (nI t) := by
    have := lq_ins (ts := st.2.1) (ts' := st'.2.1) (π := π) (μ := μ) (a := μ.1 25) (s := s) (u := u) (k := nI t) hst
    rw [sI_id rfl] at this
    exact this
  have hX : lqX st'.2.1 (insP π s u) (sI 25 (nI (b + 1)) (sI 30 (nI (S.length + 1)) (sA 29 S.length (nI u) (sA 28 S.length (nI t) (sA 22 u (nI (π s)) (nodeS (nI t) u μ)))))) = LQlr (LQins (lqX st.2.1 π μ) s u (nI t)) u (nI (LQ.n (lqX st.2.1 π μ) s)) (-1) := by
    show lqX st'.2.1 (insP π s u) (sA 29 S.length (nI u) (sA 28 S.length (nI t) (sA 22 u (nI (π s)) (nodeS (nI t) u μ)))) = _
    rw [lq_s (by decide), lq_s (by decide), lq_l, hi]
    have e : LQ.mr (LQins (lqX st.2.1 π μ) s u (nI t)) u = -1 := upd_at
    rw [e]
    rfl
  have lv : lvl ((t, s) :: S) = lvl S := lvl_lo (by omega)
  have dp : dep ((t, s) :: S) = dep S := dep_lo ht
  refine ⟨⟨?_, ?_, by omega, by rw [hst], i3, ?_, shp_c hsh hs0 hs1 (by omega), by omega, ?_, ?_, ?_, by rw [h5', lv]; exact h5, rgs_lo (rgs_cg hrg (fun j hj => ⟨by rw [hrs'], has2 j hj, by rw [hds']⟩)) (by omega), ?_, by rw [lv]; exact has', ?_⟩, ?_, ?_, h9', by rw [dp]; exact h6', b + 1, b + 1, h10', by omega, by omega, sI_at, by omega, rfl, c, ?_, ?_⟩
  · rw [sI_ne (by decide), sI_ne (by decide), sA_1, sA_1, sA_1, nin 27 (by decide)]; exact h27
  · rw [sI_ne (by decide), sI_ne (by decide), sA_1, sA_1, sA_1]; exact n24
  · rw [hX]; exact i1
  · rw [sI_ne (by decide), sI_ne (by decide), sA_1, sA_1, sA_1, nin 26 (by decide), dp]; exact h26
  · rw [sI_ne (by decide), sI_at]; rfl
  · have e28 : (sI 25 (nI (b + 1)) (sI 30 (nI (S.length + 1)) (sA 29 S.length (nI u) (sA 28 S.length (nI t) (sA 22 u (nI (π s)) (nodeS (nI t) u μ)))))).2.1 28 = upd (μ.2.1 28) S.length (nI t) := by rw [sI_2, sI_2, sA_ne (by decide), sA_at, sA_ne (by decide), nar 28 (by decide) (by decide) (by decide) (by decide)]
    have e29 : (sI 25 (nI (b + 1)) (sI 30 (nI (S.length + 1)) (sA 29 S.length (nI u) (sA 28 S.length (nI t) (sA 22 u (nI (π s)) (nodeS (nI t) u μ)))))).2.1 29 = upd (μ.2.1 29) S.length (nI u) := by rw [sI_2, sI_2, sA_at, sA_ne (by decide), sA_ne (by decide), nar 29 (by decide) (by decide) (by decide) (by decide)]
    rw [e28, e29, hX]
    refine opn_push hop (fun r hr z => (i2 r.2 ((chn_le hch r hr).2 z)).2.2.2.1.symm) (shp_4 hsh) ?_
    rw [if_neg (by omega)]
    show nI u = nI (insP π s u s)
    rw [insP_at]
  · rw [lv, lst_lo (by omega), hrs']; exact hrs
  · rw [lv, dlv_lo (by omega), hds']; exact hds
  · rw [sI_2, sI_2, sA_ne (by decide), sA_ne (by decide), sA_ne (by decide), nar 1 (by decide) (by decide) (by decide) (by decide)]; exact h1
  · rw [sI_ne (by decide), sI_ne (by decide), sA_1, sA_1, sA_1, nin 2 (by decide)]; exact h2
  · rw [hX]; exact i4 c0 c k1 k3
  · have e : SN st' = SN st + 1 := by
      show sN st'.2.1.1 st'.2.1.2.1 st'.2.1.2.2.2 = sN st.2.1.1 st.2.1.2.1 st.2.1.2.2.2 + 1
      have hlt := tr_lt k2
      have n1 : nc (nI t) (-1) = 1 := by
        rcases Nat.lt_or_ge t 1 with z | z
        · have : t = 0 := by omega
          subst this; rfl
        · have : t = 1 := by omega
          subst this; rfl
      rw [hst]
      show sN (insK st.2.1.1 u s (nI t)) (insK st.2.1.2.1 u s (-1)) (u + 1) = _
      rw [sN_ins (by omega), n1, hu]
    omega
/-! the class behind a part -/
section BBP
variable {st : RSt}
theorem bBP_e {L : Nat} (h : st.1 5 = nI L) (hL : L < 11) : bBP st = bBP1 (qs 6 (st.2.2.2.2 L) st) := by
  rw [bBP, h, if_neg (nI_pos (by omega)), if_pos (show nI L < 11 from nI_lt (b := 11) hL (by decide)), nI_clamp (by omega)]
theorem bBP1_38 {L : Nat} (h : st.1 11 = 38) (h5 : st.1 5 = nI L) (hL : L < 11) : bBP1 st = bTr (tIns (st.2.2.2.1 L) 1 st.2.1) (qs 9 0 st) := by
  rw [bBP1, if_pos h, h5, nI_clamp (by omega)]
theorem bBP1_41 (h : st.1 11 = 41) : bBP1 st = bEnd st := by rw [bBP1, if_neg (by rw [h]; decide), if_pos h]
theorem bBP1_124 {L : Nat} (h : st.1 11 = 124) (h5 : st.1 5 = nI L) (hL : L < 11) : bBP1 st = ((tIns (st.2.2.1 L) 0 st.2.1).1, (upd st.1 9 0, (tIns (st.2.2.1 L) 0 st.2.1).2, st.2.2.1, upd st.2.2.2.1 L (nI (tIns (st.2.2.1 L) 0 st.2.1).2.2.2.2), st.2.2.2.2)) := by
  rw [bBP1, if_neg (by rw [h]; decide), if_neg (by rw [h]; decide), if_pos h, h5, nI_clamp (by omega)]
theorem bBP1_o {c : Int32} (h : st.1 11 = c) (n1 : ¬ c = 38) (n2 : ¬ c = 41) (n3 : ¬ c = 124) : bBP1 st = (decide (c = 0) && decide (st.1 5 = 0), st) := by
  rw [bBP1, h, if_neg n1, if_neg n2, if_neg n3]
theorem bEnd_0 (h : st.1 5 = nI 0) : bEnd st = (false, st) := by
  rw [bEnd, rEnd, if_pos (by rw [h]; decide)]
  rfl
theorem bEnd_s {L : Nat} (h : st.1 5 = nI (L + 1)) (hL : L < 10) : bEnd st = (true, (upd (upd st.1 5 (nI L)) 9 5, st.2)) := by
  have h1 : ¬ st.1 5 < 1 := by rw [h]; exact nI_nlt (a := L + 1) (b := 1) (by omega) (by omega)
  have h2 : st.1 5 < 11 := by rw [h]; exact nI_lt (b := 11) (by omega) (by decide)
  rw [bEnd, rEnd, if_neg h1, if_pos h2, h, nI_pred]
  rfl
theorem bTake_B {c : Int32} (h11 : st.1 11 = c) (h : (st.1 9 = 4 ∧ ¬ st.1 8 = 0 ∧ ¬ c = 43 ∧ ¬ c = 45) ∨ st.1 9 = 5) : bTake st = bBP st ∨ ((c = 35 ∨ c = 60 ∨ c = 61 ∨ c = 62) ∧ bTake st = (false, st)) := by
  rcases h with ⟨h9, h8, n1, n2⟩ | h9
  · rw [bTake_4 h9]
    by_cases q : c = 35 ∨ c = 60 ∨ c = 61 ∨ c = 62
    · exact Or.inr ⟨q, bBT_cn h11 (fun z => z.elim n1 n2) q h8⟩
    · exact Or.inl (bBT_p h11 (fun z => z.elim n1 n2) q h8)
  · exact Or.inl (bTake_5 h9)
end BBP
/-- closing, where the reading has failed -/
theorem taken_some {X : LQ} : ∀ (S : SK) (f : Nat) (x : Int32) (μ : MS), S.length + 1 ≤ f → S.length < 64 → μ.1 30 = nI S.length → opn X (μ.2.1 28) (μ.2.1 29) S → (∀ q ∈ S, q.1 ≤ 4 ∧ (q.1 ≤ 3 → LQ.n X q.2 < 40)) → ∃ x' μ', m_taken_B f 0 x μ = some (x', μ') ∧ TkF μ μ'
  | [], f, x, μ, hf, _, h30, _, _ => by
    obtain ⟨f, rfl⟩ : ∃ f', f = f' + 1 := ⟨f - 1, by omega⟩
    have h30 : μ.1 30 = nI 0 := h30
    refine ⟨x, μ, ?_, TkF.rf⟩
    rw [m_taken_B, h30, if_pos (by decide)]
  | q :: S, f, x, μ, hf, hl6, h30, hop, hq => by
    have hlen : (q :: S).length = S.length + 1 := List.length_cons
    obtain ⟨f, rfl⟩ : ∃ f', f = f' + 1 := ⟨f - 1, by omega⟩
    rw [hlen] at h30 hl6
    obtain ⟨o1, o2⟩ := tk_top hop
    obtain ⟨q4, q3⟩ := hq q List.mem_cons_self
    have hq' : ∀ r ∈ S, r.1 ≤ 4 ∧ (r.1 ≤ 3 → LQ.n X r.2 < 40) := fun r hr => hq r (List.mem_cons_of_mem _ hr)
    have e30 : nI (S.length + 1) - 1 = nI S.length := nI_pred _
    by_cases t2 : q.1 = 2
    · rw [if_neg (by omega)] at o2
      have q3 := q3 (by omega)
      obtain ⟨x', μ', r1, r2⟩ := taken_some S f (nI (LQ.n X q.2)) (sI 26 (μ.1 26 - 1) (sA 22 (LQ.n X q.2) x (sI 30 (nI S.length) μ))) (by omega) (by omega) (by rw [sI_ne (by decide), sA_1, sI_at]) (opn_cg hop.1 (fun j hj => ⟨rfl, rfl⟩) (fun r hr z => rfl) (fun r hr => (hq' r hr).1)) hq'
      refine ⟨x', μ', ?_, TkF.tr ⟨fun j a b => ?_, fun j a b => ?_⟩ r2⟩
      · rw [m_taken_B, h30, if_neg (nI_nle (by omega) (by omega)), e30, if_pos (inb_nI (by omega) (by decide)), nI_clamp (by omega), o1, t2, if_pos (show nI 2 = 2 from rfl), o2, if_pos (inb_nI q3 (by decide)), nI_clamp (by omega)]
        exact r1
      · rw [sI_ne a, sA_1, sI_ne b]
      · rw [sI_2, sA_ne a, sI_2]
    · by_cases t1 : q.1 = 1
      · rw [if_neg (by omega)] at o2
        have q3 := q3 (by omega)
        obtain ⟨x', μ', r1, r2⟩ := taken_some S f (nI (LQ.n X q.2)) (sA 23 (LQ.n X q.2) x (sI 30 (nI S.length) μ)) (by omega) (by omega) (by rw [sA_1, sI_at]) (opn_cg hop.1 (fun j hj => ⟨rfl, rfl⟩) (fun r hr z => rfl) (fun r hr => (hq' r hr).1)) hq'
        refine ⟨x', μ', ?_, TkF.tr ⟨fun j a b => ?_, fun j a b => ?_⟩ r2⟩
        · rw [m_taken_B, h30, if_neg (nI_nle (by omega) (by omega)), e30, if_pos (inb_nI (by omega) (by decide)), nI_clamp (by omega), o1, t1, if_neg (show ¬ nI 1 = 2 by decide), if_pos (show nI 1 = 1 from rfl), o2, if_pos (inb_nI q3 (by decide)), nI_clamp (by omega)]
          exact r1
        · rw [sA_1, sI_ne b]
        · rw [sA_ne b, sI_2]
      · refine ⟨x, μ, ?_, TkF.rf⟩
        rw [m_taken_B, h30, if_neg (nI_nle (by omega) (by omega)), e30, if_pos (inb_nI (by omega) (by decide)), nI_clamp (by omega), o1, if_neg (show ¬ nI q.1 = 2 from nIl (c := 2) t2 (by omega) (by decide)), if_neg (show ¬ nI q.1 = 1 from nIl (c := 1) t1 (by omega) (by decide))]
theorem m_taken_F : ∃ F, 100 ≤ F ∧ ∀ x μ, m_taken x μ = m_taken_B F 0 x μ := ⟨4096, by decide, fun _ _ => rfl⟩
