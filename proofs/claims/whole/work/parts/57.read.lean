/-! a text is read, side by side -/
theorem bd_s {α β : Type} {a : α} {f : α → Option β} : (some a).bind f = f a := rfl
/-- behind a part -/
def BhP (g : Nat → Int32) (len : Nat) (st : RSt) (μ : MS) (S : SK) (π : Nat → Nat) (s u n : Nat) : Prop :=
  Rel st μ S π s u ∧ tp S ≠ 1 ∧ tp S ≠ 2 ∧ μ.2.1 1 = g ∧ μ.1 2 = nI len ∧ ∃ p p', st.1 10 = nI p ∧ p ≤ len ∧ len + 1 ≤ n + p ∧ μ.1 25 = nI p' ∧ p' ≤ 1000 ∧ pB g len p = pB g len p' ∧ ((st.1 9 = 4 ∧ ¬ st.1 8 = 0 ∧ ¬ sgv g len (nI (pB g len p)) = 43 ∧ ¬ sgv g len (nI (pB g len p)) = 45) ∨ st.1 9 = 5) ∧ ∃ c, PB (lqX st.2.1 π μ) S s u c ∧ SN st + c ≤ p
/-- how the reading ends -/
def RdO (g : Nat → Int32) (len n : Nat) (st : RSt) (o : Option (Int32 × MS)) : Prop :=
  (∃ w x μ', o = some (x, μ') ∧ w ≤ 1000 ∧ μ'.1 27 = nI w ∧ (bRun g len n st).1 = nI w) ∨
  (∃ μ' st' π u k, o = some (nI (π 0), μ') ∧ μ'.1 27 = -1 ∧ bRun g len n st = (-1, st') ∧ st'.2.1.2.2.2 = u ∧ u ≤ 40 ∧ pinj π u ∧ tr (lqX st'.2.1 π μ') k true 0 u ∧ SN st' + cw (lqX st'.2.1 π μ') k 0 ≤ len)
theorem RdO.of {g : Nat → Int32} {len n n' : Nat} {st st' : RSt} {o : Option (Int32 × MS)} (h : bRun g len n st = bRun g len n' st') (h2 : RdO g len n' st' o) : RdO g len n st o := by
  rw [RdO, h]; exact h2
theorem rd_f3 {F w : Nat} {x : Int32} {μ : MS} (h : μ.1 27 = nI w) (hw : w ≤ 1000) : m_read_B (F + 2) 3 x 0 0 0 μ = some (0, μ) := by
  rw [m_read_b3, if_pos rfl, m_read_b6, h, if_neg (nI_pos (by omega))]
theorem rd_f0 {F w : Nat} {μ : MS} (h : μ.1 27 = nI w) (hw : w ≤ 1000) : m_read_B (F + 1) 0 0 0 0 0 μ = some (0, μ) := by
  rw [m_read_b0, h, if_pos (nI_pos' (by omega))]
theorem relW_look {g : Nat → Int32} {len n u : Nat} {st : RSt} {μ : MS} {S : SK} {π : Nat → Nat} (hl : len ≤ 200) (hR : RelW g len st μ S π u n) : ∃ v μ1, m_look μ = some (v, μ1) ∧ RelW g len st μ1 S π u n := by
  obtain ⟨hRel, h1, h2, h9, h6, p, p', hp1, hp2, hp3, hp4, hp5, hpb, c0, hbk, hSN0⟩ := hR
  have lk := look_eq (μ := μ) hl hp4 h2 hp5
  rw [h1] at lk
  refine ⟨_, _, lk, hRel.at, h1, by rw [sI_ne (by decide)]; exact h2, h9, h6, p, pB g len p', hp1, hp2, hp3, sI_at, pB_le hl hp5, ?_, c0, hbk, hSN0⟩
  rw [pB_id hl]; exact hpb
abbrev WOk (g : Nat → Int32) (len F : Nat) : Prop := ∀ (n u : Nat) (st : RSt) (μ : MS) (S : SK) (π : Nat → Nat), 80 * (40 - u) + (10 - dep S) + 60 ≤ F → RelW g len st μ S π u n → RdO g len n st (m_read_B F 1 0 0 0 0 μ)
abbrev BOk (g : Nat → Int32) (len F : Nat) : Prop := ∀ (n s u : Nat) (st : RSt) (μ : MS) (S : SK) (π : Nat → Nat), 80 * (40 - u) + 3 * dep S + 40 ≤ F → BhP g len st μ S π s u n → RdO g len n st (m_read_B F 3 (nI (π s)) 1 0 0 μ)
set_option maxHeartbeats 2000000 in
theorem w_step {g : Nat → Int32} {len F : Nat} (hl : len ≤ 200) (hg : ∀ j, j < len → ¬ g j < 32) (ihW : ∀ F', F' < F → WOk g len F') (ihB : ∀ F', F' < F → BOk g len F') : WOk g len F := by
  intro n u st μ S π hF hR
  obtain ⟨hRel, h1, h2, h9, h6, p, p', hp1, hp2, hp3, hp4, hp5, hpb, c0, hbk, hSN0⟩ := id hR
  obtain ⟨h27, h24, hu4, hu, hπ, hch, hsh, hdep, h26, h30, hop, h5, hrg, hrs, has, hds⟩ := id hRel
  obtain ⟨f, rfl⟩ : ∃ f, F = f + 8 := ⟨F - 8, by omega⟩
  rw [m_read_b1, h27, if_neg (by decide)]
  rcases beg_sim hl hg hR with ⟨w, a, μ', e1, hw, ha, e27, e25, e2, eb⟩ | ⟨n', st', μ', S', π', u', e1, e2, e3, e4, e5, e6⟩ | ⟨q, q1, q2, hnb, e1⟩
  · rw [e1, bd_s, if_pos (show ((0 : Int32), μ').1 = 0 from rfl)]
    show RdO g len n st ((m_look μ').bind (fun p47 => m_read_B (f + 7) 1 0 0 0 0 p47.2))
    rw [look_eq hl e25 e2 ha, bd_s]
    show RdO g len n st (m_read_B (f + 7) 1 0 0 0 0 (sI 25 (nI (skp zbl (μ'.2.1 1) len 200 a)) μ'))
    have z27 : (sI 25 (nI (skp zbl (μ'.2.1 1) len 200 a)) μ').1 27 = nI w := by rw [sI_ne (by decide)]; exact e27
    rw [m_read_b1, z27, if_pos (nI_pos' (by omega)), m_read_b2, z27, if_pos (nI_pos' (by omega)), rd_f3 z27 hw]
    exact Or.inl ⟨w, 0, _, rfl, hw, z27, eb⟩
  · rw [e1, bd_s, if_pos (show ((0 : Int32), μ').1 = 0 from rfl)]
    show RdO g len n st ((m_look μ').bind (fun p47 => m_read_B (f + 7) 1 0 0 0 0 p47.2))
    obtain ⟨v, μ1, l1, l2⟩ := relW_look hl e3
    rw [l1, bd_s]
    show RdO g len n st (m_read_B (f + 7) 1 0 0 0 0 μ1)
    have hd' : dep S' ≤ 10 := e3.1.2.2.2.2.2.2.2.1
    exact RdO.of e2 (ihW (f + 7) (by omega) n' u' st' μ1 S' π' (by omega) l2)
  · rw [e1, bd_s, if_neg (show ¬ ((1 : Int32), sI 25 (nI (pB g len q)) μ).1 = 0 from (by decide : ¬ (1 : Int32) = 0))]
    show RdO g len n st (m_read_B (f + 7) 2 0 0 0 0 (sI 25 (nI (pB g len q)) μ))
    have hqp : q = p := (nI_eq (by omega) (by omega)).mp (q1.symm.trans hp1)
    subst hqp
    have z27 : (sI 25 (nI (pB g len q)) μ).1 27 = -1 := by rw [sI_ne (by decide)]; exact h27
    rw [m_read_b2, z27, if_neg (by decide)]
    have hbp : q ≤ pB g len q := skp_ge 200 q
    have hbl : pB g len q ≤ len := skp_le 200 q hp2
    have hPr : PrS g len st (sI 25 (nI (pB g len q)) μ) π u n := ⟨h1, by rw [sI_ne (by decide)]; exact h2, z27, by rw [sI_ne (by decide)]; exact h24, hu4, hu, hπ, q, pB g len q, hp1, hp2, hp3, sI_at, by omega, (pB_id hl).symm, Or.inr ⟨h9, hnb⟩⟩
    obtain ⟨FT, hFT, eT⟩ := m_taken_F
    have hl6 := shp_64 hsh hdep
    rcases cmp_sim hl hg hPr h9 with ⟨w, x, μ', d1, d2, d3, d4⟩ | ⟨n', st', μ', π', u', d1, d2, d3, d4, d5⟩
    · rw [d1, bd_s]
      show RdO g len n st ((m_taken x μ').bind _)
      obtain ⟨f27, f30, f28, f29⟩ := d3
      have hop' : opn (lqX st.2.1 π μ) (μ'.2.1 28) (μ'.2.1 29) S := by rw [f28, f29]; exact hop
      obtain ⟨x', μ2, t1, t2⟩ := taken_some S FT x μ' (by omega) hl6 (by rw [f30, sI_ne (by decide)]; exact h30) hop' (fun r hr => ⟨shp_4 hsh r hr, fun z => by
        have i1 := (chn_le hch r hr).2 z
        have i2 := hπ.1 r.2 i1
        show π r.2 < 40
        omega⟩)
      have z2 : μ2.1 27 = nI w := by rw [t2.1 27 (by decide) (by decide)]; exact f27
      rw [eT, t1, bd_s]
      show RdO g len n st (if 0 ≤ μ2.1 27 then m_read_B (f + 6) 3 x' 0 0 0 μ2 else _)
      rw [z2, if_pos (nI_pos' (by omega)), rd_f3 z2 d2]
      exact Or.inl ⟨w, 0, _, rfl, d2, z2, d4⟩
    · obtain ⟨k1, k2, k27, k24, ku4, ku, kπ, ⟨k, ktr, k5⟩, r, r', kp1, kp2, kp3, kp4, kp5, kpb, k9⟩ := d3
      obtain ⟨s1, s2, s3, s4, s5, s6⟩ := d5
      have d4' : ∀ j, j < u → lsa (lqX st.2.1 π μ) (lqX st'.2.1 π' μ') j := d4
      have hlt := tr_lt ktr
      have hRel' : Rel st' μ' S π' u u' := by
        refine ⟨k27, k24, ku4, ku, kπ, chn_cg hch d4', hsh, hdep, ?_, ?_, ?_, by rw [s4]; exact h5, by rw [s3]; exact hrg, by rw [s3]; exact hrs, by rw [s3]; exact has, by rw [s3]; exact hds⟩
        · rw [s1 26 (by decide) (by decide), sI_ne (by decide)]; exact h26
        · rw [s1 30 (by decide) (by decide), sI_ne (by decide)]; exact h30
        · rw [s2 28 (by decide) (by decide) (by decide) (by decide), s2 29 (by decide) (by decide) (by decide) (by decide)]
          exact opn_cg hop (fun j hj => ⟨rfl, rfl⟩) (fun r hr z => (d4' r.2 ((chn_le hch r hr).2 z)).2.2.2.1.symm) (shp_4 hsh)
      have hPB : PB (lqX st'.2.1 π' μ') S u u' c0 := by
        refine ⟨c0, k, bk_cg (by omega) hbk hch d4', ktr, ?_⟩
        have e0 : cw (lqX st'.2.1 π' μ') k u = 0 := by
          cases k with
          | zero => rfl
          | succ k => rw [cw]; exact cwN_0 k5
        have e1 : wp S (LQ.K (lqX st'.2.1 π' μ') u) = 0 := wp_0 (Int32.le_trans (by decide) k5)
        rw [e0, e1]
        exact Nat.le_refl _
      have hSN' : SN st' + c0 ≤ r := by
        have a1 : PL st = q := by show (st.1 10).toNatClampNeg = q; rw [hp1, nI_clamp (by omega)]
        have a2 : PL st' = r := by show (st'.1 10).toNatClampNeg = r; rw [kp1, nI_clamp (by omega)]
        omega
      rw [d1, bd_s]
      show RdO g len n st ((m_taken (nI (π' u)) μ').bind _)
      obtain ⟨S', s', μ2, t1, t2, t3, t4, t5, t6, t7⟩ := taken_sim (st := st') (π := π') (u := u') S FT u μ' (by omega) ⟨hRel', k, ktr⟩
      have z2 : μ2.1 27 = -1 := t2.1.1
      rw [eT, t1, bd_s]
      show RdO g len n st (if 0 ≤ μ2.1 27 then _ else m_read_B (f + 6) 3 (nI (π' s')) 1 0 0 μ2)
      rw [z2, if_neg (by decide)]
      refine RdO.of d2 (ihB (f + 6) (by omega) n' s' u' st' μ2 S' π' (by omega) ⟨t2.1, t3, t4, ?_, ?_, r, r', kp1, kp2, kp3, ?_, kp5, kpb, k9, c0, t7 c0 hPB, hSN'⟩)
      · rw [t5.2 1 (by decide) (by decide)]; exact k1
      · rw [t5.1 2 (by decide) (by decide)]; exact k2
      · rw [t5.1 25 (by decide) (by decide)]; exact kp4
/-- a node for '&' or '|', and on to the next part -/
theorem nd_tail {g : Nat → Int32} {len n F t u s b : Nat} {st st0 : RSt} {k x3 : Int32} {μ : MS} {π : Nat → Nat} {S : SK} (hk : k = nI t) (hx : (x3 = 124 ∧ t = 0) ∨ (x3 = 38 ∧ t = 1)) (hR : RelN st0 μ S π s u) (h25 : μ.1 25 = nI b) (hb : b ≤ 1000) (hfail : u = 40 → (bRun g len n st).1 = nI b)
    (hok : u < 40 → RdO g len n st (m_read_B F 1 0 0 0 0 (sI 25 (nI (b + 1)) (sI 30 (nI (S.length + 1)) (sA 29 S.length (nI u) (sA 28 S.length (nI t) (sA 22 u (nI (π s)) (nodeS (nI t) u μ)))))))) :
    RdO g len n st ((m_node k (μ.1 25) μ).bind (fun p291 => (if 0 ≤ (p291.2.1 27) then m_read_B (F + 3) 8 0 0 x3 p291.1 p291.2 else (if inb p291.1 40 = true then m_read_B (F + 3) 8 0 0 x3 p291.1 (sA 22 (p291.1.toNatClampNeg) (nI (π s)) p291.2) else none)))) := by
  subst hk
  obtain ⟨h27, h24, hu4, hu, hπ, hch, hsh, hdep, h26, h30, -⟩ := hR
  have hl6 := shp_64 hsh hdep
  have b8 : ∀ v μ', μ'.1 30 = nI S.length → m_read_B (F + 3) 8 0 0 x3 v μ' = m_read_B (F + 1) 0 0 0 0 0 (sI 25 ((sI 30 (nI (S.length + 1)) (sA 29 S.length v (sA 28 S.length (nI t) μ'))).1 25 + 1) (sI 30 (nI (S.length + 1)) (sA 29 S.length v (sA 28 S.length (nI t) μ')))) := by
    intro v μ' h
    rw [m_read_b8]
    rcases hx with ⟨e1, e2⟩ | ⟨e1, e2⟩
    · subst e2
      rw [e1, if_pos rfl]
      show (m_push (nI 0) v μ').bind _ = _
      rw [push_eq h hl6, bd_s, m_read_b11]
    · subst e2
      rw [e1, if_neg (by decide)]
      show (m_push (nI 1) v μ').bind _ = _
      rw [push_eq h hl6, bd_s, m_read_b11]
  by_cases h4 : u < 40
  · rw [node_ok h24 h4, bd_s]
    obtain ⟨n20, n21, n22, n23, nar, n24, nin⟩ := nodeS_k (k := nI t) (u := u) (μ := μ)
    show RdO g len n st (if 0 ≤ (nodeS (nI t) u μ).1 27 then _ else if inb (nI u) 40 = true then m_read_B (F + 3) 8 0 0 x3 (nI u) (sA 22 ((nI u).toNatClampNeg) (nI (π s)) (nodeS (nI t) u μ)) else none)
    have z25 : (sI 30 (nI (S.length + 1)) (sA 29 S.length (nI u) (sA 28 S.length (nI t) (sA 22 u (nI (π s)) (nodeS (nI t) u μ))))).1 25 + 1 = nI (b + 1) := by rw [sI_ne (by decide), sA_1, sA_1, sA_1, nin 25 (by decide), h25, nI_1]
    have z27 : (sI 25 (nI (b + 1)) (sI 30 (nI (S.length + 1)) (sA 29 S.length (nI u) (sA 28 S.length (nI t) (sA 22 u (nI (π s)) (nodeS (nI t) u μ)))))).1 27 = -1 := by rw [sI_ne (by decide), sI_ne (by decide), sA_1, sA_1, sA_1, nin 27 (by decide), h27]
    rw [nin 27 (by decide), h27, if_neg (by decide), if_pos (inb_nI h4 (by decide)), nI_clamp (by omega), b8 _ _ (by rw [sA_1, nin 30 (by decide)]; exact h30), z25, m_read_b0, z27, if_neg (by decide)]
    exact hok h4
  · rw [node_full (by rw [h24, show u = 40 by omega]), bd_s, h25]
    have w27 : (mFail (nI b) μ).1 27 = nI b := by rw [mFail_w, h27, if_neg (by decide)]
    show RdO g len n st (if 0 ≤ (mFail (nI b) μ).1 27 then m_read_B (F + 3) 8 0 0 x3 0 (mFail (nI b) μ) else _)
    rw [w27, if_pos (nI_pos' (by omega)), b8 _ _ (by rw [mFail_1 (by decide)]; exact h30)]
    have key : ∀ a, RdO g len n st (m_read_B (F + 1) 0 0 0 0 0 (sI 25 a (sI 30 (nI (S.length + 1)) (sA 29 S.length 0 (sA 28 S.length (nI t) (mFail (nI b) μ)))))) := fun a => by
      have w2 : (sI 25 a (sI 30 (nI (S.length + 1)) (sA 29 S.length 0 (sA 28 S.length (nI t) (mFail (nI b) μ))))).1 27 = nI b := by rw [sI_ne (by decide), sI_ne (by decide), sA_1, sA_1]; exact w27
      rw [rd_f0 w2 hb]
      exact Or.inl ⟨b, 0, _, rfl, hb, w2, hfail (by omega)⟩
    exact key _
theorem bRun_e {g : Nat → Int32} {len n : Nat} {st s : RSt} {zz : Nat → Int32} (hz : zTok g len st.1 = zz) (h : bTake (zz, st.2) = (true, s)) (h0 : s.1 11 = 0) : bRun g len (n + 1) st = (-1, s) := by
  rw [bRun, hz, h, if_pos rfl, if_pos h0]
set_option maxHeartbeats 4000000 in
theorem b_step {g : Nat → Int32} {len F : Nat} (hl : len ≤ 200) (hg : ∀ j, j < len → ¬ g j < 32) (ihW : ∀ F', F' < F → WOk g len F') (ihB : ∀ F', F' < F → BOk g len F') : BOk g len F := by
  intro n s u st μ S π hF hR
  obtain ⟨hRel, n1, n2, h1, h2, p, p', hp1, hp2, hp3, hp4, hp5, hpb, h9, c, hPB, hSN⟩ := hR
  obtain ⟨h27, h24, hu4, hu, hπ, hch, hsh, hdep, h26, h30, hop, h5, hrg, hrs, has, hds⟩ := id hRel
  obtain ⟨f, rfl⟩ : ∃ f, F = f + 30 := ⟨F - 30, by omega⟩
  obtain ⟨FT, hFT, eT⟩ := m_taken_F
  have hlv := lvl_dep S
  have lk := look_eq (μ := μ) hl hp4 h2 hp5
  rw [h1] at lk
  have lk : m_look μ = some (sgv g len (nI (pB g len p)), sI 25 (nI (pB g len p)) μ) := by rw [hpb]; exact lk
  have hbp : p ≤ pB g len p := skp_ge 200 p
  have hbl : pB g len p ≤ len := skp_le 200 p hp2
  have hRel1 : Rel st (sI 25 (nI (pB g len p)) μ) S π s u := hRel.at
  have hPB1 : PB (lqX st.2.1 π (sI 25 (nI (pB g len p)) μ)) S s u c := hPB
  obtain ⟨S2, s2, μ2, r1, r2, r3, r4, r5, r6, r7, r8, r9, r10⟩ := or_sim hRel1 n1 n2 hPB1
  obtain ⟨zz, hz0⟩ : ∃ zz, zTok g len st.1 = zz := ⟨_, rfl⟩
  obtain ⟨m, rfl⟩ : ∃ m, n = m + 1 := ⟨n - 1, by omega⟩
  have q30 : μ2.1 30 = nI S2.length := r2.2.2.2.2.2.2.2.2.2.1
  have q26 : μ2.1 26 = nI (dep S2) := r2.2.2.2.2.2.2.2.2.1
  have hsh2 : shp S2 := r2.2.2.2.2.2.2.1
  have q25 : μ2.1 25 = nI (pB g len p) := by rw [r9 25 (by decide)]; exact sI_at
  have q27 : μ2.1 27 = -1 := r2.1
  have q2 : μ2.1 2 = nI len := by rw [r9 2 (by decide), sI_ne (by decide)]; exact h2
  have q1 : μ2.2.1 1 = g := by rw [r10 1 (by decide), sI_2]; exact h1
  have cls : ∀ {tc : Int32} {e : Nat}, tkF st.1 zz (pB g len p) tc e → (¬ sgv g len (nI (pB g len p)) = 43 → ¬ tc = 43) → (¬ sgv g len (nI (pB g len p)) = 45 → ¬ tc = 45) → (bTake (zz, st.2) = bBP1 (upd zz 6 (nI (dlv S)), st.2) ∨ ((tc = 35 ∨ tc = 60 ∨ tc = 61 ∨ tc = 62) ∧ bTake (zz, st.2) = (false, (zz, st.2)))) ∧ upd zz 6 (nI (dlv S)) 5 = nI (lvl S) := by
    intro tc e t hn1 hn2
    obtain ⟨t1, t2, t3, t4⟩ := t
    have z5 : zz 5 = nI (lvl S) := by rw [t4 5 (by decide) (by decide) (by decide) (by decide)]; exact h5
    have z9 : zz 9 = st.1 9 := t4 9 (by decide) (by decide) (by decide) (by decide)
    have z8 : zz 8 = st.1 8 := t4 8 (by decide) (by decide) (by decide) (by decide)
    refine ⟨?_, by rw [upd_ne (by decide)]; exact z5⟩
    have hc : ((zz, st.2).1 9 = 4 ∧ ¬ (zz, st.2).1 8 = 0 ∧ ¬ tc = 43 ∧ ¬ tc = 45) ∨ (zz, st.2).1 9 = 5 := by
      rcases h9 with y | y
      · exact Or.inl ⟨z9.trans y.1, by show ¬ zz 8 = 0; rw [z8]; exact y.2.1, hn1 y.2.2.1, hn2 y.2.2.2⟩
      · exact Or.inr (z9.trans y)
    rcases bTake_B (st := (zz, st.2)) (c := tc) t1 hc with y | y
    · left
      rw [y, bBP_e (st := (zz, st.2)) z5 (by omega)]
      show bBP1 (upd zz 6 (st.2.2.2.2 (lvl S)), st.2) = _
      rw [hds]
    · exact Or.inr y
  rw [m_read_b3, if_neg (show ¬ (1 : Int32) = 0 by decide), lk, bd_s]
  show RdO g len (m + 1) st (if sgv g len (nI (pB g len p)) = 41 then (m_or (nI (π s)) (sI 25 (nI (pB g len p)) μ)).bind _ else m_read_B (f + 29) 6 (nI (π s)) 0 0 0 (sI 25 (nI (pB g len p)) μ))
  by_cases c41 : sgv g len (nI (pB g len p)) = 41
  · rw [if_pos c41, r1, bd_s]
    obtain ⟨b1, b2, tk⟩ := tk_is (g := g) (len := len) (p := p) (q := st.1) (c := 41) hl (by omega) hp1 c41 (by omega) (by decide) (by decide) (by decide)
    rw [hz0] at tk
    obtain ⟨cB, z5⟩ := cls tk (fun _ => by decide) (fun _ => by decide)
    obtain ⟨t1, t2, t3, t4⟩ := tk
    have hB : bTake (zz, st.2) = bEnd (upd zz 6 (nI (dlv S)), st.2) := by
      rcases cB with y | y
      · rw [y]
        exact bBP1_41 (st := (upd zz 6 (nI (dlv S)), st.2)) (by show upd zz 6 (nI (dlv S)) 11 = 41; rw [upd_ne (by decide)]; exact t1)
      · exact absurd y.1 (by decide)
    show RdO g len (m + 1) st (if μ2.1 30 ≤ 0 then (m_fail (μ2.1 25) μ2).bind _ else m_read_B (f + 29) 4 (nI (π s2)) 0 1 0 μ2)
    cases S2 with
    | nil =>
      have q30 : μ2.1 30 = nI 0 := q30
      have lv0 : lvl S = 0 := r6.symm
      rw [q30, if_pos (by decide), fail_eq, bd_s, q25]
      show RdO g len (m + 1) st (m_read_B (f + 29) 4 (nI (π s2)) 0 0 0 (mFail (nI (pB g len p)) μ2))
      have w27 : (mFail (nI (pB g len p)) μ2).1 27 = nI (pB g len p) := by rw [mFail_w, q27, if_neg (by decide)]
      rw [m_read_b4, if_pos rfl, rd_f3 w27 (by omega)]
      refine Or.inl ⟨pB g len p, 0, _, rfl, by omega, w27, ?_⟩
      rw [lv0] at z5
      rw [bEnd_0 (st := (upd zz 6 (nI (dlv S)), st.2)) z5] at hB
      refine (bRun_fz (n := m) hz0 hB).trans ?_
      show upd zz 6 (nI (dlv S)) 12 = _
      rw [upd_ne (by decide)]; exact t2
    | cons q S3 =>
      obtain ⟨t, p0⟩ := q
      have ht3 : 3 ≤ t := r4
      have ht4 : t ≤ 4 := hsh2.2.2.2
      have lv : lvl S = lvl S3 + 1 := by rw [← r6, lvl_hi ht3]
      have dp : dep S = dep S3 + 1 := by rw [← r7, dep_hi (by omega)]
      have hlen : ((t, p0) :: S3).length = S3.length + 1 := List.length_cons
      rw [hlen] at q30
      have d2 : dep ((t, p0) :: S3) = dep S3 + 1 := dep_hi (by omega)
      rw [d2] at q26
      have l64 : S3.length < 64 := shp_64 hsh2.1 (by omega)
      rw [lv] at z5
      rw [bEnd_s (st := (upd zz 6 (nI (dlv S)), st.2)) z5 (by omega)] at hB
      obtain ⟨st3, hst3⟩ : ∃ st3 : RSt, st3 = (upd (upd (upd zz 6 (nI (dlv S))) 5 (nI (lvl S3))) 9 5, st.2) := ⟨_, rfl⟩
      have hrun : bRun g len (m + 1) st = bRun g len m st3 := by
        rw [hst3]
        exact bRun_tz (n := m) hz0 hB (by show ¬ upd (upd (upd zz 6 (nI (dlv S))) 5 (nI (lvl S3))) 9 5 11 = 0; rw [upd_ne (by decide), upd_ne (by decide), upd_ne (by decide), t1]; decide)
      have v2 : st3.2 = st.2 := by rw [hst3]
      have v5 : st3.1 5 = nI (lvl S3) := by rw [hst3]; show upd (upd (upd zz 6 (nI (dlv S))) 5 (nI (lvl S3))) 9 5 5 = _; rw [upd_ne (by decide), upd_at]
      have v9 : st3.1 9 = 5 := by rw [hst3]; show upd (upd (upd zz 6 (nI (dlv S))) 5 (nI (lvl S3))) 9 5 9 = 5; exact upd_at
      have v10 : st3.1 10 = nI (pB g len p + 1) := by rw [hst3]; show upd (upd (upd zz 6 (nI (dlv S))) 5 (nI (lvl S3))) 9 5 10 = _; rw [upd_ne (by decide), upd_ne (by decide), upd_ne (by decide)]; exact t3
      have vSN : SN st3 = SN st := by
        show sN st3.2.1.1 st3.2.1.2.1 st3.2.1.2.2.2 = sN st.2.1.1 st.2.1.2.1 st.2.1.2.2.2
        rw [v2]
      have fin : ∀ μ3, RelB st3 μ3 S3 π p0 u → PB (lqX st3.2.1 π μ3) S3 p0 u (c + 1) → μ3.2.1 1 = g → μ3.1 2 = nI len → μ3.1 25 = nI (pB g len p + 1) → RdO g len (m + 1) st ((m_taken (nI (π p0)) μ3).bind (fun p225 => m_read_B (f + 27) 3 p225.1 1 0 0 p225.2)) := by
        intro μ3 a1 a2 a3 a4 a5
        obtain ⟨S', s', μ4, y1, y2, y3, y4, y5, y6, y7⟩ := taken_sim S3 FT p0 μ3 (by omega) a1
        rw [eT, y1, bd_s]
        show RdO g len (m + 1) st (m_read_B (f + 27) 3 (nI (π s')) 1 0 0 μ4)
        refine RdO.of hrun (ihB (f + 27) (by omega) m s' u st3 μ4 S' π (by omega) ⟨y2.1, y3, y4, ?_, ?_, pB g len p + 1, pB g len p + 1, v10, by omega, by omega, ?_, by omega, rfl, Or.inr v9, c + 1, y7 (c + 1) a2, by omega⟩)
        · rw [y5.2 1 (by decide) (by decide)]; exact a3
        · rw [y5.1 2 (by decide) (by decide)]; exact a4
        · rw [y5.1 25 (by decide) (by decide)]; exact a5
      rw [q30, if_neg (nI_nle (by omega) (by omega)), m_read_b4, if_neg (show ¬ (1 : Int32) = 0 by decide), q30, nI_pred, if_pos (inb_nI l64 (by decide)), nI_clamp (by omega), q26, nI_pred, q25, nI_1]
      rcases (show t = 3 ∨ t = 4 by omega) with z | z
      · subst z
        obtain ⟨c1, c2, c3, c4, c5⟩ := cl_3 (a := nI (pB g len p + 1)) r2 v2 v5 r3
        rw [c2, if_pos (show nI 3 = 3 from rfl), c3, if_pos (inb_nI c1 (by decide)), nI_clamp (by omega)]
        obtain ⟨μ3, hμ3⟩ : ∃ μ3, μ3 = sA 22 (π p0) (nI (π s2)) (sI 25 (nI (pB g len p + 1)) (sI 26 (nI (dep S3)) (sI 30 (nI S3.length) μ2))) := ⟨_, rfl⟩
        rw [← hμ3] at c4 c5 ⊢
        have w30 : μ3.1 30 = nI S3.length := c4.1.2.2.2.2.2.2.2.2.2.1
        have w28 : μ3.2.1 28 S3.length = nI 3 := by rw [hμ3, sA_ne (by decide), sI_2, sI_2, sI_2]; exact c2
        have w29 : μ3.2.1 29 S3.length = nI (π p0) := by rw [hμ3, sA_ne (by decide), sI_2, sI_2, sI_2]; exact c3
        rw [m_read_b5, w30, if_pos (inb_nI l64 (by decide)), nI_clamp (by omega), w28, if_pos (show nI 3 = 3 from rfl), w29]
        refine fin μ3 c4 c5 ?_ ?_ ?_
        · rw [hμ3, sA_ne (by decide), sI_2, sI_2, sI_2]; exact q1
        · rw [hμ3, sA_1, sI_ne (by decide), sI_ne (by decide), sI_ne (by decide)]; exact q2
        · rw [hμ3, sA_1, sI_at]
      · subst z
        obtain ⟨c1, c2, c4, c5⟩ := cl_4 (a := nI (pB g len p + 1)) r2 v2 v5 r3
        rw [c2, if_neg (show ¬ nI 4 = 3 by decide)]
        obtain ⟨μ3, hμ3⟩ : ∃ μ3, μ3 = sI 25 (nI (pB g len p + 1)) (sI 26 (nI (dep S3)) (sI 30 (nI S3.length) μ2)) := ⟨_, rfl⟩
        rw [← hμ3] at c4 c5 ⊢
        have w30 : μ3.1 30 = nI S3.length := c4.1.2.2.2.2.2.2.2.2.2.1
        have w28 : μ3.2.1 28 S3.length = nI 4 := by rw [hμ3, sI_2, sI_2, sI_2]; exact c2
        rw [m_read_b5, w30, if_pos (inb_nI l64 (by decide)), nI_clamp (by omega), w28, if_neg (show ¬ nI 4 = 3 by decide), c1]
        refine fin μ3 c4 c5 ?_ ?_ ?_
        · rw [hμ3, sI_2, sI_2, sI_2]; exact q1
        · rw [hμ3, sI_ne (by decide), sI_ne (by decide), sI_ne (by decide)]; exact q2
        · rw [hμ3, sI_at]
  · have lk1 : m_look (sI 25 (nI (pB g len p)) μ) = some (sgv g len (nI (pB g len p)), sI 25 (nI (pB g len p)) μ) := by
      have := look_eq (μ := sI 25 (nI (pB g len p)) μ) (p := pB g len p) hl sI_at (by rw [sI_ne (by decide)]; exact h2) (by omega)
      rw [sI_2, h1, sI_sI, show skp zbl g len 200 (pB g len p) = pB g len p from pB_id hl] at this
      exact this
    have z27 : (sI 25 (nI (pB g len p)) μ).1 27 = -1 := by rw [sI_ne (by decide)]; exact h27
    rw [if_neg c41, m_read_b6, z27, if_pos (by decide), lk1, bd_s]
    show RdO g len (m + 1) st (if sgv g len (nI (pB g len p)) = 38 then m_read_B (f + 28) 7 (nI (π s)) 0 (sgv g len (nI (pB g len p))) 0 (sI 25 (nI (pB g len p)) μ) else if sgv g len (nI (pB g len p)) = 124 then m_read_B (f + 28) 7 (nI (π s)) 0 (sgv g len (nI (pB g len p))) 0 (sI 25 (nI (pB g len p)) μ) else (m_or (nI (π s)) (sI 25 (nI (pB g len p)) μ)).bind _)
    have hdl : dlv S = dep S := dlv_dep hsh n1 n2
    by_cases c38 : sgv g len (nI (pB g len p)) = 38
    · obtain ⟨b1, b2, tk⟩ := tk_is (g := g) (len := len) (p := p) (q := st.1) (c := 38) hl (by omega) hp1 c38 (by omega) (by decide) (by decide) (by decide)
      rw [hz0] at tk
      obtain ⟨cB, z5⟩ := cls tk (fun _ => by decide) (fun _ => by decide)
      obtain ⟨t1, t2, t3, t4⟩ := tk
      have hB : bTake (zz, st.2) = bTr (tIns (nI s) 1 st.2.1) (upd (upd zz 6 (nI (dlv S))) 9 0, st.2) := by
        rcases cB with y | y
        · rw [y, bBP1_38 (st := (upd zz 6 (nI (dlv S)), st.2)) (L := lvl S) (by show upd zz 6 (nI (dlv S)) 11 = 38; rw [upd_ne (by decide)]; exact t1) z5 (by omega)]
          show bTr (tIns (st.2.2.2.1 (lvl S)) 1 st.2.1) (upd (upd zz 6 (nI (dlv S))) 9 0, st.2) = _
          rw [has, ast_s n1 n2]
        · exact absurd y.1 (by decide)
      obtain ⟨c0, k0, k1, k2, k3⟩ := id hPB
      have hlt := tr_lt k2
      rw [if_pos c38, c38, m_read_b7, if_neg (show ¬ (38 : Int32) = 124 by decide)]
      refine nd_tail (F := f + 24) (t := 1) (b := pB g len p) (S := S) (s := s) (u := u) (st0 := st) rfl (Or.inr ⟨rfl, rfl⟩) hRel1.nas sI_at (by omega) (fun h40 => ?_) (fun h4 => ?_)
      · rw [tIns_no hu (by omega) h40] at hB
        refine (bRun_fz (n := m) hz0 hB).trans ?_
        show upd (upd zz 6 (nI (dlv S))) 9 0 12 = _
        rw [upd_ne (by decide), upd_ne (by decide)]; exact t2
      · rw [tIns_ok hu (by omega) h4] at hB
        obtain ⟨st3, hst3⟩ : ∃ st3 : RSt, st3 = (upd (upd zz 6 (nI (dlv S))) 9 0, (insK st.2.1.1 u s 1, insK st.2.1.2.1 u s (-1), insR st.2.1.2.2.1 u s, u + 1), st.2.2) := ⟨_, rfl⟩
        have hrun : bRun g len (m + 1) st = bRun g len m st3 := by
          rw [hst3]
          exact bRun_tz (n := m) hz0 hB (by show ¬ upd (upd zz 6 (nI (dlv S))) 9 0 11 = 0; rw [upd_ne (by decide), upd_ne (by decide), t1]; decide)
        refine RdO.of hrun (ihW (f + 24) (by omega) m (u + 1) st3 _ ((1, s) :: S) (insP π s u) (by rw [dep_lo (by decide)]; omega) ?_)
        refine push_sim (t := 1) (c := c) (st := st) (by decide) hRel1.nas h4 (fun z => absurd z (by decide)) (fun _ => by omega) ⟨c0, k0, k1, k2, ?_⟩ (by rw [hst3]; rfl) (by rw [hst3]) (by rw [hst3]) ?_ (fun j _ => by rw [hst3]) ?_ ?_ ?_ ?_ (by rw [sI_2]; exact h1) (by rw [sI_ne (by decide)]; exact h2) hl b1 (by omega) (by omega)
        · have k4 : wp S (LQ.K (lqX st.2.1 π μ) s) = (if LQ.K (lqX st.2.1 π μ) s = 0 then 2 else 0) := by
            rw [wp, if_neg (show ¬ (tp S = 1 ∨ tp S = 2) by omega)]
          rw [k4] at k3
          by_cases y : LQ.K (lqX st.2.1 π μ) s = 0
          · rw [if_pos ⟨rfl, y⟩]
            rw [if_pos y] at k3
            exact k3
          · rw [if_neg (fun z => y z.2)]
            rw [if_neg y] at k3
            exact k3
        · rw [hst3]
          show st.2.2.2.1 (lvl S) = nI (if 3 ≤ 1 then u + 1 else if 1 = 0 then u + 1 else ast S s)
          rw [if_neg (by decide), if_neg (by decide)]; exact has
        · rw [hst3]
          show upd (upd zz 6 (nI (dlv S))) 9 0 5 = _
          rw [upd_ne (by decide), z5, h5]
        · rw [hst3]; show upd (upd zz 6 (nI (dlv S))) 9 0 9 = 0; exact upd_at
        · rw [hst3]
          show upd (upd zz 6 (nI (dlv S))) 9 0 6 = _
          rw [upd_ne (by decide), upd_at, hdl]
        · rw [hst3]
          show upd (upd zz 6 (nI (dlv S))) 9 0 10 = _
          rw [upd_ne (by decide), upd_ne (by decide)]; exact t3
    · by_cases c124 : sgv g len (nI (pB g len p)) = 124
      · obtain ⟨b1, b2, tk⟩ := tk_is (g := g) (len := len) (p := p) (q := st.1) (c := 124) hl (by omega) hp1 c124 (by omega) (by decide) (by decide) (by decide)
        rw [hz0] at tk
        obtain ⟨cB, z5⟩ := cls tk (fun _ => by decide) (fun _ => by decide)
        obtain ⟨t1, t2, t3, t4⟩ := tk
        have hB : bTake (zz, st.2) = ((tIns (nI s2) 0 st.2.1).1, (upd (upd zz 6 (nI (dlv S))) 9 0, (tIns (nI s2) 0 st.2.1).2, st.2.2.1, upd st.2.2.2.1 (lvl S) (nI (tIns (nI s2) 0 st.2.1).2.2.2.2), st.2.2.2.2)) := by
          rcases cB with y | y
          · rw [y, bBP1_124 (st := (upd zz 6 (nI (dlv S)), st.2)) (L := lvl S) (by show upd zz 6 (nI (dlv S)) 11 = 124; rw [upd_ne (by decide)]; exact t1) z5 (by omega)]
            show ((tIns (st.2.2.1 (lvl S)) 0 st.2.1).1, (upd (upd zz 6 (nI (dlv S))) 9 0, (tIns (st.2.2.1 (lvl S)) 0 st.2.1).2, st.2.2.1, upd st.2.2.2.1 (lvl S) (nI (tIns (st.2.2.1 (lvl S)) 0 st.2.1).2.2.2.2), st.2.2.2.2)) = _
            rw [hrs, r5]
          · exact absurd y.1 (by decide)
        obtain ⟨c0, k0, k1, k2, k3⟩ := id r3
        have hlt := tr_lt k2
        rw [if_neg c38, if_pos c124, c124, m_read_b7, if_pos rfl, r1, bd_s]
        show RdO g len (m + 1) st ((m_node 0 (μ2.1 25) μ2).bind _)
        refine nd_tail (F := f + 24) (t := 0) (b := pB g len p) (S := S2) (s := s2) (u := u) (st0 := st) rfl (Or.inl ⟨rfl, rfl⟩) r2 q25 (by omega) (fun h40 => ?_) (fun h4 => ?_)
        · rw [tIns_no hu (by omega) h40] at hB
          refine (bRun_fz (n := m) hz0 hB).trans ?_
          show upd (upd zz 6 (nI (dlv S))) 9 0 12 = _
          rw [upd_ne (by decide), upd_ne (by decide)]; exact t2
        · rw [tIns_ok hu (by omega) h4] at hB
          obtain ⟨st3, hst3⟩ : ∃ st3 : RSt, st3 = (upd (upd zz 6 (nI (dlv S))) 9 0, (insK st.2.1.1 u s2 0, insK st.2.1.2.1 u s2 (-1), insR st.2.1.2.2.1 u s2, u + 1), st.2.2.1, upd st.2.2.2.1 (lvl S) (nI (u + 1)), st.2.2.2.2) := ⟨_, rfl⟩
          have hrun : bRun g len (m + 1) st = bRun g len m st3 := by
            rw [hst3]
            exact bRun_tz (n := m) hz0 hB (by show ¬ upd (upd zz 6 (nI (dlv S))) 9 0 11 = 0; rw [upd_ne (by decide), upd_ne (by decide), t1]; decide)
          refine RdO.of hrun (ihW (f + 24) (by omega) m (u + 1) st3 _ ((0, s2) :: S2) (insP π s2 u) (by rw [dep_lo (by decide)]; omega) ?_)
          refine push_sim (t := 0) (c := c) (st := st) (by decide) r2 h4 (fun _ => r4) (fun z => absurd z (by decide)) ⟨c0, k0, k1, k2, ?_⟩ (by rw [hst3]; rfl) (by rw [hst3]) (by rw [hst3]) ?_ (fun j hj => ?_) ?_ ?_ ?_ ?_ q1 q2 hl b1 (by omega) (by omega)
          · rw [if_neg (fun z => absurd z.1 (by decide))]
            exact k3
          · rw [hst3, r6]
            show upd st.2.2.2.1 (lvl S) (nI (u + 1)) (lvl S) = nI (if 3 ≤ 0 then u + 1 else if 0 = 0 then u + 1 else ast S2 s2)
            rw [if_neg (by decide), if_pos rfl]; exact upd_at
          · rw [hst3]
            show upd st.2.2.2.1 (lvl S) (nI (u + 1)) j = _
            rw [r6] at hj
            exact upd_ne (by omega)
          · rw [hst3]
            show upd (upd zz 6 (nI (dlv S))) 9 0 5 = _
            rw [upd_ne (by decide), z5, h5]
          · rw [hst3]; show upd (upd zz 6 (nI (dlv S))) 9 0 9 = 0; exact upd_at
          · rw [hst3]
            show upd (upd zz 6 (nI (dlv S))) 9 0 6 = _
            rw [upd_ne (by decide), upd_at, hdl, r7]
          · rw [hst3]
            show upd (upd zz 6 (nI (dlv S))) 9 0 10 = _
            rw [upd_ne (by decide), upd_ne (by decide)]; exact t3
      · rw [if_neg c38, if_neg c124, r1, bd_s]
        show RdO g len (m + 1) st (if sgv g len (nI (pB g len p)) = -1 then (if μ2.1 30 ≤ 0 then m_read_B (f + 28) 10 (nI (π s2)) 0 0 0 μ2 else m_read_B (f + 28) 9 (nI (π s2)) 0 0 0 μ2) else m_read_B (f + 28) 9 (nI (π s2)) 0 0 0 μ2)
        obtain ⟨tc, e, tk, hcase⟩ := tk_any (g := g) (len := len) (p := p) (q := st.1) hl (by omega) hp1 hg
        rw [hz0] at tk
        have sg : sgv g len (nI (pB g len p)) = if pB g len p < len then g (pB g len p) else -1 := sgv_p (by omega) (by omega)
        have w27 : (mFail (nI (pB g len p)) μ2).1 27 = nI (pB g len p) := by rw [mFail_w, q27, if_neg (by decide)]
        have f9 : m_read_B (f + 28) 9 (nI (π s2)) 0 0 0 μ2 = some (0, mFail (nI (pB g len p)) μ2) := by
          rw [m_read_b9, fail_eq, bd_s, q25]
          show m_read_B (f + 27) 10 (nI (π s2)) 0 0 0 (mFail (nI (pB g len p)) μ2) = _
          rw [m_read_b10, w27, if_pos (nI_pos' (by omega)), m_read_b11, rd_f0 w27 (by omega)]
        have hno : ¬ tc = 38 ∧ ¬ tc = 41 ∧ ¬ tc = 124 ∧ (¬ sgv g len (nI (pB g len p)) = 43 → ¬ tc = 43) ∧ (¬ sgv g len (nI (pB g len p)) = 45 → ¬ tc = 45) ∧ (tc = 0 ↔ ¬ pB g len p < len) := by
          rcases hcase with ⟨x1, x2, x3, x4, x5⟩ | ⟨x1, x2, x3, x4⟩
          · rw [if_pos x1, ← x4] at sg
            rw [sg] at c38 c41 c124 ⊢
            exact ⟨c38, c41, c124, id, id, ⟨fun z => absurd z (by rw [x4]; exact ge32 (hg _ x1) (by decide)), fun z => absurd x1 z⟩⟩
          · have q : ∀ c : Int32, (8 : Int32) ≤ c → ¬ tc = c := fun c h e => absurd x2 (Int32.not_lt.mpr (by rw [e]; exact h))
            exact ⟨q 38 (by decide), q 41 (by decide), q 124 (by decide), fun _ => q 43 (by decide), fun _ => q 45 (by decide), x3⟩
        obtain ⟨m1, m2, m3, m4, m5, m6⟩ := hno
        obtain ⟨cB, z5⟩ := cls tk m4 m5
        obtain ⟨t1, t2, t3, t4⟩ := tk
        have hB : bTake (zz, st.2) = (decide (tc = 0) && decide (lvl S = 0), (upd zz 6 (nI (dlv S)), st.2)) ∨ (¬ tc = 0 ∧ bTake (zz, st.2) = (false, (zz, st.2))) := by
          rcases cB with y | y
          · left
            rw [y, bBP1_o (st := (upd zz 6 (nI (dlv S)), st.2)) (c := tc) (by show upd zz 6 (nI (dlv S)) 11 = tc; rw [upd_ne (by decide)]; exact t1) m1 m2 m3]
            show (decide (tc = 0) && decide (upd zz 6 (nI (dlv S)) 5 = 0), _) = _
            rw [z5]
            have e5 : decide (nI (lvl S) = 0) = decide (lvl S = 0) := by
              by_cases y : lvl S = 0
              · rw [y]; rfl
              · rw [decide_eq_false y, decide_eq_false (show ¬ nI (lvl S) = 0 from nIl (c := 0) y (by omega) (by decide))]
            rw [e5]
          · right
            refine ⟨fun z => ?_, y.2⟩
            rw [z] at y
            exact absurd y.1 (by decide)
        have hfl : ¬ (tc = 0 ∧ lvl S = 0) → (bRun g len (m + 1) st).1 = nI (pB g len p) := by
          intro hn
          rcases hB with y | y
          · have e : (decide (tc = 0) && decide (lvl S = 0)) = false := by
              by_cases y1 : tc = 0
              · rw [decide_eq_false (fun z => hn ⟨y1, z⟩), Bool.and_false]
              · rw [decide_eq_false y1, Bool.false_and]
            rw [e] at y
            refine (bRun_fz (n := m) hz0 y).trans ?_
            show upd zz 6 (nI (dlv S)) 12 = _
            rw [upd_ne (by decide)]; exact t2
          · exact (bRun_fz (n := m) hz0 y.2).trans t2
        have bad : ¬ (tc = 0 ∧ lvl S = 0) → RdO g len (m + 1) st (m_read_B (f + 28) 9 (nI (π s2)) 0 0 0 μ2) := fun hn => by
          rw [f9]
          exact Or.inl ⟨pB g len p, 0, _, rfl, by omega, w27, hfl hn⟩
        by_cases hend : pB g len p < len
        · rw [if_pos hend] at sg
          rw [sg, if_neg (ge32 (hg _ hend) (by decide))]
          exact bad (fun z => absurd hend (m6.mp z.1))
        · rw [if_neg hend] at sg
          rw [sg, if_pos rfl]
          cases S2 with
          | cons q S3 =>
            obtain ⟨t, p0⟩ := q
            have ht3 : 3 ≤ t := r4
            have hlen : ((t, p0) :: S3).length = S3.length + 1 := List.length_cons
            have l64 : ((t, p0) :: S3).length < 64 := shp_64 hsh2 (by omega)
            rw [hlen] at q30 l64
            rw [q30, if_neg (nI_nle (by omega) (by omega))]
            refine bad (fun z => ?_)
            have := z.2
            rw [← r6, lvl_hi ht3] at this
            omega
          | nil =>
            have q30 : μ2.1 30 = nI 0 := q30
            have lv0 : lvl S = 0 := r6.symm
            have tc0 : tc = 0 := m6.mpr hend
            have hs2 : s2 = 0 := r2.2.2.2.2.2.1
            rw [q30, if_pos (by decide), m_read_b10, q27, if_neg (by decide)]
            obtain ⟨c0, k0, k1, k2, k3⟩ := id r3
            subst hs2
            rcases hB with y | y
            · rw [decide_eq_true tc0, decide_eq_true lv0, Bool.and_self] at y
              have hrun := bRun_e (n := m) hz0 y (by show upd zz 6 (nI (dlv S)) 11 = 0; rw [upd_ne (by decide), t1, tc0])
              refine Or.inr ⟨μ2, _, π, u, k0, rfl, q27, hrun, hu, hu4, hπ, k2, ?_⟩
              show SN st + cw (lqX st.2.1 π μ2) k0 0 ≤ len
              omega
            · exact absurd tc0 y.1
theorem read_all {g : Nat → Int32} {len : Nat} (hl : len ≤ 200) (hg : ∀ j, j < len → ¬ g j < 32) (F : Nat) : WOk g len F ∧ BOk g len F := by
  induction F using Nat.strongRecOn with
  | ind F ih => exact ⟨w_step hl hg (fun F' h => (ih F' h).1) (fun F' h => (ih F' h).2), b_step hl hg (fun F' h => (ih F' h).1) (fun F' h => (ih F' h).2)⟩
theorem m_read_F : ∃ F, 3300 ≤ F ∧ ∀ μ, m_read μ = m_read_B F 0 0 0 0 0 (sI 27 (-1) (sI 30 0 (sI 26 0 (sI 24 0 (sI 25 0 μ))))) := ⟨4096, by decide, fun μ => by rw [m_read]⟩
/-- the class's reader where it begins -/
def bSt0 (st : RSt) : RSt := (upd (upd (upd (upd st.1 10 0) 6 0) 5 0) 9 0, (st.2.1.1, st.2.1.2.1, st.2.1.2.2.1, 0), upd st.2.2.1 0 0, upd st.2.2.2.1 0 0, upd st.2.2.2.2 0 0)
theorem bText_0 {g : Nat → Int32} {len : Nat} {st : RSt} : ∃ n, n = 201 ∧ bText g len st = bRun g len n (bSt0 st) := by
  refine ⟨201, rfl, ?_⟩
  rw [bText]
  congr 1
theorem read_top {g : Nat → Int32} {len : Nat} {st : RSt} {μ : MS} (hl : len ≤ 200) (hg : ∀ j, j < len → ¬ g j < 32) (h1 : μ.2.1 1 = g) (h2 : μ.1 2 = nI len) :
    (∃ w x μ', m_read μ = some (x, μ') ∧ w ≤ 1000 ∧ μ'.1 27 = nI w ∧ (bText g len st).1 = nI w) ∨
    (∃ μ' st' π u k, m_read μ = some (nI (π 0), μ') ∧ μ'.1 27 = -1 ∧ bText g len st = (-1, st') ∧ st'.2.1.2.2.2 = u ∧ u ≤ 40 ∧ pinj π u ∧ tr (lqX st'.2.1 π μ') k true 0 u ∧ SN st' + cw (lqX st'.2.1 π μ') k 0 ≤ len) := by
  obtain ⟨F, hF, eF⟩ := m_read_F
  obtain ⟨n, hn, en⟩ := bText_0 (g := g) (len := len) (st := st)
  obtain ⟨F, rfl⟩ : ∃ F', F = F' + 1 := ⟨F - 1, by omega⟩
  have z27 : (sI 27 (-1) (sI 30 0 (sI 26 0 (sI 24 0 (sI 25 0 μ))))).1 27 = -1 := sI_at
  rw [eF, en, m_read_b0, z27, if_neg (by decide)]
  refine (read_all hl hg F).1 n 0 (bSt0 st) _ [] id (by show 80 * (40 - 0) + (10 - 0) + 60 ≤ F; omega) ⟨⟨z27, ?_, by omega, rfl, ⟨fun j hj => absurd hj (by omega), fun i j hi _ _ => absurd hi (by omega)⟩, rfl, trivial, by decide, ?_, ?_, trivial, ?_, trivial, ?_, ?_, ?_⟩, h1, ?_, ?_, ?_, 0, 0, ?_, by omega, by omega, ?_, by omega, rfl, 0, trivial, Nat.le_refl _⟩
  · rw [sI_ne (by decide), sI_ne (by decide), sI_ne (by decide), sI_at]; rfl
  · rw [sI_ne (by decide), sI_ne (by decide), sI_at]; rfl
  · rw [sI_ne (by decide), sI_at]; rfl
  · show upd (upd (upd (upd st.1 10 0) 6 0) 5 0) 9 0 5 = nI 0
    rw [upd_ne (by decide), upd_at]; rfl
  · show upd st.2.2.1 0 0 0 = nI 0
    rw [upd_at]; rfl
  · show upd st.2.2.2.1 0 0 0 = nI 0
    rw [upd_at]; rfl
  · show upd st.2.2.2.2 0 0 0 = nI 0
    rw [upd_at]; rfl
  · rw [sI_ne (by decide), sI_ne (by decide), sI_ne (by decide), sI_ne (by decide), sI_ne (by decide)]; exact h2
  · show upd (upd (upd (upd st.1 10 0) 6 0) 5 0) 9 0 9 = 0
    exact upd_at
  · show upd (upd (upd (upd st.1 10 0) 6 0) 5 0) 9 0 6 = nI 0
    rw [upd_ne (by decide), upd_ne (by decide), upd_at]; rfl
  · show upd (upd (upd (upd st.1 10 0) 6 0) 5 0) 9 0 10 = nI 0
    rw [upd_ne (by decide), upd_ne (by decide), upd_ne (by decide), upd_at]; rfl
  · rw [sI_ne (by decide), sI_ne (by decide), sI_ne (by decide), sI_ne (by decide), sI_at]; rfl
