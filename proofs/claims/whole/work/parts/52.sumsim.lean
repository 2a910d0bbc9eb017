/-! sums, side by side: the run -/
theorem lq_app {ts ts' : TSt} {π : Nat → Nat} {μ μ' : MS} {u : Nat} {k v : Int32} (h : AppR μ μ' u k v) (ht : ts' = (upd ts.1 u k, upd ts.2.1 u v, upd ts.2.2.1 u (-1), u + 1)) : lqX ts' (va_up π u u) μ' = LQapp (lqX ts π μ) u k v := by
  subst ht
  obtain ⟨-, -, a1, a2, a3, a4, -⟩ := h
  show (_, _, _, _, μ'.2.1 20, μ'.2.1 21, μ'.2.1 22, μ'.2.1 23) = _
  rw [a1, a2, a3, a4]
  rfl
theorem nodeS_k {k : Int32} {u : Nat} {μ : MS} : (nodeS k u μ).2.1 20 = upd (μ.2.1 20) u k ∧ (nodeS k u μ).2.1 21 = upd (μ.2.1 21) u (-1) ∧ (nodeS k u μ).2.1 22 = upd (μ.2.1 22) u (-1) ∧ (nodeS k u μ).2.1 23 = upd (μ.2.1 23) u (-1) ∧ (∀ j, j ≠ 20 → j ≠ 21 → j ≠ 22 → j ≠ 23 → (nodeS k u μ).2.1 j = μ.2.1 j) ∧ (nodeS k u μ).1 24 = nI (u + 1) ∧ ∀ j, j ≠ 24 → (nodeS k u μ).1 j = μ.1 j := by
  refine ⟨?_, ?_, ?_, ?_, fun j a b c d => ?_, ?_, fun j a => ?_⟩
  · rw [nodeS, sI_2, sA_ne (by decide), sA_ne (by decide), sA_ne (by decide), sA_at]
  · rw [nodeS, sI_2, sA_ne (by decide), sA_ne (by decide), sA_at, sA_ne (by decide)]
  · rw [nodeS, sI_2, sA_ne (by decide), sA_at, sA_ne (by decide), sA_ne (by decide)]
  · rw [nodeS, sI_2, sA_at, sA_ne (by decide), sA_ne (by decide), sA_ne (by decide)]
  · rw [nodeS, sI_2, sA_ne d, sA_ne c, sA_ne b, sA_ne a]
  · rw [nodeS, sI_at]
  · rw [nodeS, sI_ne a]; rfl
theorem lq_ins {ts ts' : TSt} {π : Nat → Nat} {μ : MS} {a : Int32} {s u : Nat} {k : Int32} (ht : ts' = (insK ts.1 u s k, insK ts.2.1 u s (-1), insR ts.2.2.1 u s, u + 1)) : lqX ts' (insP π s u) (nodeS k u (sI 25 a μ)) = LQins (lqX ts π μ) s u k := by
  subst ht
  obtain ⟨a1, a2, a3, a4, -⟩ := nodeS_k (k := k) (u := u) (μ := sI 25 a μ)
  show (_, _, _, _, (nodeS k u (sI 25 a μ)).2.1 20, (nodeS k u (sI 25 a μ)).2.1 21, (nodeS k u (sI 25 a μ)).2.1 22, (nodeS k u (sI 25 a μ)).2.1 23) = _
  rw [a1, a2, a3, a4]
  rfl
theorem lq_lr {ts : TSt} {π : Nat → Nat} {μ : MS} {i : Nat} {a b : Int32} : lqX ts π (sA 23 i b (sA 22 i a μ)) = LQlr (lqX ts π μ) i a b := by
  show (_, _, _, _, (sA 23 i b (sA 22 i a μ)).2.1 20, (sA 23 i b (sA 22 i a μ)).2.1 21, (sA 23 i b (sA 22 i a μ)).2.1 22, (sA 23 i b (sA 22 i a μ)).2.1 23) = _
  rw [sA_ne (by decide), sA_ne (by decide), sA_ne (by decide), sA_ne (by decide), sA_ne (by decide), sA_at, sA_at, sA_ne (by decide)]
  rfl
theorem sum_end {f : Nat} {x1 x2 y0 : Int32} {μ : MS} {w : Nat} (h : μ.1 27 = nI w) (hw : w < 2 ^ 31) : m_sum_B (f + 2) 0 x1 x2 y0 μ = some (x1, μ) := by
  rw [m_sum_b0, h, if_pos (nI_pos' hw), m_sum_b5]
def SumO (g : Nat → Int32) (len : Nat) (st : RSt) (μ : MS) (π : Nat → Nat) (s n : Nat) (o : Option (Int32 × MS)) : Prop :=
  (∃ w x μ', o = some (x, μ') ∧ w ≤ 1000 ∧ FlR μ μ' w ∧ (bRun g len n st).1 = nI w) ∨
  (∃ n' st' μ' π' u', o = some (nI (π' s), μ') ∧ bRun g len n st = bRun g len n' st' ∧ SmP g len st' μ' π' s u' n' ∧ (∀ j, j < s → lsa (lqX st.2.1 π μ) (lqX st'.2.1 π' μ') j) ∧ SmF st st' μ μ' ∧ st'.1 8 = st.1 8 ∧ ∀ p, st'.1 10 = nI p → p ≤ len → ¬ sgv g len (nI (pB g len p)) = 43 ∧ ¬ sgv g len (nI (pB g len p)) = 45)
theorem tmr_w {g : Nat → Int32} {len b u w : Nat} (hb : b ≤ 1000) (hl : len ≤ 200) (h : tmr g len b u = .inr w) : w ≤ 1000 := by
  have h2 : pB g len (wE g len b) ≤ 1000 := pB_le hl (by
    rcases skp_le2 (P := zlet) (g := g) (len := len) 200 b with z | z
    · show skp zlet g len 200 b ≤ 1000; omega
    · show skp zlet g len 200 b ≤ 1000; omega)
  rw [tmr] at h
  repeat' split at h
  all_goals cases h
  all_goals first | exact hb | exact h2
theorem sum_one {g : Nat → Int32} {len : Nat} (hl : len ≤ 200) (hg : ∀ j, j < len → ¬ g j < 32) {f n s u : Nat} {st : RSt} {μ : MS} {π : Nat → Nat} (hf : 7 ≤ f) (hS : SmP g len st μ π s u n)
    (ih : ∀ (f' n' u' : Nat) (st' : RSt) (μ' : MS) (π' : Nat → Nat), f = f' + 5 → u' = u + 2 ∧ u' ≤ 40 → SmP g len st' μ' π' s u' n' → SumO g len st' μ' π' s n' (m_sum_B f' 0 (nI (π' s)) 0 0 μ')) : SumO g len st μ π s n (m_sum_B f 0 (nI (π s)) 0 0 μ) := by
  obtain ⟨h1, h2, h27, h24, hu4, hu, hπ, ⟨k0, ht⟩, h9, h7, p, p', hp1, hp2, hp3, hp4, hp5, hpb⟩ := id hS
  obtain ⟨f, rfl⟩ : ∃ f', f = f' + 7 := ⟨f - 7, by omega⟩
  have hlt := tr_lt ht
  have hb := pB_le (g := g) hl hp5
  have lk := look_eq (μ := μ) hl hp4 h2 hp5
  rw [h1] at lk
  have lk : m_look μ = some (sgv g len (nI (pB g len p)), sI 25 (nI (pB g len p)) μ) := by rw [hpb]; exact lk
  have hbp : p ≤ pB g len p := skp_ge 200 p
  rw [← hpb] at hb
  have hbl : pB g len p ≤ len := skp_le 200 p hp2
  have pbi : pB g len (pB g len p) = pB g len p := pB_id hl
  generalize hB : pB g len p = b at *
  have lk2 : m_look (sI 25 (nI b) μ) = some (sgv g len (nI b), sI 25 (nI b) (sI 25 (nI b) μ)) := by
    have := look_eq (len := len) (p := b) (μ := sI 25 (nI b) μ) hl sI_at (by rw [sI_ne (by decide)]; exact h2) hb
    rw [sI_2, h1] at this
    rw [this]
    show some (sgv g len (nI (pB g len b)), sI 25 (nI (pB g len b)) _) = _
    rw [pbi]
  have op : ∀ c kd : Int32, (c = 43 ∧ kd = 9) ∨ (c = 45 ∧ kd = 10) → sgv g len (nI b) = c → SumO g len st μ π s n (m_sum_B (f + 6) 1 (nI (π s)) 0 0 (sI 25 (nI b) μ)) := by
    intro c kd hc hsg
    have hlt2 : b < len := by
      rcases Nat.lt_or_ge b len with z | z
      · exact z
      · rw [sgv_p (by omega) (by omega), if_neg (by omega)] at hsg
        rcases hc with z | z
        · rw [z.1] at hsg; exact absurd hsg (by decide)
        · rw [z.1] at hsg; exact absurd hsg (by decide)
    have hgc : g b = c := by rw [sgv_p (by omega) (by omega), if_pos hlt2] at hsg; exact hsg
    have m25 : (sI 25 (nI b) μ).1 25 = nI b := sI_at
    have tk : tkF st.1 (zTok g len st.1) b c (b + 1) := by
      have := tk_other (g := g) (len := len) (p := p) (q := st.1) hl (by omega) hp1 (by rw [hB]; exact hlt2) (by rw [hB, hgc]; rcases hc with z | z <;> rw [z.1] <;> decide) (by rw [hB, hgc]; rcases hc with z | z <;> rw [z.1] <;> decide) (by rw [hB, hgc]; rcases hc with z | z <;> rw [z.1] <;> decide)
      rw [hB, hgc] at this
      exact this
    have hBT := bTake_op tk h9 h7 hu (by omega) hc hu4
    obtain ⟨t1, t2, t3, t4⟩ := tk
    have e1 : m_sum_B (f + 6) 1 (nI (π s)) 0 0 (sI 25 (nI b) μ) = m_sum_B (f + 5) 2 (nI (π s)) 0 kd (sI 25 (nI b) μ) := by
      rw [m_sum_b1, m25, if_pos (inb_nI (by omega) (by decide)), nI_clamp (by omega), sI_2, h1, hgc]
      rcases hc with ⟨rfl, rfl⟩ | ⟨rfl, rfl⟩
      · rw [if_pos rfl]
      · rw [if_neg (by decide)]
    rw [e1, m_sum_b2, m25]
    obtain ⟨m, rfl⟩ : ∃ m, n = m + 2 := ⟨n - 2, by omega⟩
    have m24 : (sI 25 (nI b) μ).1 24 = nI u := by rw [sI_ne (by decide)]; exact h24
    have m27 : (sI 25 (nI b) μ).1 27 = -1 := by rw [sI_ne (by decide)]; exact h27
    by_cases h4 : u < 40
    · rw [node_ok m24 h4]
      obtain ⟨n20, n21, n22, n23, nar, n24, nin⟩ := nodeS_k (k := kd) (u := u) (μ := sI 25 (nI b) μ)
      show SumO g len st μ π s (m + 2) (if 0 ≤ (nodeS kd u (sI 25 (nI b) μ)).1 27 then _ else _)
      rw [nin 27 (by decide), m27, if_neg (by decide), nin 25 (by decide), m25, nI_1]
      rw [if_pos h4, decide_eq_true h4] at hBT
      have r1 := bRun_t (n := m + 1) hBT (by
        show ¬ upd (zTok g len st.1) 9 2 11 = 0
        rw [upd_ne (by decide), t1]
        rcases hc with z | z <;> rw [z.1] <;> decide)
      have hte := term_eq (len := len) (p := b + 1) (u := u + 1) (μ := sI 25 (nI (b + 1)) (nodeS kd u (sI 25 (nI b) μ))) hl (by omega) sI_at (by rw [sI_ne (by decide), nin 2 (by decide), sI_ne (by decide)]; exact h2) (by rw [sI_ne (by decide), nin 27 (by decide)]; exact m27) (by rw [sI_ne (by decide)]; exact n24) (by omega) (by
        intro j hj
        rw [sI_2, nar 1 (by decide) (by decide) (by decide) (by decide), sI_2, h1]
        exact ge32 (hg j hj) (by decide))
      rw [sI_2, nar 1 (by decide) (by decide) (by decide) (by decide), sI_2, h1] at hte
      have hct := cterm (g := g) (len := len) (n := m) (u := u + 1) (p := b + 1) (st := (upd (zTok g len st.1) 9 2, (insK st.2.1.1 u s kd, insK st.2.1.2.1 u s (-1), insR st.2.1.2.2.1 u s, u + 1), st.2.2)) hl (by omega) hg (by show upd (zTok g len st.1) 9 2 10 = _; rw [upd_ne (by decide), t3]) rfl (Or.inl (by show upd (zTok g len st.1) 9 2 9 = 2; rw [upd_at])) (by
        have := skp_ge (P := zbl) (g := g) (len := len) 200 (b + 1)
        show len ≤ m + skp zbl g len 200 (b + 1)
        omega)
      have fl0 : ∀ {μ2 : MS} {w : Nat}, FlR (sI 25 (nI (b + 1)) (nodeS kd u (sI 25 (nI b) μ))) μ2 w → FlR μ μ2 w := fun z => ⟨z.1, z.2.1.trans (by rw [sI_ne (by decide), nin 30 (by decide), sI_ne (by decide)]), z.2.2.1.trans (by rw [sI_2, nar 28 (by decide) (by decide) (by decide) (by decide), sI_2]), z.2.2.2.trans (by rw [sI_2, nar 29 (by decide) (by decide) (by decide) (by decide), sI_2])⟩
      cases hr : tmr g len (pB g len (b + 1)) (u + 1) with
      | inr w =>
        rw [hr] at hte hct
        obtain ⟨x, μ2, e2, e3⟩ := hte
        have hw := tmr_w (pB_le hl (by omega)) hl hr
        left
        refine ⟨w, nI u, μ2, ?_, hw, fl0 e3, by rw [r1]; exact hct⟩
        rw [e2]
        show m_sum_B (f + 4) 3 (nI (π s)) (nI u) x μ2 = _
        rw [m_sum_b3, e3.1, if_pos (nI_pos' (by omega)), m_sum_b4, sum_end e3.1 (by omega)]
      | inl q =>
        rw [hr] at hte hct
        obtain ⟨μ2, e2, hA, e25⟩ := hte
        obtain ⟨n', st', c1, c2, c3, c4, c5, c6, c7, c8, c9, c10, c11⟩ := hct
        obtain ⟨hlf, hbq, hq4⟩ := tmr_lf hr
        rw [e2]
        show SumO g len st μ π s (m + 2) (m_sum_B (f + 4) 3 (nI (π s)) (nI u) (nI (u + 1)) μ2)
        have w27 : μ2.1 27 = -1 := by rw [hA.2.1 27 (by decide) (by decide), sI_ne (by decide), nin 27 (by decide)]; exact m27
        rw [m_sum_b3, w27, if_neg (by decide), if_pos (inb_nI h4 (by decide)), m_sum_b4, nI_clamp (by omega)]
        have X1 : lqX (insK st.2.1.1 u s kd, insK st.2.1.2.1 u s (-1), insR st.2.1.2.2.1 u s, u + 1) (insP π s u) (sI 25 (nI (b + 1)) (nodeS kd u (sI 25 (nI b) μ))) = LQins (lqX st.2.1 π μ) s u kd := lq_ins (ts := st.2.1) (π := π) (μ := μ) (a := nI b) (s := s) (u := u) (k := kd) rfl
        have X2 := lq_app (π := insP π s u) hA c4
        rw [X1] at X2
        have X3 : lqX st'.2.1 (va_up (insP π s u) (u + 1) (u + 1)) (sA 23 u (nI (u + 1)) (sA 22 u (nI (π s)) μ2)) = LQlr (LQapp (LQins (lqX st.2.1 π μ) s u kd) (u + 1) q.1 q.2.1) u (nI (π s)) (nI (u + 1)) := by rw [lq_lr, X2]
        obtain ⟨y1, y2, y3, y4⟩ := sum_step (X := lqX st.2.1 π μ) (s := s) (u := u) (k := q.1) (v := q.2.1) (kd := kd) hπ (by omega) h4 ht (by rcases hc with z | z; exact Or.inl z.2; exact Or.inr z.2) hlf
        have en : LQ.n (lqX st.2.1 π μ) s = π s := rfl
        rw [en, ← X3] at y1 y2 y3 y4
        have y4 : va_up (insP π s u) (u + 1) (u + 1) s = u := y4
        have hSF : SmF st st' μ (sA 23 u (nI (u + 1)) (sA 22 u (nI (π s)) μ2)) := by
          refine ⟨fun j a1 a2 => ?_, fun j a1 a2 a3 a4 => ?_, c5, ?_, ?_, ?_⟩
          · rw [sA_1, sA_1, hA.2.1 j a1 a2, sI_ne a2, nin j a1, sI_ne a2]
          · rw [sA_ne a4, sA_ne a3, hA.2.2.2.2.2.2 j a1 a2 a3 a4, sI_2, nar j a1 a2 a3 a4, sI_2]
          · rw [c8]; show upd (zTok g len st.1) 9 2 5 = _; rw [upd_ne (by decide), t4 5 (by decide) (by decide) (by decide) (by decide)]
          · rw [c9]; show upd (zTok g len st.1) 9 2 6 = _; rw [upd_ne (by decide), t4 6 (by decide) (by decide) (by decide) (by decide)]
          · have n1 := tmr_nc hl hr
            have n2 : b + 1 ≤ pB g len (b + 1) := skp_ge 200 _
            have n3 : nc kd (-1) = 1 := nc_op (by rcases hc with z | z; exact Or.inl z.2; exact Or.inr (Or.inl z.2))
            show sN st'.2.1.1 st'.2.1.2.1 st'.2.1.2.2.2 + (st.1 10).toNatClampNeg ≤ sN st.2.1.1 st.2.1.2.1 st.2.1.2.2.2 + (st'.1 10).toNatClampNeg
            rw [c4, c6, hp1, hu, nI_clamp (by omega), nI_clamp (by omega)]
            show sN (upd (insK st.2.1.1 u s kd) (u + 1) q.1) (upd (insK st.2.1.2.1 u s (-1)) (u + 1) q.2.1) (u + 1 + 1) + p ≤ sN st.2.1.1 st.2.1.2.1 u + q.2.2
            rw [sN_app, sN_ins (by omega), n3]
            omega
        have hS2 : SmP g len st' (sA 23 u (nI (u + 1)) (sA 22 u (nI (π s)) μ2)) (va_up (insP π s u) (u + 1) (u + 1)) s (u + 2) n' := by
          refine ⟨by rw [hSF.2.1 1 (by decide) (by decide) (by decide) (by decide)]; exact h1, by rw [hSF.1 2 (by decide) (by decide)]; exact h2, by rw [hSF.1 27 (by decide) (by decide)]; exact h27, hA.1, by omega, by rw [c4], y3, ⟨_, y1⟩, c7, ?_, q.2.2, q.2.2, c6, c3, c2, e25, by omega, rfl⟩
          rw [c10]
          show (if upd (zTok g len st.1) 9 2 9 = 0 then _ else upd (zTok g len st.1) 9 2 7) = _
          rw [upd_at, if_neg (by decide), upd_ne (by decide), t4 7 (by decide) (by decide) (by decide) (by decide), h7]
        have res := ih (f + 2) n' (u + 2) st' _ _ rfl ⟨rfl, by omega⟩ hS2
        rw [y4] at res
        have st8 : st'.1 8 = st.1 8 := by
          rw [c11]
          show (if upd (zTok g len st.1) 9 2 9 = 0 then _ else upd (zTok g len st.1) 9 2 8) = _
          rw [upd_at, if_neg (by decide), upd_ne (by decide), t4 8 (by decide) (by decide) (by decide) (by decide)]
        rcases res with ⟨w, x, μ3, r2, r3, r4, r5⟩ | ⟨n3, st3, μ3, π3, u3, r2, r3, r4, r5, r6, r7, r8⟩
        · exact Or.inl ⟨w, x, μ3, r2, r3, FlR.of hSF r4, by rw [r1, c1]; exact r5⟩
        · exact Or.inr ⟨n3, st3, μ3, π3, u3, r2, by rw [r1, c1]; exact r3, r4, fun j hj => lsa_tr (y2 j hj) (r5 j hj), hSF.tr r6, r7.trans st8, r8⟩
    · left
      have hu40 : u = 40 := by omega
      rw [node_full (by rw [m24, hu40])]
      have hf := fl_of (μ := μ) (μ' := sI 25 (nI b) μ) (w := b) m27 (sI_ne (by decide)) rfl rfl
      rw [if_neg h4, decide_eq_false h4] at hBT
      refine ⟨b, 0, sI 25 ((mFail (nI b) (sI 25 (nI b) μ)).1 25 + 1) (mFail (nI b) (sI 25 (nI b) μ)), ?_, hb, ⟨by rw [sI_ne (by decide)]; exact hf.1, by rw [sI_ne (by decide)]; exact hf.2.1, hf.2.2.1, hf.2.2.2⟩, ?_⟩
      · show (if 0 ≤ (mFail (nI b) (sI 25 (nI b) μ)).1 27 then m_sum_B (f + 4) 3 (nI (π s)) 0 0 (sI 25 ((mFail (nI b) (sI 25 (nI b) μ)).1 25 + 1) (mFail (nI b) (sI 25 (nI b) μ))) else _) = _
        have w27 : (sI 25 ((mFail (nI b) (sI 25 (nI b) μ)).1 25 + 1) (mFail (nI b) (sI 25 (nI b) μ))).1 27 = nI b := by rw [sI_ne (by decide)]; exact hf.1
        rw [hf.1, if_pos (nI_pos' (by omega)), m_sum_b3, w27, if_pos (nI_pos' (by omega)), m_sum_b4, sum_end w27 (by omega)]
      · rw [bRun_f (n := m + 1) hBT]
        show upd (zTok g len st.1) 9 2 12 = nI b
        rw [upd_ne (by decide), t2]
  rw [m_sum_b0, h27, if_neg (by decide), lk]
  show SumO g len st μ π s n (if sgv g len (nI b) = 43 then m_sum_B (f + 6) 1 (nI (π s)) 0 0 (sI 25 (nI b) μ) else (m_look (sI 25 (nI b) μ)).bind _)
  by_cases c1 : sgv g len (nI b) = 43
  · rw [if_pos c1]
    exact op 43 9 (Or.inl ⟨rfl, rfl⟩) c1
  · rw [if_neg c1, lk2]
    show SumO g len st μ π s n (if sgv g len (nI b) = 45 then m_sum_B (f + 6) 1 (nI (π s)) 0 0 (sI 25 (nI b) (sI 25 (nI b) μ)) else m_sum_B (f + 6) 5 (nI (π s)) 0 0 (sI 25 (nI b) (sI 25 (nI b) μ)))
    rw [sI_sI]
    by_cases c2 : sgv g len (nI b) = 45
    · rw [if_pos c2]
      exact op 45 10 (Or.inr ⟨rfl, rfl⟩) c2
    · rw [if_neg c2, m_sum_b5]
      right
      refine ⟨n, st, sI 25 (nI b) μ, π, u, rfl, rfl, ⟨h1, by rw [sI_ne (by decide)]; exact h2, by rw [sI_ne (by decide)]; exact h27, by rw [sI_ne (by decide)]; exact h24, hu4, hu, hπ, ⟨k0, ht⟩, h9, h7, p, b, hp1, hp2, hp3, sI_at, hb, by rw [hB, pbi]⟩, fun j _ => lsa_rf, ⟨fun j _ a => sI_ne a, fun _ _ _ _ _ => rfl, rfl, rfl, rfl, Nat.le_refl _⟩, rfl, fun r hr hrl => ?_⟩
      have : r = p := (nI_eq (by omega) (by omega)).mp (hr.symm.trans hp1)
      rw [this, hB]
      exact ⟨c1, c2⟩
theorem sum_sim {g : Nat → Int32} {len : Nat} (hl : len ≤ 200) (hg : ∀ j, j < len → ¬ g j < 32) : ∀ (d f n s u : Nat) (st : RSt) (μ : MS) (π : Nat → Nat), 40 - u ≤ d → 7 * d + 7 ≤ f → SmP g len st μ π s u n → SumO g len st μ π s n (m_sum_B f 0 (nI (π s)) 0 0 μ) := by
  intro d
  induction d with
  | zero =>
    intro f n s u st μ π hd hf hS
    exact sum_one hl hg (by omega) hS (fun f' n' u' st' μ' π' h1 h2 h3 => by omega)
  | succ d ih =>
    intro f n s u st μ π hd hf hS
    exact sum_one hl hg (by omega) hS (fun f' n' u' st' μ' π' h1 h2 h3 => ih f' n' s u' st' μ' π' (by omega) (by omega) h3)
