/-! comparisons, side by side -/
theorem cmp_step {X Y : LQ} {s u u2 n m : Nat} {kd : Int32} (hπ : pinj (LQ.n X) u) (hs : s ≤ u) (hu : u < 40) (ht : tr X n false s u) (hk : kd = 5 ∨ kd = 6 ∨ kd = 7 ∨ kd = 8) (hag : ∀ j, j < u + 1 → lsa (LQins X s u kd) Y j) (hπ2 : pinj (LQ.n Y) u2) (hu2 : u2 ≤ 40) (ht2 : tr Y m false (u + 1) u2) :
    tr (LQlr Y u (nI (LQ.n X s)) (nI (LQ.n Y (u + 1)))) (n + m + 1) true s u2 ∧ (∀ j, j < s → lsa X (LQlr Y u (nI (LQ.n X s)) (nI (LQ.n Y (u + 1)))) j) ∧ LQ.n (LQlr Y u (nI (LQ.n X s)) (nI (LQ.n Y (u + 1)))) s = u ∧ LQ.K Y s = kd := by
  have hlt := tr_lt ht
  have hlt2 := tr_lt ht2
  obtain ⟨a1, a2, a3, a4, a5, a6, a7, a8⟩ := hag s (by omega)
  have is : LQ.n (LQins X s u kd) s = u := insP_at
  have ns : LQ.n Y s = u := by rw [← a4, is]
  have ids : ∀ j, j < u2 → j ≠ s → LQ.n Y j ≠ u := fun j hj hn e => hn (hπ2.2 j s hj (by omega) (e.trans ns.symm))
  have t1 : tr (LQins X s u kd) n false (s + 1) (u + 1) := tr_sh (by omega) ht (fun j a b => ins_lss hπ a b)
  have t2 : tr Y n false (s + 1) (u + 1) := tr_cg t1 (fun j a b => hag j b)
  have t3 : tr (LQlr Y u (nI (LQ.n X s)) (nI (LQ.n Y (u + 1)))) n false (s + 1) (u + 1) := tr_cg t2 (fun j a b => lr_lsa (ids j (by omega) (by omega)))
  have t4 : tr (LQlr Y u (nI (LQ.n X s)) (nI (LQ.n Y (u + 1)))) m false (u + 1) u2 := tr_cg ht2 (fun j a b => lr_lsa (ids j b (by omega)))
  have hK : LQ.K Y s = kd := by rw [← a1]; exact insK_at
  have hV : LQ.V Y s = -1 := by rw [← a2]; exact insK_at
  have hR : LQ.R Y s = nI (u + 1) := by rw [← a3]; exact insR_at
  have hn1 : LQ.n Y (s + 1) = LQ.n X s := by rw [← (hag (s + 1) (by omega)).2.2.2.1]; exact insP_gt (Nat.le_refl _)
  have kd9 : decide (kd ≤ 8) = true ∧ decide (kd ≤ 4) = false ∧ ¬ (8 : Int32) < kd ∧ bi kd := by
    rcases hk with rfl | rfl | rfl | rfl
    · exact ⟨by decide, by decide, by decide, by simp [bi]⟩
    · exact ⟨by decide, by decide, by decide, by simp [bi]⟩
    · exact ⟨by decide, by decide, by decide, by simp [bi]⟩
    · exact ⟨by decide, by decide, by decide, by simp [bi]⟩
  refine ⟨⟨by omega, ?_, ?_, ?_, Or.inr (Or.inr ⟨by show bi (LQ.K Y s); rw [hK]; exact kd9.2.2.2, u + 1, hR, ?_, ?_, ?_, ?_, fun z => absurd z (by show ¬ 8 < LQ.K Y s; rw [hK]; exact kd9.2.2.1)⟩)⟩, fun j hj => ?_, ns, hK⟩
  · show LQ.mk Y (LQ.n Y s) = LQ.K Y s
    rw [hK, ← a4, ← a5, is]; exact upd_at
  · show LQ.mt Y (LQ.n Y s) = LQ.V Y s
    rw [hV, ← a4, ← a6, is]; exact upd_at
  · show true = decide (LQ.K Y s ≤ 8)
    rw [hK, kd9.1]
  · show upd (LQ.ml Y) u (nI (LQ.n X s)) (LQ.n Y s) = nI (LQ.n Y (s + 1))
    rw [ns, upd_at, hn1]
  · show upd (LQ.mr Y) u (nI (LQ.n Y (u + 1))) (LQ.n Y s) = nI (LQ.n Y (u + 1))
    rw [ns, upd_at]
  · show tr _ _ (decide (LQ.K Y s ≤ 4)) _ _
    rw [hK, kd9.2.1]; exact tr_le t3 (by omega)
  · show tr _ _ (decide (LQ.K Y s ≤ 4)) _ _
    rw [hK, kd9.2.1]; exact tr_le t4 (by omega)
  · exact lsa_tr (ins_lsa hπ hs hj) (lsa_tr (hag j (by omega)) (lr_lsa (ids j (by omega) (by omega))))
/-- a sum may begin here -/
def PrS (g : Nat → Int32) (len : Nat) (st : RSt) (μ : MS) (π : Nat → Nat) (u n : Nat) : Prop :=
  μ.2.1 1 = g ∧ μ.1 2 = nI len ∧ μ.1 27 = -1 ∧ μ.1 24 = nI u ∧ u ≤ 40 ∧ st.2.1.2.2.2 = u ∧ pinj π u ∧ ∃ p p', st.1 10 = nI p ∧ p ≤ len ∧ len + 1 ≤ n + p ∧ μ.1 25 = nI p' ∧ p' ≤ 1000 ∧ pB g len p = pB g len p' ∧ ((st.1 9 = 2 ∧ st.1 7 = nI u) ∨ (st.1 9 = 0 ∧ nBeg g len (pB g len p)))
def SumT (g : Nat → Int32) (len : Nat) (st : RSt) (μ : MS) (π : Nat → Nat) (s n : Nat) (o : Option (Int32 × MS)) : Prop :=
  (∃ w x μ', o = some (x, μ') ∧ w ≤ 1000 ∧ FlR μ μ' w ∧ (bRun g len n st).1 = nI w) ∨
  (∃ n' st' μ' π' u', o = some (nI (π' s), μ') ∧ bRun g len n st = bRun g len n' st' ∧ SmP g len st' μ' π' s u' n' ∧ (∀ j, j < s → lsa (lqX st.2.1 π μ) (lqX st'.2.1 π' μ') j) ∧ SmF st st' μ μ' ∧ st'.1 8 = (if st.1 9 = 0 then 0 else st.1 8) ∧ ∀ p, st'.1 10 = nI p → p ≤ len → ¬ sgv g len (nI (pB g len p)) = 43 ∧ ¬ sgv g len (nI (pB g len p)) = 45)
theorem m_sum_F : ∃ F, 300 ≤ F ∧ ∀ μ, m_sum μ = (m_term μ).bind (fun p1 => m_sum_B F 0 p1.1 0 0 p1.2) := ⟨4096, by decide, fun μ => by rw [m_sum]⟩
theorem sum_full {g : Nat → Int32} {len n u : Nat} {st : RSt} {μ : MS} {π : Nat → Nat} (hl : len ≤ 200) (hg : ∀ j, j < len → ¬ g j < 32) (hS : PrS g len st μ π u n) : SumT g len st μ π u n (m_sum μ) := by
  obtain ⟨h1, h2, h27, h24, hu4, hu, hπ, p, p', hp1, hp2, hp3, hp4, hp5, hpb, hst⟩ := hS
  have hte := term_eq hl hp5 hp4 h2 h27 h24 hu4 (fun j hj => by rw [h1]; exact ge32 (hg j hj) (by decide))
  rw [h1, ← hpb] at hte
  have hge : p ≤ pB g len p := skp_ge 200 p
  have hpl : pB g len p ≤ len := skp_le 200 p hp2
  obtain ⟨m, rfl⟩ : ∃ m, n = m + 1 := ⟨n - 1, by omega⟩
  have hct := cterm (n := m) hl hp2 hg hp1 hu (hst.imp (fun z => z.1) id) (by omega)
  obtain ⟨F, hF, eF⟩ := m_sum_F
  rw [eF]
  cases hr : tmr g len (pB g len p) u with
  | inr w =>
    rw [hr] at hte hct
    obtain ⟨x, μ', e1, e2⟩ := hte
    have hw := tmr_w (by omega) hl hr
    left
    refine ⟨w, x, μ', ?_, hw, e2, hct⟩
    rw [e1]
    obtain ⟨f, rfl⟩ : ∃ f, F = f + 2 := ⟨F - 2, by omega⟩
    exact sum_end (f := f) e2.1 (by omega)
  | inl q =>
    rw [hr] at hte hct
    obtain ⟨μ2, e1, hA, e25⟩ := hte
    obtain ⟨n', st', c1, c2, c3, c4, c5, c6, c7, c8, c9, c10, c11⟩ := hct
    obtain ⟨hlf, hbq, hq4⟩ := tmr_lf hr
    rw [e1]
    show SumT g len st μ π u (m + 1) (m_sum_B F 0 (nI u) 0 0 μ2)
    have X2 := lq_app (π := π) hA c4
    have pa : pinj (va_up π u u) (u + 1) := pinj_app hπ
    have ag : ∀ j, j < u → lsa (lqX st.2.1 π μ) (lqX st'.2.1 (va_up π u u) μ2) j := fun j hj => by rw [X2]; exact app_lsa (X := lqX st.2.1 π μ) hπ hj
    have hSF : SmF st st' μ μ2 := by
      refine ⟨hA.2.1, hA.2.2.2.2.2.2, c5, c8, c9, ?_⟩
      have n1 := tmr_nc hl hr
      show sN st'.2.1.1 st'.2.1.2.1 st'.2.1.2.2.2 + (st.1 10).toNatClampNeg ≤ sN st.2.1.1 st.2.1.2.1 st.2.1.2.2.2 + (st'.1 10).toNatClampNeg
      rw [c4, c6, hp1, hu, nI_clamp (by omega), nI_clamp (by omega)]
      show sN (upd st.2.1.1 u q.1) (upd st.2.1.2.1 u q.2.1) (u + 1) + p ≤ sN st.2.1.1 st.2.1.2.1 u + q.2.2
      rw [sN_app]
      omega
    have hS2 : SmP g len st' μ2 (va_up π u u) u (u + 1) n' := by
      refine ⟨by rw [hSF.2.1 1 (by decide) (by decide) (by decide) (by decide)]; exact h1, by rw [hSF.1 2 (by decide) (by decide)]; exact h2, by rw [hSF.1 27 (by decide) (by decide)]; exact h27, hA.1, by omega, by rw [c4], pa, ⟨1, by rw [X2]; exact app_leaf hlf⟩, c7, ?_, q.2.2, q.2.2, c6, c3, c2, e25, by omega, rfl⟩
      rw [c10]
      rcases hst with z | z
      · rw [z.1, if_neg (by decide)]; exact z.2
      · rw [z.1, if_pos rfl]
    have res := sum_sim hl hg 40 F n' u (u + 1) st' μ2 (va_up π u u) (by omega) (by omega) hS2
    have y4 : va_up π u u u = u := va_up_self _ _ _
    rw [y4] at res
    rcases res with ⟨w, x, μ3, r2, r3, r4, r5⟩ | ⟨n3, st3, μ3, π3, u3, r2, r3, r4, r5, r6, r7, r8⟩
    · exact Or.inl ⟨w, x, μ3, r2, r3, FlR.of hSF r4, by rw [c1]; exact r5⟩
    · exact Or.inr ⟨n3, st3, μ3, π3, u3, r2, by rw [c1]; exact r3, r4, fun j hj => lsa_tr (ag j hj) (r5 j hj), hSF.tr r6, r7.trans c11, r8⟩
/-- a comparison has been read: places s .. u-1 -/
def CmP (g : Nat → Int32) (len : Nat) (st : RSt) (μ : MS) (π : Nat → Nat) (s u n : Nat) : Prop :=
  μ.2.1 1 = g ∧ μ.1 2 = nI len ∧ μ.1 27 = -1 ∧ μ.1 24 = nI u ∧ u ≤ 40 ∧ st.2.1.2.2.2 = u ∧ pinj π u ∧ (∃ k, tr (lqX st.2.1 π μ) k true s u ∧ 5 ≤ st.2.1.1 s) ∧ ∃ p p', st.1 10 = nI p ∧ p ≤ len ∧ len + 1 ≤ n + p ∧ μ.1 25 = nI p' ∧ p' ≤ 1000 ∧ pB g len p = pB g len p' ∧ ((st.1 9 = 4 ∧ ¬ st.1 8 = 0 ∧ ¬ sgv g len (nI (pB g len p)) = 43 ∧ ¬ sgv g len (nI (pB g len p)) = 45) ∨ st.1 9 = 5)
def CmpO (g : Nat → Int32) (len : Nat) (st : RSt) (μ : MS) (π : Nat → Nat) (s n : Nat) (o : Option (Int32 × MS)) : Prop :=
  (∃ w x μ', o = some (x, μ') ∧ w ≤ 1000 ∧ FlR μ μ' w ∧ (bRun g len n st).1 = nI w) ∨
  (∃ n' st' μ' π' u', o = some (nI (π' s), μ') ∧ bRun g len n st = bRun g len n' st' ∧ CmP g len st' μ' π' s u' n' ∧ (∀ j, j < s → lsa (lqX st.2.1 π μ) (lqX st'.2.1 π' μ') j) ∧ SmF st st' μ μ')
def cKd (c : Int32) : Int32 := if c = 60 then 5 else if c = 62 then 6 else if c = 61 then 7 else if c = 35 then 8 else -1
theorem cmp_ref (F : Nat) (x1 : Int32) (c : Int32) (μ : MS) : (if c = 60 then m_comparison_B F 0 x1 0 5 μ else (if c = 62 then m_comparison_B F 0 x1 0 6 μ else (if c = 61 then m_comparison_B F 0 x1 0 7 μ else (if c = 35 then m_comparison_B F 0 x1 0 8 μ else m_comparison_B F 0 x1 0 (-1) μ)))) = m_comparison_B F 0 x1 0 (cKd c) μ := by
  rw [cKd]
  repeat' split
  all_goals rfl
theorem m_cmp_F : ∃ F, 5 ≤ F ∧ ∀ μ, m_comparison μ = (m_sum μ).bind (fun p1 => (if (p1.2.1 27) < 0 then (m_look p1.2).bind (fun p15 => m_comparison_B F 0 p1.1 0 (cKd p15.1) p15.2) else some (0, p1.2))) := by
  refine ⟨4096, by decide, fun μ => ?_⟩
  rw [m_comparison]
  generalize 4096 = F
  simp only [cmp_ref]
/-- the token at p: a sign of its own, or one of a few numbers -/
theorem tk_any {g : Nat → Int32} {len p : Nat} {q : Nat → Int32} (hl : len ≤ 200) (hp : p ≤ 1000) (hq : q 10 = nI p) (hg : ∀ j, j < len → ¬ g j < 32) :
    ∃ tc e, tkF q (zTok g len q) (pB g len p) tc e ∧ ((pB g len p < len ∧ zdig (g (pB g len p)) = false ∧ zlet (g (pB g len p)) = false ∧ tc = g (pB g len p) ∧ e = pB g len p + 1) ∨ (¬ tc < 0 ∧ tc < 8 ∧ (tc = 0 ↔ ¬ pB g len p < len) ∧ (pB g len p < len → zdig (g (pB g len p)) = true ∨ zlet (g (pB g len p)) = true))) := by
  by_cases h : pB g len p < len
  · have hm : ¬ g (pB g len p) = -1 := ge32 (hg _ h) (by decide)
    by_cases hd : zdig (g (pB g len p)) = true
    · refine ⟨_, _, (tk_num hl hp hq h hm hd).1, Or.inr ?_⟩
      split
      · exact ⟨by decide, by decide, ⟨fun z => absurd z (by decide), fun z => absurd h z⟩, fun _ => Or.inl hd⟩
      · exact ⟨by decide, by decide, ⟨fun z => absurd z (by decide), fun z => absurd h z⟩, fun _ => Or.inl hd⟩
    · have hd : zdig (g (pB g len p)) = false := by simpa using hd
      by_cases hz : zlet (g (pB g len p)) = true
      · by_cases hw : wcd g (pB g len p) (wE g len (pB g len p) - pB g len p) = 1
        · refine ⟨_, _, (tk_field hl hp hq h hm hd hz hw).1, Or.inr ?_⟩
          split
          · exact ⟨by decide, by decide, ⟨fun z => absurd z (by decide), fun z => absurd h z⟩, fun _ => Or.inr hz⟩
          · exact ⟨by decide, by decide, ⟨fun z => absurd z (by decide), fun z => absurd h z⟩, fun _ => Or.inr hz⟩
        · refine ⟨_, _, tk_word hl hp hq h hm hd hz hw, Or.inr ?_⟩
          rw [wtk]
          repeat' split
          all_goals exact ⟨by decide, by decide, ⟨fun z => absurd z (by decide), fun z => absurd h z⟩, fun _ => Or.inr hz⟩
      · have hz : zlet (g (pB g len p)) = false := by simpa using hz
        exact ⟨_, _, tk_other hl hp hq h hm hd hz, Or.inl ⟨h, hd, hz, rfl, rfl⟩⟩
  · exact ⟨0, _, tk_end hl hp hq h, Or.inr ⟨by decide, by decide, ⟨fun _ => h, fun _ => rfl⟩, fun z => absurd z h⟩⟩
theorem tk_is {g : Nat → Int32} {len p : Nat} {q : Nat → Int32} {c : Int32} (hl : len ≤ 200) (hp : p ≤ 1000) (hq : q 10 = nI p) (hs : sgv g len (nI (pB g len p)) = c) (hb : pB g len p ≤ 1000) (hc : ¬ c = -1) (hd : zdig c = false) (hz : zlet c = false) : pB g len p < len ∧ g (pB g len p) = c ∧ tkF q (zTok g len q) (pB g len p) c (pB g len p + 1) := by
  rw [sgv_p (by omega) (by omega)] at hs
  by_cases h : pB g len p < len
  · rw [if_pos h] at hs
    refine ⟨h, hs, ?_⟩
    have := tk_other (g := g) hl hp hq h (by rw [hs]; exact hc) (by rw [hs]; exact hd) (by rw [hs]; exact hz)
    rw [hs] at this
    exact this
  · rw [if_neg h] at hs
    exact absurd hs.symm hc
theorem bCmp_t {st : RSt} {s u : Nat} {kd : Int32} (h7 : st.1 7 = nI s) (hk : rKind st = kd) (hu : st.2.1.2.2.2 = u) (hs : s ≤ u) (h4 : u < 40) : bCmp st = (true, (upd (upd (upd st.1 8 1) 7 (nI (u + 1))) 9 2, (insK st.2.1.1 u s kd, insK st.2.1.2.1 u s (-1), insR st.2.1.2.2.1 u s, u + 1), st.2.2)) := by
  rw [bCmp, h7, hk, tIns_ok hu hs h4, if_pos rfl]
theorem bCmp_f {st : RSt} {s u : Nat} {kd : Int32} (h7 : st.1 7 = nI s) (hk : rKind st = kd) (hu : st.2.1.2.2.2 = u) (hs : s ≤ u) (h4 : u = 40) : bCmp st = (false, st) := by
  rw [bCmp, h7, hk, tIns_no hu hs h4]
  show (if (false : Bool) = true then _ else (false, st)) = _
  rw [if_neg (by decide)]
theorem bTake_cmp {g : Nat → Int32} {len s u b e : Nat} {st : RSt} {c kd : Int32} (ht : tkF st.1 (zTok g len st.1) b c e) (h9 : st.1 9 = 4) (h7 : st.1 7 = nI s) (h8 : st.1 8 = 0) (hu : st.2.1.2.2.2 = u) (hs : s ≤ u) (hc : (c = 60 ∧ kd = 5) ∨ (c = 62 ∧ kd = 6) ∨ (c = 61 ∧ kd = 7) ∨ (c = 35 ∧ kd = 8)) (h4 : u ≤ 40) :
    bTake (zTok g len st.1, st.2) = if u < 40 then (true, (upd (upd (upd (zTok g len st.1) 8 1) 7 (nI (u + 1))) 9 2, (insK st.2.1.1 u s kd, insK st.2.1.2.1 u s (-1), insR st.2.1.2.2.1 u s, u + 1), st.2.2)) else (false, (zTok g len st.1, st.2)) := by
  obtain ⟨t1, t2, t3, t4⟩ := ht
  have z9 : zTok g len st.1 9 = 4 := by rw [t4 9 (by decide) (by decide) (by decide) (by decide), h9]
  have z8 : zTok g len st.1 8 = 0 := by rw [t4 8 (by decide) (by decide) (by decide) (by decide), h8]
  have z7 : zTok g len st.1 7 = nI s := by rw [t4 7 (by decide) (by decide) (by decide) (by decide), h7]
  have hk : rKind (zTok g len st.1, st.2) = kd := rKind_of t1 (Or.inr (Or.inr hc))
  have n1 : ¬ (c = 43 ∨ c = 45) := by rcases hc with z | z | z | z <;> rw [z.1] <;> decide
  have n2 : c = 35 ∨ c = 60 ∨ c = 61 ∨ c = 62 := by rcases hc with z | z | z | z <;> simp [z.1]
  refine (bTake_4 (st := (zTok g len st.1, st.2)) z9).trans ((bBT_c (st := (zTok g len st.1, st.2)) t1 n1 n2 z8).trans ?_)
  by_cases h : u < 40
  · rw [if_pos h]
    exact bCmp_t (st := (zTok g len st.1, st.2)) z7 hk hu hs h
  · rw [if_neg h]
    exact bCmp_f (st := (zTok g len st.1, st.2)) z7 hk hu hs (by omega)
/-- behind a sum, a token that goes on nothing -/
theorem bTake_cno {g : Nat → Int32} {len b e : Nat} {st : RSt} {c : Int32} (ht : tkF st.1 (zTok g len st.1) b c e) (h9 : st.1 9 = 4) (h8 : st.1 8 = 0) (n1 : ¬ (c = 43 ∨ c = 45)) (n2 : ¬ (c = 35 ∨ c = 60 ∨ c = 61 ∨ c = 62)) : bTake (zTok g len st.1, st.2) = (false, (zTok g len st.1, st.2)) := by
  obtain ⟨t1, t2, t3, t4⟩ := ht
  have z9 : zTok g len st.1 9 = 4 := by rw [t4 9 (by decide) (by decide) (by decide) (by decide), h9]
  have z8 : zTok g len st.1 8 = 0 := by rw [t4 8 (by decide) (by decide) (by decide) (by decide), h8]
  exact (bTake_4 (st := (zTok g len st.1, st.2)) z9).trans (bBT_n (st := (zTok g len st.1, st.2)) t1 n1 n2 z8)
theorem cKd_inv (c : Int32) : ((c = 60 ∧ cKd c = 5) ∨ (c = 62 ∧ cKd c = 6) ∨ (c = 61 ∧ cKd c = 7) ∨ (c = 35 ∧ cKd c = 8)) ∨ (cKd c = -1 ∧ ¬ (c = 35 ∨ c = 60 ∨ c = 61 ∨ c = 62)) := by
  rw [cKd]
  by_cases a : c = 60
  · left; left; subst a; exact ⟨rfl, rfl⟩
  · rw [if_neg a]
    by_cases b : c = 62
    · left; right; left; subst b; exact ⟨rfl, rfl⟩
    · rw [if_neg b]
      by_cases d : c = 61
      · left; right; right; left; subst d; exact ⟨rfl, rfl⟩
      · rw [if_neg d]
        by_cases e : c = 35
        · left; right; right; right; subst e; exact ⟨rfl, rfl⟩
        · rw [if_neg e]
          right
          exact ⟨rfl, fun z => by rcases z with z | z | z | z; exact e z; exact a z; exact d z; exact b z⟩
theorem cmp_sim {g : Nat → Int32} {len n u : Nat} {st : RSt} {μ : MS} {π : Nat → Nat} (hl : len ≤ 200) (hg : ∀ j, j < len → ¬ g j < 32) (hS : PrS g len st μ π u n) (h0 : st.1 9 = 0) : CmpO g len st μ π u n (m_comparison μ) := by
  obtain ⟨F, hF, eF⟩ := m_cmp_F
  obtain ⟨F, rfl⟩ : ∃ F', F = F' + 3 := ⟨F - 3, by omega⟩
  rw [eF]
  rcases sum_full hl hg hS with ⟨w, x, μ', e1, e2, e3, e4⟩ | ⟨n1, st1, μ1, π1, u1, e1, r1, hS1, ag1, F1, s8, tk1⟩
  · rw [e1]
    show CmpO g len st μ π u n (if μ'.1 27 < 0 then _ else _)
    rw [e3.1, if_neg (nI_pos (by omega))]
    exact Or.inl ⟨w, 0, μ', rfl, e2, e3, e4⟩
  · rw [e1]
    show CmpO g len st μ π u n (if μ1.1 27 < 0 then (m_look μ1).bind _ else _)
    obtain ⟨h1, h2, h27, h24, hu4, hu, hπ, ⟨k0, ht⟩, h9, h7, p, p', hp1, hp2, hp3, hp4, hp5, hpb⟩ := hS1
    rw [h0, if_pos rfl] at s8
    rw [h27, if_pos (by decide)]
    have lk := look_eq (μ := μ1) hl hp4 h2 hp5
    rw [h1] at lk
    have lk : m_look μ1 = some (sgv g len (nI (pB g len p)), sI 25 (nI (pB g len p)) μ1) := by rw [hpb]; exact lk
    have hbp : p ≤ pB g len p := skp_ge 200 p
    have hbl : pB g len p ≤ len := skp_le 200 p hp2
    have hlt := tr_lt ht
    rw [lk]
    show CmpO g len st μ π u n (m_comparison_B (F + 3) 0 (nI (π1 u)) 0 (cKd (sgv g len (nI (pB g len p)))) (sI 25 (nI (pB g len p)) μ1))
    have m25 : (sI 25 (nI (pB g len p)) μ1).1 25 = nI (pB g len p) := sI_at
    have m24 : (sI 25 (nI (pB g len p)) μ1).1 24 = nI u1 := by rw [sI_ne (by decide)]; exact h24
    have m27 : (sI 25 (nI (pB g len p)) μ1).1 27 = -1 := by rw [sI_ne (by decide)]; exact h27
    have F2 : SmF st st1 μ (sI 25 (nI (pB g len p)) μ1) := ⟨fun j a b => by rw [sI_ne b]; exact F1.1 j a b, F1.2.1, F1.2.2⟩
    rcases cKd_inv (sgv g len (nI (pB g len p))) with hc | ⟨hk, hc⟩
    · have hcc : ∃ c kd, sgv g len (nI (pB g len p)) = c ∧ cKd (sgv g len (nI (pB g len p))) = kd ∧ ((c = 60 ∧ kd = 5) ∨ (c = 62 ∧ kd = 6) ∨ (c = 61 ∧ kd = 7) ∨ (c = 35 ∧ kd = 8)) := ⟨_, _, rfl, rfl, hc⟩
      obtain ⟨c, kd, hcs, hkd, hc⟩ := hcc
      obtain ⟨b1, b2, tk⟩ := tk_is hl (by omega) hp1 hcs (by omega) (by rcases hc with z | z | z | z <;> rw [z.1] <;> decide) (by rcases hc with z | z | z | z <;> rw [z.1] <;> decide) (by rcases hc with z | z | z | z <;> rw [z.1] <;> decide)
      have hBT := bTake_cmp tk h9 h7 s8 hu (by omega) hc hu4
      obtain ⟨t1, t2, t3, t4⟩ := tk
      have hk0 : (0 : Int32) ≤ kd := by rcases hc with z | z | z | z <;> rw [z.2] <;> decide
      obtain ⟨m, rfl⟩ : ∃ m, n1 = m + 1 := ⟨n1 - 1, by omega⟩
      rw [hkd, m_comparison_b0, if_pos hk0, m25]
      by_cases h4 : u1 < 40
      · rw [if_pos h4] at hBT
        rw [node_ok m24 h4]
        obtain ⟨n20, n21, n22, n23, nar, n24, nin⟩ := nodeS_k (k := kd) (u := u1) (μ := sI 25 (nI (pB g len p)) μ1)
        show CmpO g len st μ π u n (if 0 ≤ (nodeS kd u1 (sI 25 (nI (pB g len p)) μ1)).1 27 then _ else _)
        rw [nin 27 (by decide), m27, if_neg (by decide), nin 25 (by decide), m25, nI_1]
        have r2 := bRun_t (n := m) hBT (by
          show ¬ upd (upd (upd (zTok g len st1.1) 8 1) 7 (nI (u1 + 1))) 9 2 11 = 0
          rw [upd_ne (by decide), upd_ne (by decide), upd_ne (by decide), t1]
          rcases hc with z | z | z | z <;> rw [z.1] <;> decide)
        have X1 : lqX (insK st1.2.1.1 u1 u kd, insK st1.2.1.2.1 u1 u (-1), insR st1.2.1.2.2.1 u1 u, u1 + 1) (insP π1 u u1) (sI 25 (nI (pB g len p + 1)) (nodeS kd u1 (sI 25 (nI (pB g len p)) μ1))) = LQins (lqX st1.2.1 π1 μ1) u u1 kd := lq_ins (ts := st1.2.1) (π := π1) (μ := μ1) (a := nI (pB g len p)) (s := u) (u := u1) (k := kd) rfl
        have hP2 : PrS g len (upd (upd (upd (zTok g len st1.1) 8 1) 7 (nI (u1 + 1))) 9 2, (insK st1.2.1.1 u1 u kd, insK st1.2.1.2.1 u1 u (-1), insR st1.2.1.2.2.1 u1 u, u1 + 1), st1.2.2) (sI 25 (nI (pB g len p + 1)) (nodeS kd u1 (sI 25 (nI (pB g len p)) μ1))) (insP π1 u u1) (u1 + 1) m := by
          refine ⟨by rw [sI_2, nar 1 (by decide) (by decide) (by decide) (by decide), sI_2]; exact h1, by rw [sI_ne (by decide), nin 2 (by decide), sI_ne (by decide)]; exact h2, by rw [sI_ne (by decide), nin 27 (by decide)]; exact m27, by rw [sI_ne (by decide)]; exact n24, by omega, rfl, pinj_ins hπ (by omega), pB g len p + 1, pB g len p + 1, ?_, by omega, by omega, sI_at, by omega, rfl, Or.inl ⟨?_, ?_⟩⟩
          · show upd (upd (upd (zTok g len st1.1) 8 1) 7 (nI (u1 + 1))) 9 2 10 = _
            rw [upd_ne (by decide), upd_ne (by decide), upd_ne (by decide), t3]
          · show upd (upd (upd (zTok g len st1.1) 8 1) 7 (nI (u1 + 1))) 9 2 9 = 2
            exact upd_at
          · show upd (upd (upd (zTok g len st1.1) 8 1) 7 (nI (u1 + 1))) 9 2 7 = _
            rw [upd_ne (by decide), upd_at]
        have F3 : SmF st (upd (upd (upd (zTok g len st1.1) 8 1) 7 (nI (u1 + 1))) 9 2, (insK st1.2.1.1 u1 u kd, insK st1.2.1.2.1 u1 u (-1), insR st1.2.1.2.2.1 u1 u, u1 + 1), st1.2.2) μ (sI 25 (nI (pB g len p + 1)) (nodeS kd u1 (sI 25 (nI (pB g len p)) μ1))) := by
          refine ⟨fun j a b => ?_, fun j a b c d => ?_, F1.2.2.1, ?_, ?_, ?_⟩
          · rw [sI_ne b, nin j a]; exact F2.1 j a b
          · rw [sI_2, nar j a b c d]; exact F2.2.1 j a b c d
          · show upd (upd (upd (zTok g len st1.1) 8 1) 7 (nI (u1 + 1))) 9 2 5 = _
            rw [upd_ne (by decide), upd_ne (by decide), upd_ne (by decide), t4 5 (by decide) (by decide) (by decide) (by decide)]; exact F1.2.2.2.1
          · show upd (upd (upd (zTok g len st1.1) 8 1) 7 (nI (u1 + 1))) 9 2 6 = _
            rw [upd_ne (by decide), upd_ne (by decide), upd_ne (by decide), t4 6 (by decide) (by decide) (by decide) (by decide)]; exact F1.2.2.2.2.1
          · have n1 := F1.2.2.2.2.2
            have n3 : nc kd (-1) = 1 := nc_op (by rcases hc with z | z | z | z; exact Or.inr (Or.inr (Or.inl z.2)); exact Or.inr (Or.inr (Or.inr (Or.inl z.2))); exact Or.inr (Or.inr (Or.inr (Or.inr (Or.inl z.2)))); exact Or.inr (Or.inr (Or.inr (Or.inr (Or.inr (Or.inl z.2))))))
            show sN (insK st1.2.1.1 u1 u kd) (insK st1.2.1.2.1 u1 u (-1)) (u1 + 1) + (st.1 10).toNatClampNeg ≤ sN st.2.1.1 st.2.1.2.1 st.2.1.2.2.2 + (upd (upd (upd (zTok g len st1.1) 8 1) 7 (nI (u1 + 1))) 9 2 10).toNatClampNeg
            rw [upd_ne (by decide), upd_ne (by decide), upd_ne (by decide), t3, sN_ins (by omega), n3, nI_clamp (by omega)]
            have n4 : sN st1.2.1.1 st1.2.1.2.1 st1.2.1.2.2.2 + (st.1 10).toNatClampNeg ≤ sN st.2.1.1 st.2.1.2.1 st.2.1.2.2.2 + (st1.1 10).toNatClampNeg := n1
            rw [hu, hp1, nI_clamp (by omega)] at n4
            omega
        rcases sum_full hl hg hP2 with ⟨w, x, μ', f1, f2, f3, f4⟩ | ⟨n3, st3, μ3, π3, u3, f1, r3, hS3, ag3, G3, s83, tk3⟩
        · left
          refine ⟨w, nI u1, μ', ?_, f2, FlR.of F3 f3, by rw [r1, r2]; exact f4⟩
          rw [f1]
          show m_comparison_B (F + 2) 1 (nI (π1 u)) (nI u1) x μ' = _
          rw [m_comparison_b1, f3.1, if_pos (nI_pos' (by omega)), m_comparison_b2]
        · obtain ⟨q1, q2, q27, q24, qu4, qu, qπ, ⟨k3, qt⟩, q9, q7, pp, pp', qp1, qp2, qp3, qp4, qp5, qpb⟩ := hS3
          rw [f1]
          show CmpO g len st μ π u n (m_comparison_B (F + 2) 1 (nI (π1 u)) (nI u1) (nI (π3 (u1 + 1))) μ3)
          rw [m_comparison_b1, q27, if_neg (by decide), if_pos (inb_nI h4 (by decide)), nI_clamp (by omega), m_comparison_b2]
          rw [X1] at ag3
          have en : LQ.n (lqX st1.2.1 π1 μ1) u = π1 u := rfl
          have em : LQ.n (lqX st3.2.1 π3 μ3) (u1 + 1) = π3 (u1 + 1) := rfl
          obtain ⟨y1, y2, y3, y4⟩ := cmp_step (X := lqX st1.2.1 π1 μ1) (Y := lqX st3.2.1 π3 μ3) (s := u) (u := u1) (u2 := u3) (kd := kd) hπ (by omega) h4 ht (by rcases hc with z | z | z | z <;> simp [z.2]) ag3 qπ qu4 qt
          rw [en, em, ← lq_lr] at y1 y2 y3
          have y3 : π3 u = u1 := y3
          right
          refine ⟨n3, st3, sA 23 u1 (nI (π3 (u1 + 1))) (sA 22 u1 (nI (π1 u)) μ3), π3, u3, by rw [y3], by rw [r1, r2, r3], ⟨?_, ?_, ?_, ?_, qu4, qu, qπ, ⟨_, y1, by rw [show st3.2.1.1 u = kd from y4]; rcases hc with z | z | z | z <;> rw [z.2] <;> decide⟩, pp, pp', qp1, qp2, qp3, qp4, qp5, qpb, Or.inl ⟨q9, ?_, tk3 pp qp1 qp2⟩⟩, fun j hj => lsa_tr (ag1 j hj) (y2 j hj), ?_⟩
          · rw [sA_ne (by decide), sA_ne (by decide)]; exact q1
          · exact q2
          · exact q27
          · exact q24
          · rw [s83]
            show ¬ (if upd (upd (upd (zTok g len st1.1) 8 1) 7 (nI (u1 + 1))) 9 2 9 = 0 then 0 else upd (upd (upd (zTok g len st1.1) 8 1) 7 (nI (u1 + 1))) 9 2 8) = 0
            rw [upd_at, if_neg (by decide), upd_ne (by decide), upd_ne (by decide), upd_at]
            decide
          · have G4 := F3.tr G3
            exact ⟨G4.1, fun j a b c d => by rw [sA_ne d, sA_ne c]; exact G4.2.1 j a b c d, G4.2.2⟩
      · rw [if_neg h4] at hBT
        have hu40 : u1 = 40 := by omega
        rw [node_full (by rw [m24, hu40])]
        have hf := fl_of (μ := μ) (μ' := sI 25 (nI (pB g len p)) μ1) (w := pB g len p) m27 (F2.1 30 (by decide) (by decide)) (F2.2.1 28 (by decide) (by decide) (by decide) (by decide)) (F2.2.1 29 (by decide) (by decide) (by decide) (by decide))
        show CmpO g len st μ π u n (if 0 ≤ (mFail (nI (pB g len p)) (sI 25 (nI (pB g len p)) μ1)).1 27 then m_comparison_B (F + 2) 1 (nI (π1 u)) 0 0 (sI 25 ((mFail (nI (pB g len p)) (sI 25 (nI (pB g len p)) μ1)).1 25 + 1) (mFail (nI (pB g len p)) (sI 25 (nI (pB g len p)) μ1))) else _)
        have w27 : (sI 25 ((mFail (nI (pB g len p)) (sI 25 (nI (pB g len p)) μ1)).1 25 + 1) (mFail (nI (pB g len p)) (sI 25 (nI (pB g len p)) μ1))).1 27 = nI (pB g len p) := by rw [sI_ne (by decide)]; exact hf.1
        rw [hf.1, if_pos (nI_pos' (by omega)), m_comparison_b1, w27, if_pos (nI_pos' (by omega)), m_comparison_b2]
        left
        refine ⟨pB g len p, 0, _, rfl, by omega, ⟨w27, by rw [sI_ne (by decide)]; exact hf.2.1, hf.2.2.1, hf.2.2.2⟩, ?_⟩
        rw [r1, bRun_f (n := m) hBT]
        exact t2
    · rw [hk, m_comparison_b0, if_neg (by decide), m25, fail_eq]
      left
      refine ⟨pB g len p, 0, _, rfl, by omega, fl_of m27 (F2.1 30 (by decide) (by decide)) (F2.2.1 28 (by decide) (by decide) (by decide) (by decide)) (F2.2.1 29 (by decide) (by decide) (by decide) (by decide)), ?_⟩
      obtain ⟨tc, e, tk, hcase⟩ := tk_any (g := g) (len := len) (p := p) (q := st1.1) hl (by omega) hp1 hg
      obtain ⟨m, rfl⟩ : ∃ m, n1 = m + 1 := ⟨n1 - 1, by omega⟩
      have hno : ¬ (tc = 43 ∨ tc = 45) ∧ ¬ (tc = 35 ∨ tc = 60 ∨ tc = 61 ∨ tc = 62) := by
        rcases hcase with ⟨z1, z2, z3, z4, z5⟩ | ⟨z1, z2, z3, z4⟩
        · have hs : sgv g len (nI (pB g len p)) = tc := by rw [sgv_p (by omega) (by omega), if_pos z1, z4]
          rw [hs] at hc
          have := tk1 p hp1 hp2
          rw [hs] at this
          exact ⟨fun z => z.elim this.1 this.2, hc⟩
        · have q : ∀ c : Int32, (8 : Int32) ≤ c → ¬ tc = c := fun c h e => absurd z2 (Int32.not_lt.mpr (by rw [e]; exact h))
          exact ⟨fun z => z.elim (q 43 (by decide)) (q 45 (by decide)), fun z => by rcases z with z | z | z | z; exact q 35 (by decide) z; exact q 60 (by decide) z; exact q 61 (by decide) z; exact q 62 (by decide) z⟩
      rw [r1, bRun_f (n := m) (bTake_cno tk h9 s8 hno.1 hno.2)]
      exact tk.2.1
