/-! a tree is printed, side by side -/
theorem sgv_in {g : Nat → Int32} {u p : Nat} (hu : u ≤ 40) (h : p < u) : sgv g u (nI p) = g p := by rw [sgv_p (by omega) (by omega), if_pos h]
theorem tleft_in {K : Nat → Int32} {u p : Nat} (hu : u ≤ 40) (h : p < u) (hk : K p ≤ 10) : tleft K u (nI p) = nI (p + 1) := by
  rw [tleft, if_pos (thas_iff.mpr ⟨nI_pos (by omega), nI_nle2 h (by omega)⟩), nI_clamp (by omega), if_neg (Int32.not_lt.mpr hk), nI_1]
theorem pBel_in {K R : Nat → Int32} {u a c : Nat} {T : Int32 → List Int32} (hu : u ≤ 40) (ha : a < u) (hc : c < u) : pBel K R u T (nI a) (nI c) = wrap (pBr (K a) (K c) (decide (nI c = R a))) (T (nI c)) := by
  rw [pBel, sgv_in hu ha, sgv_in hu hc, sgv_in hu ha, wrap]
theorem wL_bi {kd kl : Int32} (h : bi kd) : wL kd kl = pBr kd kl false := by
  rcases h with rfl | rfl | rfl | rfl | rfl | rfl | rfl | rfl
  · rw [wL, pBr, if_neg (fun z => absurd z.1 (by decide)), if_neg (fun z => absurd z.1 (by decide)), if_neg (by decide), if_neg (by decide), if_neg (by decide), if_neg (by decide), if_pos rfl, Bool.and_false]
  · rw [wL, pBr, if_neg (show ¬ (1 : Int32) = 2 by decide), if_pos (show (1 : Int32) = 1 from rfl), Bool.and_false, Bool.or_false]
    by_cases c : kl = 0
    · rw [if_pos ⟨rfl, c⟩, decide_eq_true c]
    · rw [if_neg (fun z => c z.2), if_neg (fun z => absurd z.1 (by decide)), if_neg (by decide), if_neg (by decide), decide_eq_false c]
  all_goals rw [wL, pBr, if_neg (fun z => absurd z.1 (by decide)), if_neg (fun z => absurd z.1 (by decide)), if_neg (by decide), if_neg (by decide), if_neg (by decide), if_neg (by decide), if_neg (by decide)]
theorem wR_bi {kd kr : Int32} (h : bi kd) : wR kd kr = pBr kd kr true := by
  rcases h with rfl | rfl | rfl | rfl | rfl | rfl | rfl | rfl
  · rw [wR, pBr, if_neg (show ¬ (2 : Int32) ≤ 0 by decide), if_neg (show ¬ (0 : Int32) = 2 by decide), if_neg (show ¬ (0 : Int32) = 1 by decide), if_pos (show (0 : Int32) = 0 from rfl), Bool.and_true]
    by_cases c : kr = 0
    · rw [if_pos c, decide_eq_true c]
    · rw [if_neg c, if_neg (fun z => absurd z.1 (by decide)), decide_eq_false c]
  · rw [wR, pBr, if_neg (show ¬ (2 : Int32) ≤ 1 by decide), if_neg (show ¬ (1 : Int32) = 2 by decide), if_pos (show (1 : Int32) = 1 from rfl), Bool.and_true]
    by_cases c : kr = 1
    · rw [if_pos c, decide_eq_true c, Bool.or_true]
    · rw [if_neg c, decide_eq_false c, Bool.or_false]
      by_cases d : kr = 0
      · rw [if_pos ⟨rfl, d⟩, decide_eq_true d]
      · rw [if_neg (fun z => d z.2), decide_eq_false d]
  all_goals rw [wR, pBr, if_pos (by decide), if_neg (by decide), if_neg (by decide), if_neg (by decide)]
theorem pSig_bi {kd : Int32} (h : bi kd) : pSig kd = [sgn kd] ∧ ¬ 1000 ≤ sgn kd := by
  rcases h with rfl | rfl | rfl | rfl | rfl | rfl | rfl | rfl <;> exact ⟨rfl, by decide⟩
theorem pp_p {w : Bool} {k c q : Nat} {μ : MS} (h : μ.1 36 = nI q) : Prt [] k q μ (pp w k c μ) := by
  obtain ⟨a1, a2, a3, a4, -, -⟩ := pp_k (w := w) (k := k) (c := c) (μ := μ)
  exact ⟨fun j _ => by rw [a1], fun j _ b => a2 j b, a3, a4, by rw [a1]; exact h, by rw [a2 35 (by decide)]; rfl⟩
theorem k_lt2 {X : LQ} {u j : Nat} (h : nodeOk X u j) : LQ.K X j < 2 ↔ (LQ.K X j = 0 ∨ LQ.K X j = 1) := by
  have key : ∀ x : Int32, (x = 11 ∨ x = 12 ∨ x = 13 ∨ x = 14 ∨ x = 2 ∨ x = 3 ∨ x = 4 ∨ x = 0 ∨ x = 1 ∨ x = 5 ∨ x = 6 ∨ x = 7 ∨ x = 8 ∨ x = 9 ∨ x = 10) → (x < 2 ↔ (x = 0 ∨ x = 1)) := fun x hx => by
    rcases hx with rfl | rfl | rfl | rfl | rfl | rfl | rfl | rfl | rfl | rfl | rfl | rfl | rfl | rfl | rfl <;> decide
  apply key
  rcases h with ⟨h, -⟩ | ⟨h, -⟩ | ⟨h, -⟩
  · rcases h with ⟨z, -⟩ | ⟨z | z | z, -⟩ <;> simp [z]
  · rcases h with z | z | z <;> simp [z]
  · rcases h with z | z | z | z | z | z | z | z <;> simp [z]
/-- the texts, by kind -/
theorem txt_lf {K V R : Nat → Int32} {u a m : Nat} (hu : u ≤ 40) (ha : a < u) (h : lf (K a) (V a)) : pTxt K V R u (m + 1) (nI a) = pTerm (K a) (V a) := by
  rw [pTxt, sgv_in hu ha, sgv_in hu ha]
  have n : ¬ K a = 2 ∧ ¬ K a = 3 ∧ ¬ K a = 4 ∧ (K a = 11 ∨ K a = 12 ∨ K a = 13 ∨ K a = 14) := by
    rcases h with ⟨z, -⟩ | ⟨z | z | z, -⟩ <;> rw [z] <;> decide
  rw [if_neg n.1, if_neg n.2.1, if_neg n.2.2.1, if_pos n.2.2.2]
theorem txt_un {K V R : Nat → Int32} {u a m : Nat} (hu : u ≤ 40) (ha : a + 1 < u) (h : un (K a)) (hR : R a = -1) (hl : K (a + 1) < 2 ↔ (K (a + 1) = 0 ∨ K (a + 1) = 1)) : pTxt K V R u (m + 1) (nI a) = pre (K a) ++ wrap (wL (K a) (K (a + 1))) (pTxt K V R u m (nI (a + 1))) := by
  have k10 := un_10 h
  rw [pTxt, sgv_in hu (by omega), tleft_in hu (by omega) k10, pBel_in hu (by omega) ha, hR, decide_eq_false (nI_m1 (by omega))]
  rcases h with z | z | z
  · rw [z, if_pos rfl]
    have e : wL 2 (K (a + 1)) = pBr 2 (K (a + 1)) false := by
      rw [wL, pBr, if_neg (fun z => absurd z.1 (by decide)), if_pos (show (2 : Int32) = 2 from rfl)]
      by_cases c : K (a + 1) < 2
      · rw [if_pos ⟨rfl, c⟩]
        rcases hl.mp c with d | d
        · rw [decide_eq_true d, Bool.true_or]
        · rw [decide_eq_true d, Bool.or_true]
      · rw [if_neg (fun z => c z.2), if_neg (by decide), if_neg (by decide), decide_eq_false (fun d => c (hl.mpr (Or.inl d))), decide_eq_false (fun d => c (hl.mpr (Or.inr d)))]
        rfl
    rw [e, pre, if_pos rfl]
  · rw [z, if_neg (by decide), if_pos rfl, pre, if_neg (by decide), if_pos rfl]
    have e1 : wL 3 (K (a + 1)) = true := by rw [wL, if_neg (fun z => absurd z.1 (by decide)), if_neg (fun z => absurd z.1 (by decide)), if_pos rfl]
    have e2 : pBr 3 (K (a + 1)) false = false := by rw [pBr, if_neg (by decide), if_neg (by decide), if_neg (by decide)]
    rw [e1, e2]
    rfl
  · rw [z, if_neg (by decide), if_neg (by decide), if_pos rfl, pre, if_neg (by decide), if_neg (by decide), if_pos rfl]
    have e1 : wL 4 (K (a + 1)) = true := by rw [wL, if_neg (fun z => absurd z.1 (by decide)), if_neg (fun z => absurd z.1 (by decide)), if_neg (by decide), if_pos rfl]
    have e2 : pBr 4 (K (a + 1)) false = false := by rw [pBr, if_neg (by decide), if_neg (by decide), if_neg (by decide)]
    rw [e1, e2]
    rfl
theorem txt_bi {K V R : Nat → Int32} {u a c m : Nat} (hu : u ≤ 40) (ha : a + 1 < c) (hc : c < u) (h : bi (K a)) (hR : R a = nI c) : pTxt K V R u (m + 1) (nI a) = wrap (wL (K a) (K (a + 1))) (pTxt K V R u m (nI (a + 1))) ++ ([sgn (K a)] ++ wrap (wR (K a) (K c)) (pTxt K V R u m (nI c))) := by
  have k10 := bi_10 h
  have n : ¬ K a = 2 ∧ ¬ K a = 3 ∧ ¬ K a = 4 ∧ ¬ (K a = 11 ∨ K a = 12 ∨ K a = 13 ∨ K a = 14) := by
    rcases h with z | z | z | z | z | z | z | z <;> rw [z] <;> decide
  rw [pTxt, sgv_in (g := K) hu (by omega), tleft_in hu (by omega) k10, sgv_in (g := R) hu (by omega), hR, pBel_in hu (by omega) (by omega), pBel_in hu (by omega) hc, hR, decide_eq_false (nIl (by omega) (by omega) (by omega)), decide_eq_true rfl, if_neg n.1, if_neg n.2.1, if_neg n.2.2.1, if_neg n.2.2.2, (pSig_bi h).1, wL_bi h, wR_bi h]
set_option maxHeartbeats 2000000 in
theorem prn_tr {X : LQ} {r u : Nat} (hr : r < 20) (hu : u ≤ 40) : ∀ (n : Nat) (ty : Bool) (a b m : Nat), tr X n ty a b → b ≤ u → b - a ≤ m → PrI X r u a b (pTxt (LQ.K X) (LQ.V X) (LQ.R X) u m (nI a))
  | 0, _, _, _, _, h, _, _ => h.elim
  | n + 1, ty, a, b, m, h, hb, hm => by
    intro k q μ hw h37 hk h6 hq
    have hnode := tr_node h
    obtain ⟨h1, h2, h3, -, h5⟩ := h
    obtain ⟨m, rfl⟩ : ∃ m', m = m' + 1 := ⟨m - 1, by omega⟩
    rcases h5 with ⟨q1, q2, q3, q4, q5⟩ | ⟨q1, q2, q3, q4, q5⟩ | ⟨q1, c, q2, q3, q4, q5, q6, q7⟩
    · rw [txt_lf hu (by omega) q1] at hq ⊢
      obtain ⟨w6, w7, -, -⟩ := hw a (by omega)
      obtain ⟨μ', s1, s2⟩ := pterm_eq (k := k) hr hu (by omega) hw q1 h6 hq
      have c8 : (nI (40 * r + a)).toNatClampNeg = 40 * r + a := nI_clamp (by omega)
      have ex : (40 : Int32) * nI r + nI (1000 + a) - 1000 = nI (40 * r + a) := by
        rw [show (40 : Int32) * nI r = nI (40 * r) from nI_mul 40 r, nI_add, show (1000 : Int32) = nI 1000 from rfl, nI_subN (by omega), show 40 * r + (1000 + a) - 1000 = 40 * r + a by omega]
      refine ⟨2, μ', by omega, fun F => ?_, s2⟩
      rw [m_print_b0, if_neg (nI_nle (by omega) (by omega)), nI_am, if_pos (inb_nI (by omega) (by decide)), nI_clamp (by omega), h37, if_pos (show (1000 : Int32) ≤ nI (1000 + a) from nI_le (a := 1000) (by omega) (by omega)), ex, if_pos (inb_nI (by omega) (by decide)), c8, w6, if_neg (lf_10 q1), s1]
      show m_print_B (F + 1) 8 (nI r) (nI k) 0 μ' = _
      rw [m_print_b8]
    · have l := tr_lt q5
      rw [txt_un hu (by omega) q1 q2 (k_lt2 (hnode (a + 1) (by omega) l))] at hq ⊢
      rw [List.length_append] at hq
      obtain ⟨d1, μ1, x1, x2, x3⟩ := nd_run hr hu (by omega) hw (by omega) h37 (un_10 q1) h6 (by omega)
      have ih := prn_tr hr hu n true (a + 1) b m q5 hb (by omega)
      have unf := unf_un (k := k) hr hu (by omega) (rwr_p hw x3) (by omega) (un_10 q1) q2
      obtain ⟨e1, e2, e3, e4, e5, e6⟩ := pp_k (w := wL (LQ.K X a) (LQ.K X (a + 1))) (k := k) (c := a + 1) (μ := μ1)
      have hP := pp_p (w := wL (LQ.K X a) (LQ.K X (a + 1))) (k := k) (c := a + 1) x3.2.2.2.2.1
      obtain ⟨d2, μ2, y1, y2, y3⟩ := blk (w := wL (LQ.K X a) (LQ.K X (a + 1))) (k := k) ih l (rwr_p (rwr_p hw x3) hP) e5 e6 (by omega) hP.2.2.2.2.1 (by rw [List.length_nil, Nat.add_zero]; omega)
      refine ⟨d2 + d1, μ2, by omega, fun F => ?_, ?_⟩
      · rw [← Nat.add_assoc, x2 (F + d2), unf]
        exact y2 F
      · have := x3.tr (hP.tr y3 (by rw [List.length_nil]; omega)) (by omega)
        exact this
    · have l := tr_lt q5
      have l2 := tr_lt q6
      rw [txt_bi hu l (by omega) q1 q2] at hq ⊢
      rw [List.length_append, List.length_append, List.length_singleton] at hq
      have hpre : pre (LQ.K X a) = [] := by
        rw [pre]
        rcases q1 with z | z | z | z | z | z | z | z <;> rw [z, if_neg (by decide), if_neg (by decide), if_neg (by decide)]
      obtain ⟨d1, μ1, x1, x2, x3⟩ := nd_run hr hu (by omega) hw (by omega) h37 (bi_10 q1) h6 (by rw [hpre, List.length_nil]; omega)
      rw [hpre] at x3
      obtain ⟨wl, hwl⟩ : ∃ wl, wL (LQ.K X a) (LQ.K X (a + 1)) = wl := ⟨_, rfl⟩
      obtain ⟨wr, hwr⟩ : ∃ wr, wR (LQ.K X a) (LQ.K X c) = wr := ⟨_, rfl⟩
      have hs : sz wr ≤ 3 := by cases wr <;> decide
      have hs2 : sz wl ≤ 3 := by cases wl <;> decide
      have unf := unf_bi (k := k) hr hu (by omega) (show c < u by omega) (rwr_p hw x3) (by omega) (bi_10 q1) q2
      rw [hwl, hwr] at unf hq ⊢
      have ihl := prn_tr hr hu n (decide (LQ.K X a ≤ 4)) (a + 1) c m q5 (by omega) (by omega)
      have ihr := prn_tr hr hu n (decide (LQ.K X a ≤ 4)) c b m q6 hb (by omega)
      -- what lies on the stack
      obtain ⟨μR, hμR⟩ : ∃ μR, μR = sA 37 (k + sz wr) (sgn (LQ.K X a)) (pp wr k c μ1) := ⟨_, rfl⟩
      rw [← hμR] at unf
      obtain ⟨e1, e2, e3, e4, e5, e6⟩ := pp_k (w := wr) (k := k) (c := c) (μ := μ1)
      have hP1 : Prt [] k q μ1 (pp wr k c μ1) := pp_p (w := wr) (k := k) (c := c) x3.2.2.2.2.1
      have hP2 : Prt [] k q μ1 μR := by
        rw [hμR]
        exact ⟨fun j b => hP1.1 j b, fun j b d => by rw [sA_ne d]; exact hP1.2.1 j b d, hP1.2.2.1, fun i hi => by rw [sA_at, upd_ne (by omega)]; exact hP1.2.2.2.1 i hi, hP1.2.2.2.2.1, by rw [sA_ne (by decide)]; exact hP1.2.2.2.2.2⟩
      have rlo : ∀ i, i < k + sz wr → μR.2.1 37 i = (pp wr k c μ1).2.1 37 i := fun i hi => by rw [hμR, sA_at, upd_ne (by omega)]
      have rsg : μR.2.1 37 (k + sz wr) = sgn (LQ.K X a) := by rw [hμR, sA_at, upd_at]
      obtain ⟨f1, f2, f3, f4, f5, f6⟩ := pp_k (w := wl) (k := k + sz wr + 1) (c := a + 1) (μ := μR)
      have hP3 : Prt [] (k + sz wr + 1) q μR (pp wl (k + sz wr + 1) (a + 1) μR) := pp_p hP2.2.2.2.2.1
      have wR1 := rwr_p (rwr_p hw x3) hP2
      obtain ⟨d2, μ2, y1, y2, y3⟩ := blk (w := wl) (k := k + sz wr + 1) ihl l (rwr_p wR1 hP3) f5 f6 (by omega) hP3.2.2.2.2.1 (by rw [List.length_nil, Nat.add_zero]; omega)
      have sgx : μ2.2.1 37 (k + sz wr) = sgn (LQ.K X a) := by rw [y3.2.2.2.1 _ (by omega), f4 _ (by omega), rsg]
      have lo2 : ∀ i, i < k + sz wr → μ2.2.1 37 i = (pp wr k c μ1).2.1 37 i := fun i hi => by rw [y3.2.2.2.1 _ (by omega), f4 _ (by omega), rlo i hi]
      have q2' : μ2.1 36 = nI (q + (wrap wl (pTxt (LQ.K X) (LQ.V X) (LQ.R X) u m (nI (a + 1)))).length) := y3.2.2.2.2.1
      have sgr := sg_run (r := r) (k := k + sz wr) (by omega) sgx (pSig_bi q1).2 q2' (by omega)
      have P4 : Prt [sgn (LQ.K X a)] (k + sz wr) (q + (wrap wl (pTxt (LQ.K X) (LQ.V X) (LQ.R X) u m (nI (a + 1)))).length) μ2 (putS (sgn (LQ.K X a)) (q + (wrap wl (pTxt (LQ.K X) (LQ.V X) (LQ.R X) u m (nI (a + 1)))).length) μ2) := putS_p (by omega)
      have wR2 := rwr_p (rwr_p (rwr_p wR1 hP3) y3) P4
      have lo3 : ∀ i, i < k + sz wr → (putS (sgn (LQ.K X a)) (q + (wrap wl (pTxt (LQ.K X) (LQ.V X) (LQ.R X) u m (nI (a + 1)))).length) μ2).2.1 37 i = (pp wr k c μ1).2.1 37 i := fun i hi => by rw [P4.2.2.2.1 i hi, lo2 i hi]
      obtain ⟨d3, μ3, z1, z2, z3⟩ := blk (w := wr) (k := k) (q := q + (wrap wl (pTxt (LQ.K X) (LQ.V X) (LQ.R X) u m (nI (a + 1)))).length + 1) ihr l2 wR2 (fun e => by
        have : sz wr = 1 := by rw [e]; rfl
        rw [lo3 k (by omega)]; exact e5 e) (fun e => by
        have : sz wr = 3 := by rw [e]; rfl
        rw [lo3 k (by omega), lo3 (k + 1) (by omega), lo3 (k + 2) (by omega)]; exact e6 e) (by omega) putS_6 (by omega)
      refine ⟨d3 + 2 + d2 + d1, μ3, by omega, fun F => ?_, ?_⟩
      · rw [show F + (d3 + 2 + d2 + d1) = F + d3 + 2 + d2 + d1 by omega, x2 (F + d3 + 2 + d2), unf]
        refine (y2 (F + d3 + 2)).trans ?_
        refine (sgr (F + d3)).trans ?_
        exact z2 F
      · have t1 : Prt [] k q μ (pp wl (k + sz wr + 1) (a + 1) μR) := x3.tr (hP2.tr (hP3.lo (show k ≤ k + sz wr + 1 by omega)) (by rw [List.length_nil]; omega)) (by rw [List.length_nil]; omega)
        have t2 : Prt (wrap wl (pTxt (LQ.K X) (LQ.V X) (LQ.R X) u m (nI (a + 1)))) k q μ μ2 := t1.tr (y3.lo (show k ≤ k + sz wr + 1 by omega)) (by rw [List.length_nil]; omega)
        exact t2.tr ((P4.lo (show k ≤ k + sz wr by omega)).tr z3 (by rw [List.length_singleton]; omega)) (by omega)
/-! how long a text is -/
def sR (K V : Nat → Int32) (a : Nat) : Nat → Nat
  | 0 => 0
  | d + 1 => sR K V a d + nc (K (a + d)) (V (a + d))
theorem sR_app {K V : Nat → Int32} {a d : Nat} : ∀ e, sR K V a (d + e) = sR K V a d + sR K V (a + d) e
  | 0 => rfl
  | e + 1 => by rw [← Nat.add_assoc, sR, sR, sR_app e, Nat.add_assoc, Nat.add_assoc a d e]
theorem sR_1 {K V : Nat → Int32} {a d : Nat} : sR K V a (d + 1) = nc (K a) (V a) + sR K V (a + 1) d := by
  rw [Nat.add_comm d 1, sR_app, sR, sR, Nat.add_zero, Nat.zero_add]
theorem sR_N {K V : Nat → Int32} : ∀ d, sR K V 0 d = sN K V d
  | 0 => rfl
  | d + 1 => by rw [sR, sN, sR_N d, Nat.zero_add]
theorem cw_5 {X : LQ} {n a : Nat} (h : 5 ≤ LQ.K X a) : cw X n a = 0 := by
  cases n with
  | zero => rfl
  | succ n => rw [cw]; exact cwN_0 h
theorem pTerm_len {kd v : Int32} (h : lf kd v) : (pTerm kd v).length = nc kd v := by
  rcases h with ⟨rfl, -⟩ | ⟨rfl | rfl | rfl, -⟩
  · rw [pTerm, nc, if_neg (by decide), if_neg (by decide), if_pos rfl, if_pos rfl]
    rfl
  · rw [pTerm, nc, if_neg (by decide), if_neg (by decide), if_neg (by decide), if_neg (by decide), if_pos rfl]
    show (102 :: pNum v).length = _
    rw [List.length_cons]; omega
  · rw [pTerm, nc, if_pos rfl, if_neg (by decide), if_neg (by decide), if_neg (by decide), if_neg (by decide), if_pos rfl]
    show (115 :: 117 :: 109 :: 32 :: 102 :: pNum v).length = _
    rw [List.length_cons, List.length_cons, List.length_cons, List.length_cons, List.length_cons]; omega
  · rw [pTerm, nc, if_neg (by decide), if_pos rfl, if_neg (by decide), if_neg (by decide), if_neg (by decide), if_neg (by decide), if_pos rfl]
    show (99 :: 111 :: 117 :: 110 :: 116 :: 32 :: 102 :: pNum v).length = _
    rw [List.length_cons, List.length_cons, List.length_cons, List.length_cons, List.length_cons, List.length_cons, List.length_cons]; omega
theorem txt_len {X : LQ} {u : Nat} (hu : u ≤ 40) : ∀ (n : Nat) (ty : Bool) (a b m : Nat), tr X n ty a b → b ≤ u → b - a ≤ m → (pTxt (LQ.K X) (LQ.V X) (LQ.R X) u m (nI a)).length = sR (LQ.K X) (LQ.V X) a (b - a) + cw X n a
  | 0, _, _, _, _, h, _, _ => h.elim
  | n + 1, ty, a, b, m, h, hb, hm => by
    have hnode := tr_node h
    obtain ⟨h1, h2, h3, -, h5⟩ := h
    obtain ⟨m, rfl⟩ : ∃ m', m = m' + 1 := ⟨m - 1, by omega⟩
    rcases h5 with ⟨q1, q2, q3, q4, q5⟩ | ⟨q1, q2, q3, q4, q5⟩ | ⟨q1, c, q2, q3, q4, q5, q6, q7⟩
    · subst q2
      rw [txt_lf hu (by omega) q1, pTerm_len q1, cw_5 (lf_5 q1), show a + 1 - a = 0 + 1 by omega, sR_1, sR]
      rfl
    · have l := tr_lt q5
      have ih := txt_len hu n true (a + 1) b m q5 hb (by omega)
      rw [txt_un hu (by omega) q1 q2 (k_lt2 (hnode (a + 1) (by omega) l)), List.length_append, wrap_len, ih, show b - a = b - (a + 1) + 1 by omega, sR_1, cw]
      have kl2 := k_lt2 (hnode (a + 1) (by omega) l)
      rcases q1 with z | z | z
      · have eL : (if wL 2 (LQ.K X (a + 1)) = true then 2 else 0) = wl 2 (LQ.K X (a + 1)) := by
          rw [wl, if_pos (show (2 : Int32) = 2 from rfl)]
          by_cases c : LQ.K X (a + 1) < 2
          · have e : wL 2 (LQ.K X (a + 1)) = true := by rw [wL, if_neg (fun z => absurd z.1 (by decide)), if_pos ⟨rfl, c⟩]
            rw [e, if_pos rfl, if_pos (kl2.mp c)]
          · have e : wL 2 (LQ.K X (a + 1)) = false := by rw [wL, if_neg (fun z => absurd z.1 (by decide)), if_neg (fun z => c z.2), if_neg (by decide), if_neg (by decide)]
            rw [e, if_neg (by decide), if_neg (fun z => c (kl2.mpr z))]
        have e2 : ∀ kl kr l r, cwN 2 kl kr l r = wl 2 kl + l := fun kl kr l r => by rw [cwN, if_pos rfl]
        have nn : nc 2 (LQ.V X a) = 1 := rfl
        have ll : (pre 2).length = 1 := rfl
        rw [z, eL, e2, nn, ll]
        omega
      · have e1 : wL 3 (LQ.K X (a + 1)) = true := by rw [wL, if_neg (fun z => absurd z.1 (by decide)), if_neg (fun z => absurd z.1 (by decide)), if_pos rfl]
        have e2 : ∀ kl kr l r, cwN 3 kl kr l r = 1 + l := fun kl kr l r => by rw [cwN, if_neg (by decide), if_pos (by decide)]
        have nn : nc 3 (LQ.V X a) = 4 := rfl
        have ll : (pre 3).length = 3 := rfl
        rw [z, e1, e2, nn, ll, if_pos rfl]
        omega
      · have e1 : wL 4 (LQ.K X (a + 1)) = true := by rw [wL, if_neg (fun z => absurd z.1 (by decide)), if_neg (fun z => absurd z.1 (by decide)), if_neg (by decide), if_pos rfl]
        have e2 : ∀ kl kr l r, cwN 4 kl kr l r = 1 + l := fun kl kr l r => by rw [cwN, if_neg (by decide), if_pos (by decide)]
        have nn : nc 4 (LQ.V X a) = 4 := rfl
        have ll : (pre 4).length = 3 := rfl
        rw [z, e1, e2, nn, ll, if_pos rfl]
        omega
    · have l := tr_lt q5
      have l2 := tr_lt q6
      have ihl := txt_len hu n (decide (LQ.K X a ≤ 4)) (a + 1) c m q5 (by omega) (by omega)
      have ihr := txt_len hu n (decide (LQ.K X a ≤ 4)) c b m q6 hb (by omega)
      have es : sR (LQ.K X) (LQ.V X) (a + 1) (b - (a + 1)) = sR (LQ.K X) (LQ.V X) (a + 1) (c - (a + 1)) + sR (LQ.K X) (LQ.V X) c (b - c) := by
        have := sR_app (K := LQ.K X) (V := LQ.V X) (a := a + 1) (d := c - (a + 1)) (b - c)
        rw [show c - (a + 1) + (b - c) = b - (a + 1) by omega, show a + 1 + (c - (a + 1)) = c by omega] at this
        exact this
      have nn : nc (LQ.K X a) (LQ.V X a) = 1 := by
        rcases q1 with z | z | z | z | z | z | z | z <;> rw [z] <;> rfl
      rw [txt_bi hu l (by omega) q1 q2, List.length_append, List.length_append, List.length_singleton, wrap_len, wrap_len, ihl, ihr, show b - a = b - (a + 1) + 1 by omega, sR_1, es, nn]
      by_cases k4 : LQ.K X a ≤ 4
      · rw [cw, q2, nI_clamp (by omega)]
        have k01 : LQ.K X a = 0 ∨ LQ.K X a = 1 := by
          rcases q1 with z | z | z | z | z | z | z | z
          · exact Or.inl z
          · exact Or.inr z
          all_goals (rw [z] at k4; exact absurd k4 (by decide))
        rcases k01 with z | z
        · have eL : wL 0 (LQ.K X (a + 1)) = false := by rw [wL, if_neg (fun z => absurd z.1 (by decide)), if_neg (fun z => absurd z.1 (by decide)), if_neg (by decide), if_neg (by decide)]
          have eR : (if wR 0 (LQ.K X c) = true then 2 else 0) = wrr 0 (LQ.K X c) := by
            rw [wrr_0]
            by_cases d : LQ.K X c = 0
            · have e : wR 0 (LQ.K X c) = true := by rw [wR, if_neg (show ¬ (2 : Int32) ≤ 0 by decide), if_pos d]
              rw [e, if_pos rfl, if_pos d]
            · have e : wR 0 (LQ.K X c) = false := by rw [wR, if_neg (show ¬ (2 : Int32) ≤ 0 by decide), if_neg d, if_neg (fun z => absurd z.1 (by decide))]
              rw [e, if_neg (by decide), if_neg d]
          rw [z, cwN_b (Or.inl rfl), wl_0, eL, eR, if_neg (by decide)]
          omega
        · have eL : (if wL 1 (LQ.K X (a + 1)) = true then 2 else 0) = wl 1 (LQ.K X (a + 1)) := by
            rw [wl_1]
            by_cases d : LQ.K X (a + 1) = 0
            · have e : wL 1 (LQ.K X (a + 1)) = true := by rw [wL, if_pos ⟨rfl, d⟩]
              rw [e, if_pos rfl, if_pos d]
            · have e : wL 1 (LQ.K X (a + 1)) = false := by rw [wL, if_neg (fun z => d z.2), if_neg (fun z => absurd z.1 (by decide)), if_neg (by decide), if_neg (by decide)]
              rw [e, if_neg (by decide), if_neg d]
          have eR : (if wR 1 (LQ.K X c) = true then 2 else 0) = wrr 1 (LQ.K X c) := by
            rw [wrr_1]
            by_cases d : LQ.K X c = 1
            · have e : wR 1 (LQ.K X c) = true := by rw [wR, if_neg (show ¬ (2 : Int32) ≤ 1 by decide), if_pos d]
              rw [e, if_pos rfl, if_pos (Or.inr d)]
            · by_cases f : LQ.K X c = 0
              · have e : wR 1 (LQ.K X c) = true := by rw [wR, if_neg (show ¬ (2 : Int32) ≤ 1 by decide), if_neg d, if_pos ⟨rfl, f⟩]
                rw [e, if_pos rfl, if_pos (Or.inl f)]
              · have e : wR 1 (LQ.K X c) = false := by rw [wR, if_neg (show ¬ (2 : Int32) ≤ 1 by decide), if_neg d, if_neg (fun z => f z.2)]
                rw [e, if_neg (by decide), if_neg (fun z => z.elim f d)]
          rw [z, cwN_b (Or.inr rfl), eL, eR]
          omega
      · have k5 : 5 ≤ LQ.K X a := by
          rcases q1 with z | z | z | z | z | z | z | z
          · rw [z] at k4; exact absurd (by decide) k4
          · rw [z] at k4; exact absurd (by decide) k4
          all_goals (rw [z]; decide)
        rw [decide_eq_false k4] at q5 q6
        have g5 : ∀ x : Int32, ¬ x ≤ 8 → 5 ≤ x := fun x hx => Int32.le_trans (by decide) (Int32.le_of_lt (Int32.not_le.mp hx))
        have c1 : 5 ≤ LQ.K X (a + 1) := g5 _ (of_decide_eq_false (tr_ty q5).symm)
        have c2 : 5 ≤ LQ.K X c := g5 _ (of_decide_eq_false (tr_ty q6).symm)
        have eL : wL (LQ.K X a) (LQ.K X (a + 1)) = false := by
          rw [wL_bi q1, pBr]
          have n : ∀ c : Int32, c < 5 → ¬ LQ.K X a = c := fun c hc e => absurd k5 (Int32.not_le.mpr (by rw [e]; exact hc))
          rw [if_neg (n 2 (by decide)), if_neg (n 1 (by decide)), if_neg (n 0 (by decide))]
        have eR : wR (LQ.K X a) (LQ.K X c) = false := by
          rw [wR, if_pos (Int32.le_trans (by decide) k5)]
        rw [cw_5 k5, cw_5 c1, cw_5 c2, eL, eR, if_neg (by decide)]
        omega
/-! the printing of a rule -/
theorem pPut_ag : ∀ (l : List Int32) (f g : Nat → Int32) (q : Nat), (∀ i, i < q → f i = g i) → q + l.length ≤ 200 → ∀ i, i < q + l.length → (pPut l (f, q)).1 i = (pPut l (g, q)).1 i
  | [], f, g, q, h, _, i, hi => h i hi
  | x :: l, f, g, q, h, hq, i, hi => by
    have hl : (x :: l).length = l.length + 1 := List.length_cons
    have e : ∀ f : Nat → Int32, pPut (x :: l) (f, q) = pPut l (upd f q x, q + 1) := fun f => by
      show pPut l (pAdd (f, q) x) = _
      rw [pAdd, if_pos (show q < 200 by omega)]
    rw [e, e]
    refine pPut_ag l _ _ (q + 1) (fun i hi => ?_) (by omega) i (by omega)
    by_cases c : i = q
    · rw [c, upd_at, upd_at]
    · rw [upd_ne c, upd_ne c]; exact h i (by omega)
theorem m_print_F : ∃ F, 900 ≤ F ∧ ∀ x1 μ, m_print x1 μ = (m_isRule x1 μ).bind (fun p3 => (if p3.1 = 0 then some (0, (sI 0 1 p3.2)) else (if inb 0 400 = true then m_print_B F 0 x1 1 0 (sA 37 ((0 : Int32).toNatClampNeg) 1000 (sI 36 0 (sI 0 0 p3.2))) else none))) := ⟨4096, by decide, fun x1 μ => by rw [m_print]⟩
theorem isRule_y {r rc : Nat} {μ : MS} (h3 : μ.1 3 = nI rc) (hr : r < rc) (hc : rc ≤ 20) : m_isRule (nI r) μ = some (1, μ) := by
  rw [m_isRule, if_neg (nI_pos (by omega)), h3, if_neg (nI_nle2 hr (by omega))]
theorem print_eq {X : LQ} {r rc u n : Nat} {μ : MS} (hc : rc ≤ 20) (hr : r < rc) (h3 : μ.1 3 = nI rc) (hu : u ≤ 40) (ht : tr X n true 0 u) (hw : rwr X r u μ) (hl : sN (LQ.K X) (LQ.V X) u + cw X n 0 ≤ 200) :
    ∃ T μ', T = pTxt (LQ.K X) (LQ.V X) (LQ.R X) u 40 0 ∧ T.length ≤ 200 ∧ m_print (nI r) μ = some (nI T.length, μ') ∧ μ'.1 0 = 0 ∧ μ'.1 36 = nI T.length ∧ (∀ j, j ≠ 0 → j ≠ 36 → μ'.1 j = μ.1 j) ∧ (∀ j, j ≠ 35 → j ≠ 37 → μ'.2.1 j = μ.2.1 j) ∧ μ'.2.2 = μ.2.2 ∧ μ'.2.1 35 = (pPut T (μ.2.1 35, 0)).1 := by
  obtain ⟨F, hF, eF⟩ := m_print_F
  obtain ⟨T, hT⟩ : ∃ T, T = pTxt (LQ.K X) (LQ.V X) (LQ.R X) u 40 (nI 0) := ⟨_, rfl⟩
  have hlen : T.length ≤ 200 := by
    rw [hT, txt_len hu n true 0 u 40 ht (Nat.le_refl _) (by omega), Nat.sub_zero, sR_N]
    exact hl
  have ih := prn_tr (r := r) (by omega) hu n true 0 u 40 ht (Nat.le_refl _) (by omega)
  rw [← hT] at ih
  obtain ⟨d, μ', a1, a2, a3⟩ := ih 0 0 (sA 37 0 1000 (sI 36 0 (sI 0 0 μ))) (fun j hj => by
    obtain ⟨a, b, c, e⟩ := hw j hj
    exact ⟨by rw [sA_ne (by decide)]; exact a, by rw [sA_ne (by decide)]; exact b, by rw [sA_ne (by decide)]; exact c, by rw [sA_ne (by decide)]; exact e⟩) (by rw [sA_at, upd_at]; rfl) (by omega) (by rw [sA_1, sI_at]; rfl) (by omega)
  obtain ⟨b1, b2, b3, b4, b5, b6⟩ := a3
  rw [Nat.zero_add] at b5
  refine ⟨T, μ', hT, hlen, ?_, ?_, b5, fun j h0 h36 => ?_, fun j h35 h37 => ?_, b3, ?_⟩
  · rw [eF, isRule_y h3 hr hc]
    show (if inb 0 400 = true then m_print_B F 0 (nI r) 1 0 (sA 37 0 1000 (sI 36 0 (sI 0 0 μ))) else none) = _
    rw [if_pos (by decide), show F = F - d - 1 + 1 + d by omega]
    refine (a2 (F - d - 1 + 1)).trans ?_
    rw [m_print_b0, if_pos (by decide), b5]
  · rw [b1 0 (by decide), sA_1, sI_ne (by decide), sI_at]
  · rw [b1 j h36, sA_1, sI_ne h36, sI_ne h0]
  · rw [b2 j h35 h37, sA_ne h37]; rfl
  · rw [b6, sA_ne (by decide)]
    rfl
