theorem zP.mem {b0 N : Nat} {f : Nat → va_E} {ws : va_W} (h : zP b0 N f ws) {q : Nat × va_E} (hq : q ∈ ws) : b0 ≤ q.1 ∧ q.1 < N ∧ f q.1 = q.2 := by
  obtain ⟨k, hk⟩ := List.getElem?_of_mem hq
  exact h.2 k q hk
theorem zP.mk {b0 N : Nat} {f : Nat → va_E} {ws : va_W} (hn : (ws.map (fun q => q.1)).Nodup) (h : ∀ q ∈ ws, b0 ≤ q.1 ∧ q.1 < N ∧ f q.1 = q.2) : zP b0 N f ws := ⟨hn, fun _ q hk => h q (List.mem_of_getElem? hk)⟩
theorem zP.left {b0 N : Nat} {f : Nat → va_E} {w1 w2 : va_W} (h : zP b0 N f (w1 ++ w2)) : zP b0 N f w1 := by
  refine zP.mk ?_ (fun q hq => h.mem (List.mem_append.mpr (Or.inl hq)))
  have := h.1
  rw [List.map_append, List.nodup_append] at this
  exact this.1
theorem zP.app {b0 N : Nat} {f : Nat → va_E} {w1 w2 : va_W} (h1 : zP b0 N f w1) (h2 : zP b0 N f w2) (hd : ∀ p ∈ w1, ∀ q ∈ w2, p.1 ≠ q.1) : zP b0 N f (w1 ++ w2) := by
  refine zP.mk ?_ (fun q hq => ?_)
  · rw [List.map_append, List.nodup_append]
    refine ⟨h1.1, h2.1, fun a ha b hb => ?_⟩
    obtain ⟨p, hp, rfl⟩ := List.mem_map.mp ha
    obtain ⟨q, hq, rfl⟩ := List.mem_map.mp hb
    exact hd p hp q hq
  · rcases List.mem_append.mp hq with z | z
    · exact h1.mem z
    · exact h2.mem z
/-- a callee that touched nothing below M and made the cells w2 -/
theorem zP.ext {b0 M N : Nat} {f f' : Nat → va_E} {w1 w2 : va_W} (h : zP b0 M f w1) (hF : zF M f f' []) (h2 : zP b0 N f' w2) (hM : M ≤ N) (hb : ∀ q ∈ w2, M ≤ q.1) : zP b0 N f' (w1 ++ w2) :=
  (h.frame hF hM (fun a ha => absurd ha List.not_mem_nil)).app h2 (fun p hp q hq e => by have := h.mem hp; have := hb q hq; omega)
/-- a callee that was given the last cell and made the cells w2 -/
theorem zP.ext2 {b0 M N a : Nat} {f f' : Nat → va_E} {x y : va_E} {w1 w2 : va_W} (h : zP b0 M f (w1 ++ [(a, y)])) (hF : zF M f f' [a]) (h2 : zP b0 N f' ((a, x) :: w2)) (hM : M ≤ N) (hb : ∀ q ∈ w2, M ≤ q.1) : zP b0 N f' (w1 ++ (a, x) :: w2) := by
  have h0 := h.1
  rw [List.map_append, List.nodup_append] at h0
  have hne : ∀ p ∈ w1, p.1 ≠ a := fun p hp => h0.2.2 p.1 (List.mem_map.mpr ⟨p, hp, rfl⟩) a (by simp)
  refine (h.left.frame hF hM (fun b hb' hm => ?_)).app h2 (fun p hp q hq e => ?_)
  · obtain ⟨p, hp, e⟩ := List.mem_map.mp hm
    have : b = a := by simpa using hb'
    exact hne p hp (by rw [e, this])
  · rcases List.mem_cons.mp hq with z | z
    · subst z
      exact hne p hp e
    · have := h.left.mem hp
      have := hb q z
      omega
/-- a callee that touched the cells in the middle alone -/
theorem zP.mid {b0 N : Nat} {f f' : Nat → va_E} {w1 w2 w2' w3 : va_W} (h : zP b0 N f (w1 ++ (w2 ++ w3))) (hF : zF N f f' (w2.map (fun q => q.1))) (h1 : zP b0 N f' w2') (ha : w2'.map (fun q => q.1) = w2.map (fun q => q.1)) : zP b0 N f' (w1 ++ (w2' ++ w3)) := by
  have h0 := h.1
  refine zP.mk ?_ (fun q hq => ?_)
  · rw [List.map_append, List.map_append] at h0 ⊢
    rw [ha]
    exact h0
  · rw [List.map_append, List.map_append] at h0
    have n1 := List.nodup_append.mp h0
    have n2 := List.nodup_append.mp n1.2.1
    rcases List.mem_append.mp hq with z | z
    · have m := h.mem (List.mem_append.mpr (Or.inl z))
      refine ⟨m.1, m.2.1, ?_⟩
      rw [hF q.1 m.2.1 (fun w => n1.2.2 q.1 (List.mem_map.mpr ⟨q, z, rfl⟩) q.1 (List.mem_append.mpr (Or.inl w)) rfl)]
      exact m.2.2
    · rcases List.mem_append.mp z with z | z
      · exact h1.mem z
      · have m := h.mem (List.mem_append.mpr (Or.inr (List.mem_append.mpr (Or.inr z))))
        refine ⟨m.1, m.2.1, ?_⟩
        rw [hF q.1 m.2.1 (fun w => n2.2.2 q.1 w q.1 (List.mem_map.mpr ⟨q, z, rfl⟩) rfl)]
        exact m.2.2
theorem rAd_up {B : Nat → Nat} {rc N : Nat} (h : rc < 2 ^ 31) : rAd (va_up B rc N) (rc + 1) = va_up (rAd B rc) (nI rc).toNatClampNeg (some N) := by
  funext r
  rw [nI_clamp h]
  by_cases e : r = rc
  · subst e
    rw [va_up_self, rAd, if_pos (by omega), va_up_self]
  · rw [va_up_ne _ _ e, rAd, rAd]
    by_cases l : r < rc
    · rw [if_pos (by omega), if_pos l, va_up_ne _ _ e]
    · rw [if_neg (by omega), if_neg l]
theorem bText_u {g : Nat → Int32} {len : Nat} {st : RSt} (_ : uok st) : uok (bText g len st).2 := by
  have h0 : uok (bBeg 0 (upd (upd st.1 10 0) 6 0, (st.2.1.1, st.2.1.2.1, st.2.1.2.2.1, 0), st.2.2)).2 := bBeg_u (show uok (upd (upd st.1 10 0) 6 0, (st.2.1.1, st.2.1.2.1, st.2.1.2.2.1, 0), st.2.2) from Nat.zero_le 40)
  rw [bText]
  generalize (bBeg 0 (upd (upd st.1 10 0) 6 0, (st.2.1.1, st.2.1.2.1, st.2.1.2.2.1, 0), st.2.2)).2 = q at h0 ⊢
  generalize 201 = n
  exact bRun_u n h0
theorem zP.to {b0 N : Nat} {f : Nat → va_E} {w w' : va_W} (h : zP b0 N f w) (e : w' = w) : zP b0 N f w' := e ▸ h
theorem rAd_0 {B : Nat → Nat} : rAd B 0 = fun _ => none := by
  funext r
  rw [rAd, if_neg (by omega)]
section
variable {T : Nat} {A B : Nat → Nat} {g : Nat → Int32} {len : Nat} {st : RSt} {lb : Int32} {G v : Nat → Int32} {ps : PSt} {cc td : Int32} {rc : Nat} {ρ : Nat → RuS}
variable {ck : Nat → ClassId} {b0 N : Nat} {f : Nat → va_E}
/-- one rule more: its five cells from N on -/
theorem zC.more (h : zC ck b0 N f T A B g len st lb G v ps cc td rc ρ) (hT : T ≤ N) {f' : Nat → va_E} {len' : Nat} {st' : RSt} {r' : RuS} (h1 : zP b0 (N + 5) f' (wCl ck A (va_up B rc N) g len' st' lb G v ps cc td (rc + 1) ++ wRl ck N r')) (hF : zF N f f' (AL A)) : zC ck b0 (N + 5) f' T A (va_up B rc N) g len' st' lb G v ps cc td (rc + 1) (va_up ρ rc r') := by
  obtain ⟨p1, h2, h3, h4⟩ := h
  refine ⟨h1.left, h2, fun r hr => ?_, fun r hr q hq => ?_⟩
  · by_cases e : r = rc
    · subst e
      rw [va_up_self]
      exact ⟨hT, Nat.le_refl _, fun s hs hrs => by omega⟩
    · obtain ⟨a1, a2, a3⟩ := h3 r (by omega)
      rw [va_up_ne _ _ e]
      refine ⟨a1, by omega, fun s hs hrs => ?_⟩
      by_cases e2 : s = rc
      · subst e2
        rw [va_up_self]
        exact a2
      · rw [va_up_ne _ _ e2]
        exact a3 s (by omega) hrs
  · by_cases e : r = rc
    · subst e
      rw [va_up_self, va_up_self] at hq
      exact (h1.mem (List.mem_append.mpr (Or.inr hq))).2.2
    · rw [va_up_ne _ _ e, va_up_ne _ _ e] at hq
      have x2 : q.1 ∈ AR (B r) := List.mem_map.mpr ⟨q, hq, rfl⟩
      obtain ⟨a1, a2, a3⟩ := h3 r (by omega)
      rw [hF q.1 (by simp [AR] at x2; omega) (fun z => by have := h2 _ z; simp [AR] at x2; omega)]
      exact h4 r (by omega) q hq
end
section
variable {l : Launch} {D : va_G} {ck : Nat → ClassId} {ad : (Nat → Nat) × (Nat → Nat)} {b0 N : Nat} {f : Nat → va_E}
variable {T : Nat} {A B : Nat → Nat} {g : Nat → Int32} {len : Nat} {st : RSt} {lb : Int32} {G v : Nat → Int32} {ps : PSt} {cc td : Int32} {rc : Nat} {ρ : Nat → RuS}
set_option maxHeartbeats 4000000 in
set_option maxRecDepth 100000 in
theorem c_Rdr_readText_b {A : Nat → Nat} {bt : Int32 × RSt} (hP : zP b0 N f (wRdr ck A g len st)) (hu : uok st) (hlen : len ≤ 200) (hbt : bText g len st = bt) : zK l D ck ad b0 y_Rdr_readText prog_4_method_3_code 2 ((some FieldType.int)) 8 0 0 [.ref (A 0)] N f (fun r N' f' => r = some (.int bt.1) ∧ N = N' ∧ zP b0 N f' (wRdr ck A g len bt.2) ∧ zF N f f' (AA A)) := by
  subst hbt
  exact c_Rdr_readText hP hu hlen
set_option maxHeartbeats 4000000 in
set_option maxRecDepth 100000 in
theorem c_Rdr_copyOfTree {A : Nat → Nat} (hP : zP b0 N f (wRdr ck A g len st)) (hu : uok st) : zK l D ck ad b0 y_Rdr_copyOfTree prog_4_method_2_code 1 ((some (FieldType.object "CheckRules$Tree"))) 4 4 124 [.ref (A 0)] N f (fun r N' f' => r = some (.ref N) ∧ N' = N + 4 ∧ zP b0 (N + 4) f' (wTre ck N (N + 1) (N + 2) (N + 3) st.2.1.2.2.2 st.2.1.1 st.2.1.2.1 st.2.1.2.2.1 st.2.1.2.2.2) ∧ zF N f f' []) := by
  refine zM.of zG_w (by decide) (Nat.le_of_ble_eq_true rfl) ?_
  intro zp ze zst zm zar zbe zme zc X hnm hb0
  refine z_aload_n X d_Rdr_copyOfTree_0 rfl ?_
  refine z_get X d_Rdr_copyOfTree_1 (hP.lo 0 rfl) (hP.at 0 rfl) cl_Rdr in_Rdr 1 (by decide) fl_Rdr_21 rfl rfl ?_
  refine z_callV X zG_ok (c_Tre_copy (hP.sub (wc := wTre ck (A 6) (A 7) (A 8) (A 9) 40 st.2.1.1 st.2.1.2.1 st.2.1.2.2.1 st.2.1.2.2.2) [6, 7, 8, 9] (by decide) rfl) hu (Nat.le_refl _)) d_Rdr_copyOfTree_4 ⟨(z_cb (n := 0) X.2.2.2.2.1 ml_Rdr_35 mc_Tre_copy ini_Tre (by decide +kernel) rfl rfl ⟨Nat.le_of_ble_eq_true rfl, Nat.le_of_ble_eq_true rfl⟩), X.2.2.2.2.1 _ im_Tre_copy, X.2.2.2.2.1 _ sel_Tre_copy⟩ (hP.lo 6 rfl) (hP.at 6 rfl) cl_Tre rfl rfl (Nat.le_of_ble_eq_true rfl) ⟨Nat.le_of_ble_eq_true rfl, Nat.le_of_ble_eq_true rfl⟩ (fun r N1 f1 hp hN1 => ?_)
  obtain ⟨rfl, rfl, hP1, hF1⟩ := hp
  exact z_aret X d_Rdr_copyOfTree_7 (Or.inr ⟨_, rfl⟩) ⟨rfl, rfl, hP1.sub [4, 5, 6, 7] (by decide) rfl, hF1⟩
set_option maxHeartbeats 4000000 in
set_option maxRecDepth 100000 in
theorem c_Cls_rule_y (hC : zC ck b0 N f T A B g len st lb G v ps cc td rc ρ) (hrc : rc < 20) (hT : T ≤ N) (hlen : len ≤ 200) (hu : uok st) {bt : Int32 × RSt} (hbt : bText g len st = bt) : zK l D ck ad b0 y_Cls_rule prog_1_method_3_code 2 ((some FieldType.int)) 10 5 132 [.ref (A 0)] N f (fun r N' f' => if bt.1 = -1 then (r = some (.int (nI rc)) ∧ N' = N + 5 ∧ zC ck b0 (N + 5) f' T A (va_up B rc N) g 0 bt.2 lb G v ps cc td (rc + 1) (va_up ρ rc (bt.2.2.1, 0, true, 0, -1, false, false, false)) ∧ zF T f f' (AL A)) else (r = some (.int (-1 - bt.1)) ∧ N' = N ∧ zC ck b0 N f' T A B g 0 bt.2 lb G v ps cc td rc ρ ∧ zF T f f' (AL A))) := by
  refine zM.of zG_w (by decide) (Nat.le_of_ble_eq_true rfl) ?_
  intro zp ze zst zm zar zbe zme zc X hnm hb0
  have hP := hC.1
  have hF : zF N f f (AL A) := zF.rf
  have hu2 : uok bt.2 := by rw [← hbt]; exact bText_u hu
  refine z_aload_n X d_Cls_rule_0 rfl ?_
  refine z_get X d_Cls_rule_1 (hP.lo 0 rfl) (hP.at 0 rfl) cl_Cls in_Cls 4 (by decide) fl_Cls_38 rfl rfl ?_
  refine z_if_lt X 19 d_Cls_rule_4 (by decide) (fun h4 => ?_) (fun h4 => ?_)
  · skip
    exact absurd h4 (nI_pos (by omega))
  · skip
    refine z_aload_n X d_Cls_rule_7 rfl ?_
    refine z_get X d_Cls_rule_8 (hP.lo 0 rfl) (hP.at 0 rfl) cl_Cls in_Cls 4 (by decide) fl_Cls_38 rfl rfl ?_
    refine z_aload_n X d_Cls_rule_11 rfl ?_
    refine z_get X d_Cls_rule_12 (hP.lo 0 rfl) (hP.at 0 rfl) cl_Cls in_Cls 3 (by decide) fl_Cls_34 rfl rfl ?_
    refine z_alen X d_Cls_rule_15 (hP.lo 18 rfl) (hP.at 18 rfl) (t0 := 3) rfl rfl ?_
    refine z_icmp_lt X 29 d_Cls_rule_16 (by decide) (fun h16 => ?_) (fun h16 => ?_)
    · skip
      refine z_aload_n X d_Cls_rule_29 rfl ?_
      refine z_get X d_Cls_rule_30 (hP.lo 0 rfl) (hP.at 0 rfl) cl_Cls in_Cls 0 (by decide) fl_Cls_12 rfl rfl ?_
      refine z_callV X zG_ok (c_Rdr_readText_b (A := (fun i => A (i + 1))) (hP.sub (wc := wRdr ck (fun i => A (i + 1)) g len st) [1, 2, 3, 4, 5, 6, 7, 8, 9, 10] (by decide) rfl) hu hlen hbt) d_Cls_rule_33 ⟨(z_cb (n := 0) X.2.2.2.2.1 ml_Cls_65 mc_Rdr_readText ini_Rdr (by decide +kernel) rfl rfl ⟨Nat.le_of_ble_eq_true rfl, Nat.le_of_ble_eq_true rfl⟩), X.2.2.2.2.1 _ im_Rdr_readText, X.2.2.2.2.1 _ sel_Rdr_readText⟩ (hP.lo 1 rfl) (hP.at 1 rfl) cl_Rdr rfl rfl (Nat.le_of_ble_eq_true rfl) ⟨Nat.le_of_ble_eq_true rfl, Nat.le_of_ble_eq_true rfl⟩ (fun r N1 f1 hp hN1 => ?_)
      obtain ⟨rfl, rfl, hP1, hF1⟩ := hp
      have hP : zP b0 N f1 (wCl ck A B g len bt.2 lb G v ps cc td rc) := zP.mid (w1 := [(A 0, oCls A rc cc td)]) (w2 := wRdr ck (fun i => A (i + 1)) g len st) (w3 := (wWrk ck (A 11) (A 13) (A 12) (A 14) lb G v ++ wPr ck (fun i => A (i + 15)) ps ++ [(A 18, .inl (ck 3, 20, .inr (.inr (.inr (.inr (rAd B rc))))))])) hP hF1 hP1 rfl
      have hF := hF.join hF1 (Nat.le_refl _) (fun b hb => Or.inl (by simp at hb; rcases hb with rfl | rfl | rfl | rfl | rfl | rfl | rfl | rfl | rfl | rfl <;> simp))
      refine z_istore_n X d_Cls_rule_36 (by decide) rfl ?_
      refine z_aload_n X d_Cls_rule_37 rfl ?_
      refine z_get X d_Cls_rule_38 (hP.lo 0 rfl) (hP.at 0 rfl) cl_Cls in_Cls 0 (by decide) fl_Cls_12 rfl rfl ?_
      refine z_getN X d_Cls_rule_41 (hP.lo 1 rfl) (hP.at 1 rfl) cl_Rdr in_Rdr 0 (by decide) (zG_n X.2.2.2.2.2.1 ns_2) rfl rfl ?_
      refine z_callV X zG_ok (c_Sgn_clear (u := len) (g := g) (hP.sub [2, 3] (by decide) rfl)) d_Cls_rule_44 ⟨(z_cb (n := 0) X.2.2.2.2.1 ml_Cls_69 mc_Sgn_clear ini_Sgn (by decide +kernel) rfl rfl ⟨Nat.le_of_ble_eq_true rfl, Nat.le_of_ble_eq_true rfl⟩), X.2.2.2.2.1 _ im_Sgn_clear, X.2.2.2.2.1 _ sel_Sgn_clear⟩ (hP.lo 2 rfl) (hP.at 2 rfl) cl_Sgn rfl rfl (Nat.le_of_ble_eq_true rfl) ⟨Nat.le_of_ble_eq_true rfl, Nat.le_of_ble_eq_true rfl⟩ (fun r N1 f1 hp hN1 => ?_)
      obtain ⟨rfl, rfl, rfl⟩ := hp
      have hP : zP b0 N _ (wCl ck A B g 0 bt.2 lb G v ps cc td rc) := hP.put 2 rfl (oSgn (A 3) 0)
      have hF := hF.put (a := A 2) (by simp) (oSgn (A 3) 0)
      refine z_iload_n X d_Cls_rule_47 rfl ?_
      refine z_iconst X d_Cls_rule_48 (v := -1) (by decide) ?_
      refine z_icmp_eq X 56 d_Cls_rule_49 (by decide) (fun h49 => ?_) (fun h49 => ?_)
      · skip
        refine z_aload_n X d_Cls_rule_56 rfl ?_
        refine z_get X d_Cls_rule_57 (hP.lo 0 rfl) (hP.at 0 rfl) cl_Cls in_Cls 3 (by decide) fl_Cls_34 rfl rfl ?_
        refine z_aload_n X d_Cls_rule_60 rfl ?_
        refine z_get X d_Cls_rule_61 (hP.lo 0 rfl) (hP.at 0 rfl) cl_Cls in_Cls 4 (by decide) fl_Cls_38 rfl rfl ?_
        refine z_newP X t_Rul ty_Rul d_Cls_rule_64 cl_Rul in_Rul kl_Cls_32 ins_Rul ini_Rul nf_Rul (Nat.le_of_ble_eq_true rfl) (Nat.le_of_ble_eq_true rfl) hP (by omega) (fun hP => ?_)
        have hF := hF.by2 (by omega) hP
        refine z_dup X d_Cls_rule_67 rfl ?_
        refine z_aload_n X d_Cls_rule_68 rfl ?_
        refine z_get X d_Cls_rule_69 (hP.lo 0 rfl) (hP.at 0 rfl) cl_Cls in_Cls 0 (by decide) fl_Cls_12 rfl rfl ?_
        refine z_callV X zG_ok (c_Rdr_copyOfTree (A := (fun i => A (i + 1))) (g := g) (len := 0) (hP.sub (wc := wRdr ck (fun i => A (i + 1)) g 0 bt.2) [1, 2, 3, 4, 5, 6, 7, 8, 9, 10] (by decide) rfl) hu2) d_Cls_rule_72 ⟨(z_cb (n := 0) X.2.2.2.2.1 ml_Cls_72 mc_Rdr_copyOfTree ini_Rdr (by decide +kernel) rfl rfl ⟨Nat.le_of_ble_eq_true rfl, Nat.le_of_ble_eq_true rfl⟩), X.2.2.2.2.1 _ im_Rdr_copyOfTree, X.2.2.2.2.1 _ sel_Rdr_copyOfTree⟩ (hP.lo 1 rfl) (hP.at 1 rfl) cl_Rdr rfl rfl (Nat.le_of_ble_eq_true rfl) ⟨Nat.le_of_ble_eq_true rfl, Nat.le_of_ble_eq_true rfl⟩ (fun r N1 f1 hp hN1 => ?_)
        obtain ⟨rfl, rfl, hP1, hF1⟩ := hp
        have hP := hP.ext hF1 hP1 (by omega) (fun q hq => by simp at hq; rcases hq with rfl | rfl | rfl | rfl <;> (dsimp only; omega))
        have hF := hF.join hF1 (by omega) (fun b hb => absurd hb List.not_mem_nil)
        refine z_callI (ret' := none) X zG_ok (c_Rul_init (tr := N + 1) (hP.sub [19] (by decide) rfl)) d_Cls_rule_75 ⟨(z_cb (n := 1) X.2.2.2.2.1 ml_Cls_76 mc_Rul_init ini_Rul (by decide +kernel) rfl rfl ⟨Nat.le_of_ble_eq_true rfl, Nat.le_of_ble_eq_true rfl⟩), rfl, X.2.2.2.2.1 _ im_Rul_init⟩ rfl rfl (Nat.le_of_ble_eq_true rfl) ⟨Nat.le_of_ble_eq_true rfl, Nat.le_of_ble_eq_true rfl⟩ (fun r N1 f1 hp hN1 => ?_)
        obtain ⟨rfl, rfl, rfl⟩ := hp
        have hP := hP.put 19 rfl (.inr (3, [.ref (N + 1), .int 0, .int 1, .int 0, .int (-1), .int 0, .int 0, .int 0]))
        have hF := hF.push (N := N) (Nat.le_refl _) (.inr (3, [.ref (N + 1), .int 0, .int 1, .int 0, .int (-1), .int 0, .int 0, .int 0]))
        refine z_aastP X d_Cls_rule_78 hP 18 rfl (t0 := 3) rfl (hP.lo 19 rfl) (hP.at 19 rfl) cl_Rul (vp_in_nI hrc (by decide)) (fun hP => ?_)
        have hF := hF.by (by simp) hP
        refine z_aload_n X d_Cls_rule_79 rfl ?_
        refine z_dup X d_Cls_rule_80 rfl ?_
        refine z_get X d_Cls_rule_81 (hP.lo 0 rfl) (hP.at 0 rfl) cl_Cls in_Cls 4 (by decide) fl_Cls_38 rfl rfl ?_
        refine z_iconst X d_Cls_rule_84 (v := 1) (by decide) ?_
        refine z_iadd X d_Cls_rule_85 ?_
        refine z_putP X t_Cls ty_Cls n_Cls d_Cls_rule_86 hP 0 rfl cl_Cls in_Cls 4 (by decide) fl_Cls_38 rfl rfl rfl rfl rfl (Nat.le_of_ble_eq_true rfl) (fun hP => ?_)
        have hF := hF.by (by simp) hP
        refine z_aload_n X d_Cls_rule_89 rfl ?_
        refine z_get X d_Cls_rule_90 (hP.lo 0 rfl) (hP.at 0 rfl) cl_Cls in_Cls 4 (by decide) fl_Cls_38 rfl rfl ?_
        refine z_iconst X d_Cls_rule_93 (v := 1) (by decide) ?_
        refine z_isub X d_Cls_rule_94 ?_
        refine zW.widen (k := 5) (n := 132) (Nat.le_of_ble_eq_true rfl) (Nat.le_of_ble_eq_true rfl) ?_
        exact z_iret X d_Cls_rule_95 (by
            have hP := zP.to (w' := wCl ck A (va_up B rc N) g 0 bt.2 lb G v ps cc td (rc + 1) ++ wRl ck N (bt.2.2.1, 0, true, 0, -1, false, false, false)) hP (by
              simp only [wCl, oCls, nI_succ, rAd_up (show rc < 2 ^ 31 by omega)]
              rfl)
            rw [if_pos h49]
            exact ⟨by rw [← nI_succ, nI_pred], rfl, hC.more hT hP hF, hF.mono hT (fun _ h => Or.inl h)⟩)
      · skip
        refine z_iconst X d_Cls_rule_52 (v := -1) (by decide) ?_
        refine z_iload_n X d_Cls_rule_53 rfl ?_
        refine z_isub X d_Cls_rule_54 ?_
        refine zW.widen (k := 5) (n := 132) (Nat.le_of_ble_eq_true rfl) (Nat.le_of_ble_eq_true rfl) ?_
        exact z_iret X d_Cls_rule_55 (by rw [if_neg h49]; exact ⟨rfl, rfl, hC.back0 (Nat.le_refl _) hP hF, hF.mono hT (fun _ h => Or.inl h)⟩)
    · skip
      exact absurd (nI_lt (a := rc) (b := 20) hrc (by decide)) h16
def cA (a N : Nat) : Nat → Nat := fun i => match i with
  | 0 => a
  | 1 => N
  | 2 => N + 1
  | 3 => N + 2
  | 4 => N + 7
  | 5 => N + 8
  | 6 => N + 9
  | 7 => N + 3
  | 8 => N + 4
  | 9 => N + 5
  | 10 => N + 6
  | 11 => N + 10
  | 12 => N + 13
  | 13 => N + 11
  | 14 => N + 12
  | 15 => N + 14
  | 16 => N + 15
  | 17 => N + 16
  | _ => N + 17
abbrev rS0 : RSt := (fun _ => 0, (fun _ => 0, fun _ => 0, fun _ => 0, 0), fun _ => 0, fun _ => 0, fun _ => 0)
set_option maxHeartbeats 4000000 in
set_option maxRecDepth 100000 in
theorem c_Cls_init {a : Nat} (hP : zP b0 N f [(a, .inr (7, df_Cls))]) {B : Nat → Nat} : zK l D ck ad b0 y_Cls_init prog_1_method_1_code 1 (none) 3 18 1217 [.ref a] N f (fun r N' f' => r = none ∧ N' = N + 18 ∧ zP b0 (N + 18) f' (wCl ck (cA a N) B (fun _ => 0) 0 rS0 0 (fun _ => 0) (fun _ => -2147483648) ((fun _ => 0), 0) 0 0 0) ∧ zF N f f' [a]) := by
  refine zM.of zG_w (by decide) (Nat.le_of_ble_eq_true rfl) ?_
  intro zp ze zst zm zar zbe zme zc X hnm hb0
  have hF : zF N f f [a] := zF.rf
  refine z_aload_n X d_Cls_init_0 rfl ?_
  refine z_objInit X d_Cls_init_1 ml_Cls_3 im_Object_init mc_objInit (Nat.le_of_ble_eq_true rfl) (Nat.le_of_ble_eq_true rfl) ?_
  refine z_aload_n X d_Cls_init_4 rfl ?_
  refine z_newP X t_Rdr ty_Rdr d_Cls_init_5 cl_Rdr in_Rdr kl_Cls_9 ins_Rdr ini_Rdr nf_Rdr (Nat.le_of_ble_eq_true rfl) (Nat.le_of_ble_eq_true rfl) hP (by omega) (fun hP => ?_)
  have hF := hF.by2 (by omega) hP
  refine z_dup X d_Cls_init_8 rfl ?_
  refine z_callIN (ret' := none) X zG_ok (c_Rdr_init (hP.sub [1] (by decide) rfl)) d_Cls_init_9 ⟨(z_cbN (n := 0) X.2.2.2.2.1 (zG_n X.2.2.2.2.2.1 ns_0) mc_Rdr_init ini_Rdr (by decide +kernel) rfl rfl ⟨Nat.le_of_ble_eq_true rfl, Nat.le_of_ble_eq_true rfl⟩), rfl, X.2.2.2.2.1 _ im_Rdr_init⟩ rfl rfl (Nat.le_of_ble_eq_true rfl) ⟨Nat.le_of_ble_eq_true rfl, Nat.le_of_ble_eq_true rfl⟩ (fun r N1 f1 hp hN1 => ?_)
  obtain ⟨rfl, rfl, hP1, hF1⟩ := hp
  have hP := zP.ext2 (w1 := [(a, .inr (7, [.null, .null, .null, .null, .int 0, .int 0, .int 0]))]) hP hF1 hP1 (by omega) (fun q hq => by simp at hq; rcases hq with rfl | rfl | rfl | rfl | rfl | rfl | rfl | rfl | rfl <;> (dsimp only; omega))
  have hF := hF.join hF1 (by omega) (fun b hb => by simp at hb ⊢; omega)
  refine z_putFP X t_Cls ty_Cls n_Cls d_Cls_init_12 hP 0 rfl cl_Cls in_Cls 0 (by decide) fl_Cls_12 rfl rfl hnm rfl rfl rfl rfl (Nat.le_of_ble_eq_true rfl) (fun hP => ?_)
  have hF := hF.by (by simp) hP
  refine z_aload_n X d_Cls_init_15 rfl ?_
  refine z_newP X t_Wrk ty_Wrk d_Cls_init_16 cl_Wrk in_Wrk kl_Cls_18 ins_Wrk ini_Wrk nf_Wrk (Nat.le_of_ble_eq_true rfl) (Nat.le_of_ble_eq_true rfl) hP (by omega) (fun hP => ?_)
  have hF := hF.by2 (by omega) hP
  refine z_dup X d_Cls_init_19 rfl ?_
  refine z_callIN (ret' := none) X zG_ok (c_Wrk_init (hP.sub [11] (by decide) rfl)) d_Cls_init_20 ⟨(z_cbN (n := 0) X.2.2.2.2.1 (zG_n X.2.2.2.2.2.1 ns_3) mc_Wrk_init ini_Wrk (by decide +kernel) rfl rfl ⟨Nat.le_of_ble_eq_true rfl, Nat.le_of_ble_eq_true rfl⟩), rfl, X.2.2.2.2.1 _ im_Wrk_init⟩ rfl rfl (Nat.le_of_ble_eq_true rfl) ⟨Nat.le_of_ble_eq_true rfl, Nat.le_of_ble_eq_true rfl⟩ (fun r N1 f1 hp hN1 => ?_)
  obtain ⟨rfl, rfl, hP1, hF1⟩ := hp
  have hP := zP.ext2 (w1 := [(a, .inr (7, [.ref N, .null, .null, .null, .int 0, .int 0, .int 0])), (N, .inr (2, [.ref (N + 1), .ref (N + 3), .ref (N + 7), .ref (N + 8), .ref (N + 9), .int 0, .int 0, .int 0, .int 0, .int 0, .int 0, .int 0, .int 0, .int 0])), (N + 1, oSgn (N + 2) 0), (N + 2, aI ck 200 (fun _ => 0)), (N + 3, oTre (N + 4) (N + 5) (N + 6) 0), (N + 4, aI ck 40 (fun _ => 0)), (N + 5, aI ck 40 (fun _ => 0)), (N + 6, aI ck 40 (fun _ => 0)), (N + 7, aI ck 11 (fun _ => 0)), (N + 8, aI ck 11 (fun _ => 0)), (N + 9, aI ck 11 (fun _ => 0))]) hP hF1 hP1 (by omega) (fun q hq => by simp at hq; rcases hq with rfl | rfl | rfl <;> (dsimp only; omega))
  have hF := hF.join hF1 (by omega) (fun b hb => by simp at hb ⊢; omega)
  refine z_putFP X t_Cls ty_Cls n_Cls d_Cls_init_23 hP 0 rfl cl_Cls in_Cls 1 (by decide) fl_Cls_21 rfl rfl hnm rfl rfl rfl rfl (Nat.le_of_ble_eq_true rfl) (fun hP => ?_)
  have hF := hF.by (by simp) hP
  refine z_aload_n X d_Cls_init_26 rfl ?_
  refine z_newP X t_Prt ty_Prt d_Cls_init_27 cl_Prt in_Prt kl_Cls_25 ins_Prt ini_Prt nf_Prt (Nat.le_of_ble_eq_true rfl) (Nat.le_of_ble_eq_true rfl) hP (by omega) (fun hP => ?_)
  have hF := hF.by2 (by omega) hP
  refine z_dup X d_Cls_init_30 rfl ?_
  refine z_callIN (ret' := none) X zG_ok (c_Prt_init (hP.sub [15] (by decide) rfl)) d_Cls_init_31 ⟨(z_cbN (n := 0) X.2.2.2.2.1 (zG_n X.2.2.2.2.2.1 ns_5) mc_Prt_init ini_Prt (by decide +kernel) rfl rfl ⟨Nat.le_of_ble_eq_true rfl, Nat.le_of_ble_eq_true rfl⟩), rfl, X.2.2.2.2.1 _ im_Prt_init⟩ rfl rfl (Nat.le_of_ble_eq_true rfl) ⟨Nat.le_of_ble_eq_true rfl, Nat.le_of_ble_eq_true rfl⟩ (fun r N1 f1 hp hN1 => ?_)
  obtain ⟨rfl, rfl, hP1, hF1⟩ := hp
  have hP := zP.ext2 (w1 := [(a, .inr (7, [.ref N, .ref (N + 10), .null, .null, .int 0, .int 0, .int 0])), (N, .inr (2, [.ref (N + 1), .ref (N + 3), .ref (N + 7), .ref (N + 8), .ref (N + 9), .int 0, .int 0, .int 0, .int 0, .int 0, .int 0, .int 0, .int 0, .int 0])), (N + 1, oSgn (N + 2) 0), (N + 2, aI ck 200 (fun _ => 0)), (N + 3, oTre (N + 4) (N + 5) (N + 6) 0), (N + 4, aI ck 40 (fun _ => 0)), (N + 5, aI ck 40 (fun _ => 0)), (N + 6, aI ck 40 (fun _ => 0)), (N + 7, aI ck 11 (fun _ => 0)), (N + 8, aI ck 11 (fun _ => 0)), (N + 9, aI ck 11 (fun _ => 0)), (N + 10, .inr (6, [.ref (N + 11), .ref (N + 13), .int 0])), (N + 11, .inr (0, [.ref (N + 12)])), (N + 12, aI ck 200 (fun _ => -2147483648)), (N + 13, aI ck 400 (fun _ => 0))]) hP hF1 hP1 (by omega) (fun q hq => by simp at hq; rcases hq with rfl | rfl <;> (dsimp only; omega))
  have hF := hF.join hF1 (by omega) (fun b hb => by simp at hb ⊢; omega)
  refine z_putFP X t_Cls ty_Cls n_Cls d_Cls_init_34 hP 0 rfl cl_Cls in_Cls 2 (by decide) fl_Cls_28 rfl rfl hnm rfl rfl rfl rfl (Nat.le_of_ble_eq_true rfl) (fun hP => ?_)
  have hF := hF.by (by simp) hP
  refine z_aload_n X d_Cls_init_37 rfl ?_
  refine z_bipush X d_Cls_init_38 (v := 20) (by decide) ?_
  refine z_newqP X d_Cls_init_40 kl_Cls_32 (zG_ao X.2.2.2.2.2.1) (t0 := 3) rfl (by decide) rfl (Nat.le_of_ble_eq_true rfl) (Nat.le_of_ble_eq_true rfl) (Nat.le_of_ble_eq_true rfl) hP (by omega) (fun hP => ?_)
  have hF := hF.by2 (by omega) hP
  refine z_putFP X t_Cls ty_Cls n_Cls d_Cls_init_43 hP 0 rfl cl_Cls in_Cls 3 (by decide) fl_Cls_34 rfl rfl hnm rfl rfl rfl rfl (Nat.le_of_ble_eq_true rfl) (fun hP => ?_)
  have hF := hF.by (by simp) hP
  refine z_aload_n X d_Cls_init_46 rfl ?_
  refine z_iconst X d_Cls_init_47 (v := 0) (by decide) ?_
  refine z_putP X t_Cls ty_Cls n_Cls d_Cls_init_48 hP 0 rfl cl_Cls in_Cls 4 (by decide) fl_Cls_38 rfl rfl rfl rfl rfl (Nat.le_of_ble_eq_true rfl) (fun hP => ?_)
  have hF := hF.by (by simp) hP
  refine z_aload_n X d_Cls_init_51 rfl ?_
  refine z_iconst X d_Cls_init_52 (v := 0) (by decide) ?_
  refine z_putP X t_Cls ty_Cls n_Cls d_Cls_init_53 hP 0 rfl cl_Cls in_Cls 5 (by decide) fl_Cls_42 rfl rfl rfl rfl rfl (Nat.le_of_ble_eq_true rfl) (fun hP => ?_)
  have hF := hF.by (by simp) hP
  refine z_aload_n X d_Cls_init_56 rfl ?_
  refine z_iconst X d_Cls_init_57 (v := 0) (by decide) ?_
  refine z_putP X t_Cls ty_Cls n_Cls d_Cls_init_58 hP 0 rfl cl_Cls in_Cls 6 (by decide) fl_Cls_45 rfl rfl rfl rfl rfl (Nat.le_of_ble_eq_true rfl) (fun hP => ?_)
  have hF := hF.by (by simp) hP
  refine zW.widen (k := 18) (n := 1217) (Nat.le_of_ble_eq_true rfl) (Nat.le_of_ble_eq_true rfl) ?_
  exact z_vret X d_Cls_init_61 ⟨rfl, rfl, by simp only [wCl, rAd_0]; exact hP.sub [0, 1, 2, 3, 8, 9, 10, 4, 5, 6, 7, 11, 14, 12, 13, 15, 16, 17, 18] (by decide) rfl, hF⟩
end
