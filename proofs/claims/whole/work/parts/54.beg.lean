/-! what begins a part, side by side -/
def Rel (st : RSt) (μ : MS) (S : SK) (π : Nat → Nat) (s u : Nat) : Prop :=
  μ.1 27 = -1 ∧ μ.1 24 = nI u ∧ u ≤ 40 ∧ st.2.1.2.2.2 = u ∧ pinj π u ∧ chn (lqX st.2.1 π μ) S s ∧ shp S ∧ dep S ≤ 10 ∧ μ.1 26 = nI (dep S) ∧ μ.1 30 = nI S.length ∧ opn (lqX st.2.1 π μ) (μ.2.1 28) (μ.2.1 29) S ∧ st.1 5 = nI (lvl S) ∧ rgs st.2.2.1 st.2.2.2.1 st.2.2.2.2 S ∧ st.2.2.1 (lvl S) = nI (lst S s) ∧ st.2.2.2.1 (lvl S) = nI (ast S s) ∧ st.2.2.2.2 (lvl S) = nI (dlv S)
/-- a part is wanted -/
def RelW (g : Nat → Int32) (len : Nat) (st : RSt) (μ : MS) (S : SK) (π : Nat → Nat) (u n : Nat) : Prop :=
  Rel st μ S π u u ∧ μ.2.1 1 = g ∧ μ.1 2 = nI len ∧ st.1 9 = 0 ∧ st.1 6 = nI (dep S) ∧ ∃ p p', st.1 10 = nI p ∧ p ≤ len ∧ len + 1 ≤ n + p ∧ μ.1 25 = nI p' ∧ p' ≤ 1000 ∧ pB g len p = pB g len p' ∧ ∃ c, bk (lqX st.2.1 π μ) S u c ∧ SN st + c ≤ p
/-- the stack behind a push -/
theorem opn_push {X Y : LQ} {ok on : Nat → Int32} {S : SK} {t q : Nat} {v : Int32} (h : opn X ok on S) (hn : ∀ r ∈ S, r.1 ≤ 3 → LQ.n Y r.2 = LQ.n X r.2) (h4 : ∀ r ∈ S, r.1 ≤ 4) (hv : v = (if t = 4 then -1 else nI (LQ.n Y q))) : opn Y (upd ok S.length (nI t)) (upd on S.length v) ((t, q) :: S) :=
  ⟨opn_cg h (fun j hj => ⟨upd_ne (by omega), upd_ne (by omega)⟩) hn h4, upd_at, by rw [upd_at]; exact hv⟩
section BGN
variable {st : RSt}
theorem bPart_33 (h : st.1 11 = 33) : bPart st = bAnd (bGo st) (fun s => bTr (tApp 2 (-1) s.2.1) s) := by rw [bPart, if_pos h]
theorem bPart_40 (h : st.1 11 = 40) : bPart st = bAnd (bGo st) (fun s => bBeg (s.1 5 + 1) s) := by rw [bPart, if_neg (by rw [h]; decide), if_pos h]
theorem bPart_4 (h : st.1 11 = 4) : bPart st = bAnd (bGo (qs 9 1 st)) (fun s => bTr (tApp 3 (-1) s.2.1) s) := by rw [bPart, if_neg (by rw [h]; decide), if_neg (by rw [h]; decide), if_pos h]
theorem bPart_5 (h : st.1 11 = 5) : bPart st = bAnd (bGo (qs 9 1 st)) (fun s => bTr (tApp 4 (-1) s.2.1) s) := by rw [bPart, if_neg (by rw [h]; decide), if_neg (by rw [h]; decide), if_neg (by rw [h]; decide), if_pos h]
theorem bGo_y (h : st.1 6 < 10) : bGo st = (true, (upd st.1 6 (st.1 6 + 1), st.2)) := by rw [bGo, if_pos h]
theorem bGo_n (h : ¬ st.1 6 < 10) : bGo st = (false, st) := by rw [bGo, if_neg h]
theorem bAnd_y {k : RSt → Bool × RSt} {s : RSt} : bAnd (true, s) k = k s := by rw [bAnd, if_pos rfl]
theorem bAnd_n {k : RSt → Bool × RSt} {s : RSt} : bAnd (false, s) k = (false, s) := by
  rw [bAnd]
  show (if (false : Bool) = true then _ else (false, s)) = _
  rw [if_neg (by decide)]
theorem tApp_y {k x : Int32} {ts : TSt} {u : Nat} (hu : ts.2.2.2 = u) (h : u < 40) : tApp k x ts = (true, (upd ts.1 u k, upd ts.2.1 u x, upd ts.2.2.1 u (-1), u + 1)) := by rw [tApp, hu, if_pos h]
theorem tApp_n {k x : Int32} {ts : TSt} {u : Nat} (hu : ts.2.2.2 = u) (h : ¬ u < 40) : tApp k x ts = (false, ts) := by rw [tApp, hu, if_neg h]
theorem bBeg_y {L u : Nat} (h5 : st.1 5 + 1 = nI L) (hL : L < 11) (hu : st.2.1.2.2.2 = u) : bBeg (st.1 5 + 1) st = (true, (upd (upd st.1 5 (nI L)) 9 0, st.2.1, upd st.2.2.1 L (nI u), upd st.2.2.2.1 L (nI u), upd st.2.2.2.2 L (st.1 6))) := by
  rw [h5, bBeg, rBeg, if_neg (nI_pos (by omega)), if_pos (show nI L < 11 from nI_lt (b := 11) hL (by decide)), hu, nI_clamp (by omega)]
  rfl
end BGN
theorem shp_c {t q : Nat} {S : SK} (h : shp S) (h0 : t = 0 → 3 ≤ tp S) (h1 : t = 1 → tp S = 0 ∨ 3 ≤ tp S) (h4 : t ≤ 4) : shp ((t, q) :: S) := ⟨h, h0, h1, h4⟩
theorem rgs_lo {rs as ds : Nat → Int32} {t q : Nat} {S : SK} (h : rgs rs as ds S) (ht : ¬ 3 ≤ t) : rgs rs as ds ((t, q) :: S) := ⟨h, fun z => absurd z ht⟩
/-- one more of what is open: a not, an all or an any (tag 2 or 3), with a node of its own -/
theorem rel_node {X Y : LQ} {S : SK} {u t : Nat} {k : Int32} (hc : chn X S u) (hπ : pinj (LQ.n X) u) (hY : Y = LQapp X u k (-1)) (ht : (t = 2 ∧ k = 2) ∨ (t = 3 ∧ (k = 3 ∨ k = 4))) : chn Y ((t, u) :: S) (u + 1) ∧ ∀ j, j < u → lsa X Y j := by
  subst hY
  have ag : ∀ j, j < u → lsa X (LQapp X u k (-1)) j := fun j hj => app_lsa hπ hj
  have n1 : LQ.n (LQapp X u k (-1)) u = u := va_up_self _ _ _
  have hnd : nd (LQapp X u k (-1)) u k := ⟨upd_at, upd_at, by rw [n1]; exact upd_at, by rw [n1]; exact upd_at⟩
  refine ⟨⟨chn_cg hc ag, Or.inr (Or.inl ⟨by rcases ht with z | z; exact Or.inl z.1; exact Or.inr z.1, rfl, fun z => ?_, fun z => ?_, upd_at, by rw [n1]; exact upd_at, by rw [n1]; exact upd_at⟩)⟩, ag⟩
  · rcases ht with y | y
    · rw [y.2] at hnd; rw [y.2]; exact hnd
    · have z : t = 2 := z
      omega
  · rcases ht with y | ⟨y1, y | y⟩
    · have z : t = 3 := z
      omega
    · left; rw [y] at hnd; rw [y]; exact hnd
    · right; rw [y] at hnd; rw [y]; exact hnd
/-- how 'begins' goes -/
def BegO (g : Nat → Int32) (len : Nat) (st : RSt) (μ : MS) (S : SK) (π : Nat → Nat) (u n : Nat) (o : Option (Int32 × MS)) : Prop :=
  (∃ w a μ', o = some (0, μ') ∧ w ≤ 1000 ∧ a ≤ 1000 ∧ μ'.1 27 = nI w ∧ μ'.1 25 = nI a ∧ μ'.1 2 = nI len ∧ (bRun g len n st).1 = nI w)
  ∨ (∃ n' st' μ' S' π' u', o = some (0, μ') ∧ bRun g len n st = bRun g len n' st' ∧ RelW g len st' μ' S' π' u' n' ∧ n' < n ∧ dep S' = dep S + 1 ∧ u ≤ u')
  ∨ (∃ p, st.1 10 = nI p ∧ p ≤ len ∧ nBeg g len (pB g len p) ∧ o = some (1, sI 25 (nI (pB g len p)) μ))
/-- node, enter, push -/
theorem ref_nep {μ : MS} {u d L b : Nat} {k t : Int32} {β : Type} (K : MS → Option β) (hu : μ.1 24 = nI u) (hu4 : u ≤ 40) (hd : μ.1 26 = nI d) (hd1 : d ≤ 10) (hL : μ.1 30 = nI L) (hL6 : L < 64) (h25 : μ.1 25 = nI b) (h27 : μ.1 27 = -1) :
    ∃ μ2, (m_node k (μ.1 25) μ).bind (fun p31 => (m_enter (p31.2.1 25) p31.2).bind (fun p40 => (m_push t p31.1 p40).bind (fun p46 => K p46))) = K μ2 ∧ ((u < 40 ∧ d < 10 ∧ μ2 = sI 30 (nI (L + 1)) (sA 29 L (nI u) (sA 28 L t (sI 26 (nI (d + 1)) (nodeS k u μ))))) ∨ (¬ (u < 40 ∧ d < 10) ∧ μ2.1 27 = nI b ∧ μ2.1 25 = nI b ∧ μ2.1 2 = μ.1 2)) := by
  rw [h25]
  by_cases h4 : u < 40
  · rw [node_ok hu h4]
    obtain ⟨-, -, -, -, -, -, nin⟩ := nodeS_k (k := k) (u := u) (μ := μ)
    show ∃ μ2, (m_enter ((nodeS k u μ).1 25) (nodeS k u μ)).bind (fun p40 => (m_push t (nI u) p40).bind (fun p46 => K p46)) = K μ2 ∧ _
    rw [nin 25 (by decide), h25]
    by_cases h10 : d < 10
    · rw [enter_ok (by rw [nin 26 (by decide)]; exact hd) h10]
      show ∃ μ2, (m_push t (nI u) (sI 26 (nI (d + 1)) (nodeS k u μ))).bind (fun p46 => K p46) = K μ2 ∧ _
      rw [push_eq (o := L) (by rw [sI_ne (by decide), nin 30 (by decide)]; exact hL) hL6]
      exact ⟨_, rfl, Or.inl ⟨h4, h10, rfl⟩⟩
    · rw [enter_no (by rw [nin 26 (by decide), hd, show d = 10 by omega])]
      show ∃ μ2, (m_push t (nI u) (sI 26 (nI 11) (mFail (nI b) (nodeS k u μ)))).bind (fun p46 => K p46) = K μ2 ∧ _
      rw [push_eq (o := L) (by rw [sI_ne (by decide), mFail_1 (by decide), nin 30 (by decide)]; exact hL) hL6]
      refine ⟨_, rfl, Or.inr ⟨fun z => h10 z.2, ?_, ?_, ?_⟩⟩
      · rw [sI_ne (by decide), sA_1, sA_1, sI_ne (by decide), mFail_w, nin 27 (by decide), h27, if_neg (by decide)]
      · rw [sI_ne (by decide), sA_1, sA_1, sI_ne (by decide), mFail_1 (by decide), nin 25 (by decide), h25]
      · rw [sI_ne (by decide), sA_1, sA_1, sI_ne (by decide), mFail_1 (by decide), nin 2 (by decide)]
  · rw [node_full (by rw [hu, show u = 40 by omega])]
    show ∃ μ2, (m_enter ((mFail (nI b) μ).1 25) (mFail (nI b) μ)).bind (fun p40 => (m_push t 0 p40).bind (fun p46 => K p46)) = K μ2 ∧ _
    rw [mFail_1 (by decide), h25]
    have w27 : (mFail (nI b) μ).1 27 = nI b := by rw [mFail_w, h27, if_neg (by decide)]
    by_cases h10 : d < 10
    · rw [enter_ok (by rw [mFail_1 (by decide)]; exact hd) h10]
      show ∃ μ2, (m_push t 0 (sI 26 (nI (d + 1)) (mFail (nI b) μ))).bind (fun p46 => K p46) = K μ2 ∧ _
      rw [push_eq (o := L) (by rw [sI_ne (by decide), mFail_1 (by decide)]; exact hL) hL6]
      refine ⟨_, rfl, Or.inr ⟨fun z => h4 z.1, ?_, ?_, ?_⟩⟩
      · rw [sI_ne (by decide), sA_1, sA_1, sI_ne (by decide), w27]
      · rw [sI_ne (by decide), sA_1, sA_1, sI_ne (by decide), mFail_1 (by decide), h25]
      · rw [sI_ne (by decide), sA_1, sA_1, sI_ne (by decide), mFail_1 (by decide)]
    · rw [enter_no (by rw [mFail_1 (by decide), hd, show d = 10 by omega])]
      show ∃ μ2, (m_push t 0 (sI 26 (nI 11) (mFail (nI b) (mFail (nI b) μ)))).bind (fun p46 => K p46) = K μ2 ∧ _
      rw [push_eq (o := L) (by rw [sI_ne (by decide), mFail_1 (by decide), mFail_1 (by decide)]; exact hL) hL6]
      refine ⟨_, rfl, Or.inr ⟨fun z => h4 z.1, ?_, ?_, ?_⟩⟩
      · rw [sI_ne (by decide), sA_1, sA_1, sI_ne (by decide), mFail_w, w27]
        split <;> rfl
      · rw [sI_ne (by decide), sA_1, sA_1, sI_ne (by decide), mFail_1 (by decide), mFail_1 (by decide), h25]
      · rw [sI_ne (by decide), sA_1, sA_1, sI_ne (by decide), mFail_1 (by decide), mFail_1 (by decide)]
theorem bRun_tz {g : Nat → Int32} {len n : Nat} {st s : RSt} {zz : Nat → Int32} (hz : zTok g len st.1 = zz) (h : bTake (zz, st.2) = (true, s)) (h0 : ¬ s.1 11 = 0) : bRun g len (n + 1) st = bRun g len n s := bRun_t (by rw [hz]; exact h) h0
theorem bRun_fz {g : Nat → Int32} {len n : Nat} {st s : RSt} {zz : Nat → Int32} (hz : zTok g len st.1 = zz) (h : bTake (zz, st.2) = (false, s)) : (bRun g len (n + 1) st).1 = s.1 12 := bRun_f (by rw [hz]; exact h)
set_option maxHeartbeats 4000000 in
theorem beg_sim {g : Nat → Int32} {len n u : Nat} {st : RSt} {μ : MS} {S : SK} {π : Nat → Nat} (hl : len ≤ 200) (hg : ∀ j, j < len → ¬ g j < 32) (hR : RelW g len st μ S π u n) : BegO g len st μ S π u n (m_begins μ) := by
  obtain ⟨hRel, h1, h2, h9, h6, p, p', hp1, hp2, hp3, hp4, hp5, hpb, c0, hbk, hSN0⟩ := id hR
  obtain ⟨h27, h24, hu4, hu, hπ, hch, hsh, hdep, h26, h30, hop, h5, hrg, hrs, has, hds⟩ := id hRel
  have hSN : sN st.2.1.1 st.2.1.2.1 u + c0 ≤ p := by rw [← hu]; exact hSN0
  have lk := look_eq (μ := μ) hl hp4 h2 hp5
  rw [h1] at lk
  have lk : m_look μ = some (sgv g len (nI (pB g len p)), sI 25 (nI (pB g len p)) μ) := by rw [hpb]; exact lk
  have hbp : p ≤ pB g len p := skp_ge 200 p
  have hbl : pB g len p ≤ len := skp_le 200 p hp2
  have hlen : S.length < 64 := by
    have := shp_len hsh
    split at this <;> (try split at this) <;> omega
  have hlv := lvl_dep S
  obtain ⟨zz, hz0⟩ : ∃ zz, zTok g len st.1 = zz := ⟨_, rfl⟩
  rw [m_begins, lk]
  have m25 : (sI 25 (nI (pB g len p)) μ).1 25 = nI (pB g len p) := sI_at
  have m24 : (sI 25 (nI (pB g len p)) μ).1 24 = nI u := by rw [sI_ne (by decide)]; exact h24
  have m26 : (sI 25 (nI (pB g len p)) μ).1 26 = nI (dep S) := by rw [sI_ne (by decide)]; exact h26
  have m27 : (sI 25 (nI (pB g len p)) μ).1 27 = -1 := by rw [sI_ne (by decide)]; exact h27
  have m30 : (sI 25 (nI (pB g len p)) μ).1 30 = nI S.length := by rw [sI_ne (by decide)]; exact h30
  have m2 : (sI 25 (nI (pB g len p)) μ).1 2 = nI len := by rw [sI_ne (by decide)]; exact h2
  show BegO g len st μ S π u n (if sgv g len (nI (pB g len p)) = -1 then (if sgv g len (nI (pB g len p)) = 33 then _ else if sgv g len (nI (pB g len p)) = 40 then _ else some (1, sI 25 (nI (pB g len p)) μ)) else (m_word (sI 25 (nI (pB g len p)) μ)).bind _)
  have sg : sgv g len (nI (pB g len p)) = if pB g len p < len then g (pB g len p) else -1 := sgv_p (by omega) (by omega)
  by_cases hlt : pB g len p < len
  · rw [if_pos hlt] at sg
    have hm : ¬ g (pB g len p) = -1 := ge32 (hg _ hlt) (by decide)
    rw [sg, if_neg hm, word_eq (p := pB g len p) hl (by omega) m25 m2, sI_2, h1]
    obtain ⟨m, rfl⟩ : ∃ m, n = m + 2 := ⟨n - 2, by omega⟩
    show BegO g len st μ S π u (m + 2) (if g (pB g len p) = 33 then _ else if wcd g (pB g len p) (wE g len (pB g len p) - pB g len p) ≤ 3 then (if g (pB g len p) = 40 then _ else some (1, sI 25 (nI (pB g len p)) μ)) else _)
    have z6t : ∀ {c : Int32} {e : Nat}, tkF st.1 (zz) (pB g len p) c e → zz 6 = nI (dep S) ∧ zz 9 = 0 ∧ zz 5 = nI (lvl S) := fun t => ⟨by rw [t.2.2.2 6 (by decide) (by decide) (by decide) (by decide), h6], by rw [t.2.2.2 9 (by decide) (by decide) (by decide) (by decide), h9], by rw [t.2.2.2 5 (by decide) (by decide) (by decide) (by decide), h5]⟩
    by_cases c33 : g (pB g len p) = 33
    · -- a not
      rw [if_pos c33]
      obtain ⟨-, -, tk⟩ := tk_is (g := g) (len := len) (p := p) (q := st.1) (c := 33) hl (by omega) hp1 (by rw [sg]; exact c33) (by omega) (by decide) (by decide) (by decide)
      rw [hz0] at tk
      obtain ⟨z6, z9, z5⟩ := z6t tk
      obtain ⟨t1, t2, t3, t4⟩ := tk
      have hB := (bTake_0 (st := (zz, st.2)) z9).trans (bPart_33 (st := (zz, st.2)) t1)
      obtain ⟨μ2, e2, hcase⟩ := ref_nep (μ := sI 25 (nI (pB g len p)) μ) (u := u) (d := dep S) (L := S.length) (b := pB g len p) (k := 2) (t := 2) (fun p46 => some ((0 : Int32), sI 25 ((p46.1 25) + 1) p46)) m24 hu4 m26 hdep m30 hlen m25 m27
      rw [e2]
      rcases hcase with ⟨a1, a2, a3⟩ | ⟨a1, a2, a3, a4⟩
      · right; left
        obtain ⟨n20, n21, n22, n23, nar, n24, nin⟩ := nodeS_k (k := 2) (u := u) (μ := sI 25 (nI (pB g len p)) μ)
        have z6' : zz 6 < 10 := by rw [z6]; exact nI_lt (b := 10) a2 (by decide)
        have hB2 : bTake (zz, st.2) = (true, (upd (zz) 6 (nI (dep S + 1)), (upd st.2.1.1 u 2, upd st.2.1.2.1 u (-1), upd st.2.1.2.2.1 u (-1), u + 1), st.2.2)) := by
          rw [hB, bGo_y (st := (zz, st.2)) z6', bAnd_y]
          show bTr (tApp 2 (-1) st.2.1) (upd (zz) 6 (zz 6 + 1), st.2) = _
          rw [tApp_y hu a1, z6, nI_1]
          rfl
        have r1 := bRun_tz (n := m + 1) hz0 hB2 (by show ¬ upd (zz) 6 (nI (dep S + 1)) 11 = 0; rw [upd_ne (by decide), t1]; decide)
        have w25 : μ2.1 25 = nI (pB g len p) := by rw [a3, sI_ne (by decide), sA_1, sA_1, sI_ne (by decide), nin 25 (by decide), m25]
        have X' : lqX (upd st.2.1.1 u 2, upd st.2.1.2.1 u (-1), upd st.2.1.2.2.1 u (-1), u + 1) (va_up π u u) (sI 25 (μ2.1 25 + 1) μ2) = LQapp (lqX st.2.1 π μ) u 2 (-1) := by
          show (_, _, _, _, μ2.2.1 20, μ2.2.1 21, μ2.2.1 22, μ2.2.1 23) = _
          rw [a3, sI_2, sI_2, sI_2, sI_2, sA_ne (by decide), sA_ne (by decide), sA_ne (by decide), sA_ne (by decide), sA_ne (by decide), sA_ne (by decide), sA_ne (by decide), sA_ne (by decide), sI_2, sI_2, sI_2, sI_2, n20, n21, n22, n23]
          rfl
        obtain ⟨y1, y2⟩ := rel_node (X := lqX st.2.1 π μ) (S := S) (u := u) (t := 2) (k := 2) hch hπ X' (Or.inl ⟨rfl, rfl⟩)
        refine ⟨m + 1, _, _, (2, u) :: S, va_up π u u, u + 1, rfl, r1, ⟨⟨?_, ?_, by omega, rfl, pinj_app hπ, y1, shp_c hsh (fun z => absurd z (by decide)) (fun z => absurd z (by decide)) (by decide), ?_, ?_, ?_, ?_, ?_, rgs_lo hrg (by decide), hrs, has, hds⟩, ?_, ?_, ?_, ?_, pB g len p + 1, pB g len p + 1, ?_, by omega, by omega, by rw [sI_at, w25, nI_1], by omega, rfl, c0, bk_2 (bk_cg (by omega) hbk hch y2) (Or.inl rfl), by
          show sN (upd st.2.1.1 u 2) (upd st.2.1.2.1 u (-1)) (u + 1) + c0 ≤ pB g len p + 1
          rw [sN_app, show nc 2 (-1) = 1 from rfl]
          omega⟩, by omega, by show dep S + (if 2 ≤ 2 then 1 else 0) = _; rw [if_pos (by decide)], by omega⟩
        · rw [sI_ne (by decide), a3, sI_ne (by decide), sA_1, sA_1, sI_ne (by decide), nin 27 (by decide), m27]
        · rw [sI_ne (by decide), a3, sI_ne (by decide), sA_1, sA_1, sI_ne (by decide), n24]
        · show dep S + (if 2 ≤ 2 then 1 else 0) ≤ 10
          rw [if_pos (by decide)]; omega
        · rw [sI_ne (by decide), a3, sI_ne (by decide), sA_1, sA_1, sI_at]
          rfl
        · rw [sI_ne (by decide), a3, sI_at]
          rfl
        · have e28 : (sI 25 (μ2.1 25 + 1) μ2).2.1 28 = upd (μ.2.1 28) S.length (nI 2) := by rw [sI_2, a3, sI_2, sA_ne (by decide), sA_at, sI_2, nar 28 (by decide) (by decide) (by decide) (by decide), sI_2]; rfl
          have e29 : (sI 25 (μ2.1 25 + 1) μ2).2.1 29 = upd (μ.2.1 29) S.length (nI u) := by rw [sI_2, a3, sI_2, sA_at, sA_ne (by decide), sI_2, nar 29 (by decide) (by decide) (by decide) (by decide), sI_2]
          rw [e28, e29]
          refine opn_push hop (fun r hr z => (y2 r.2 ((chn_le hch r hr).2 z)).2.2.2.1.symm) (shp_4 hsh) ?_
          rw [if_neg (by decide)]
          show nI u = nI (va_up π u u u)
          rw [va_up_self]
        · show upd (zz) 6 (nI (dep S + 1)) 5 = nI (lvl S + (if 3 ≤ 2 then 1 else 0))
          rw [upd_ne (by decide), z5]; rfl
        · rw [sI_2, a3, sI_2, sA_ne (by decide), sA_ne (by decide), sI_2, nar 1 (by decide) (by decide) (by decide) (by decide), sI_2]; exact h1
        · rw [sI_ne (by decide), a3, sI_ne (by decide), sA_1, sA_1, sI_ne (by decide), nin 2 (by decide), m2]
        · show upd (zz) 6 (nI (dep S + 1)) 9 = 0
          rw [upd_ne (by decide), z9]
        · show upd (zz) 6 (nI (dep S + 1)) 6 = nI (dep S + (if 2 ≤ 2 then 1 else 0))
          rw [upd_at]; rfl
        · show upd (zz) 6 (nI (dep S + 1)) 10 = _
          rw [upd_ne (by decide), t3]
      · left
        refine ⟨pB g len p, pB g len p + 1, _, rfl, by omega, by omega, by rw [sI_ne (by decide)]; exact a2, by rw [sI_at, a3, nI_1], by rw [sI_ne (by decide), a4]; exact m2, ?_⟩
        by_cases hd10 : dep S < 10
        · have z6' : zz 6 < 10 := by rw [z6]; exact nI_lt (b := 10) hd10 (by decide)
          have hB2 : bTake (zz, st.2) = (false, (upd (zz) 6 (zz 6 + 1), st.2.1, st.2.2)) := by
            rw [hB, bGo_y (st := (zz, st.2)) z6', bAnd_y]
            show bTr (tApp 2 (-1) st.2.1) (upd (zz) 6 (zz 6 + 1), st.2) = _
            rw [tApp_n hu (fun z => a1 ⟨z, hd10⟩)]
            rfl
          refine (bRun_fz (n := m + 1) hz0 hB2).trans ?_
          show upd (zz) 6 (zz 6 + 1) 12 = _
          rw [upd_ne (by decide), t2]
        · have z6' : ¬ zz 6 < 10 := by rw [z6]; exact nI_nlt (b := 10) (by omega) (by omega)
          have hB2 : bTake (zz, st.2) = (false, (zz, st.2)) := by
            rw [hB, bGo_n (st := (zz, st.2)) z6', bAnd_n]
          exact (bRun_fz (n := m + 1) hz0 hB2).trans t2
    · rw [if_neg c33]
      by_cases w3 : wcd g (pB g len p) (wE g len (pB g len p) - pB g len p) ≤ 3
      · rw [if_pos w3]
        have nw : ¬ wcd g (pB g len p) (wE g len (pB g len p) - pB g len p) = 4 ∧ ¬ wcd g (pB g len p) (wE g len (pB g len p) - pB g len p) = 5 := ⟨fun z => by rw [z] at w3; exact absurd w3 (by decide), fun z => by rw [z] at w3; exact absurd w3 (by decide)⟩
        by_cases c40 : g (pB g len p) = 40
        · -- a bracket
          rw [if_pos c40]
          obtain ⟨-, -, tk⟩ := tk_is (g := g) (len := len) (p := p) (q := st.1) (c := 40) hl (by omega) hp1 (by rw [sg]; exact c40) (by omega) (by decide) (by decide) (by decide)
          rw [hz0] at tk
          obtain ⟨z6, z9, z5⟩ := z6t tk
          obtain ⟨t1, t2, t3, t4⟩ := tk
          have hB := (bTake_0 (st := (zz, st.2)) z9).trans (bPart_40 (st := (zz, st.2)) t1)
          show BegO g len st μ S π u (m + 2) ((m_enter ((sI 25 (nI (pB g len p)) μ).1 25) (sI 25 (nI (pB g len p)) μ)).bind _)
          rw [m25]
          by_cases hd10 : dep S < 10
          · rw [enter_ok m26 hd10]
            show BegO g len st μ S π u (m + 2) ((m_push 4 (-1) (sI 26 (nI (dep S + 1)) (sI 25 (nI (pB g len p)) μ))).bind _)
            rw [push_eq (o := S.length) (by rw [sI_ne (by decide)]; exact m30) hlen]
            have z6' : zz 6 < 10 := by rw [z6]; exact nI_lt (b := 10) hd10 (by decide)
            have hB2 : bTake (zz, st.2) = (true, (upd (upd (upd (zz) 6 (nI (dep S + 1))) 5 (nI (lvl S + 1))) 9 0, st.2.1, upd st.2.2.1 (lvl S + 1) (nI u), upd st.2.2.2.1 (lvl S + 1) (nI u), upd st.2.2.2.2 (lvl S + 1) (nI (dep S + 1)))) := by
              rw [hB, bGo_y (st := (zz, st.2)) z6', bAnd_y]
              show bBeg (upd (zz) 6 (zz 6 + 1) 5 + 1) (upd (zz) 6 (zz 6 + 1), st.2) = _
              rw [z6, nI_1]
              have q5 : upd (zz) 6 (nI (dep S + 1)) 5 + 1 = nI (lvl S + 1) := by rw [upd_ne (by decide), z5, nI_1]
              have q6 : upd (zz) 6 (nI (dep S + 1)) 6 = nI (dep S + 1) := upd_at
              have := bBeg_y (st := (upd (zz) 6 (nI (dep S + 1)), st.2)) (L := lvl S + 1) (u := u) q5 (by omega) hu
              rw [show (upd (zz) 6 (nI (dep S + 1)), st.2).1 6 = nI (dep S + 1) from q6] at this
              exact this
            have r1 := bRun_tz (n := m + 1) hz0 hB2 (by show ¬ upd (upd (upd (zz) 6 (nI (dep S + 1))) 5 (nI (lvl S + 1))) 9 0 11 = 0; rw [upd_ne (by decide), upd_ne (by decide), upd_ne (by decide), t1]; decide)
            right; left
            have lv4 : lvl ((4, u) :: S) = lvl S + 1 := by show lvl S + (if 3 ≤ 4 then 1 else 0) = _; rw [if_pos (by decide)]
            have dp4 : dep ((4, u) :: S) = dep S + 1 := by show dep S + (if 2 ≤ 4 then 1 else 0) = _; rw [if_pos (by decide)]
            refine ⟨m + 1, _, _, (4, u) :: S, π, u, rfl, r1, ⟨⟨?_, ?_, hu4, hu, hπ, ⟨hch, Or.inr (Or.inr ⟨rfl, rfl⟩)⟩, shp_c hsh (fun z => absurd z (by decide)) (fun z => absurd z (by decide)) (by decide), ?_, ?_, ?_, ?_, ?_, ?_, ?_, ?_, ?_⟩, ?_, ?_, ?_, ?_, pB g len p + 1, pB g len p + 1, ?_, by omega, by omega, ?_, by omega, rfl, c0 + 1, bk_4 hbk, by
              show sN st.2.1.1 st.2.1.2.1 st.2.1.2.2.2 + (c0 + 1) ≤ pB g len p + 1
              rw [hu]
              omega⟩, by omega, dp4, by omega⟩
            · rw [sI_ne (by decide), sI_ne (by decide), sA_1, sA_1, sI_ne (by decide), m27]
            · rw [sI_ne (by decide), sI_ne (by decide), sA_1, sA_1, sI_ne (by decide), m24]
            · rw [dp4]; omega
            · rw [sI_ne (by decide), sI_ne (by decide), sA_1, sA_1, sI_at, dp4]
            · rw [sI_ne (by decide), sI_at]; rfl
            · have e28 : (sI 25 ((sI 30 (nI (S.length + 1)) (sA 29 S.length (-1) (sA 28 S.length 4 (sI 26 (nI (dep S + 1)) (sI 25 (nI (pB g len p)) μ))))).1 25 + 1) (sI 30 (nI (S.length + 1)) (sA 29 S.length (-1) (sA 28 S.length 4 (sI 26 (nI (dep S + 1)) (sI 25 (nI (pB g len p)) μ)))))).2.1 28 = upd (μ.2.1 28) S.length (nI 4) := by rw [sI_2, sI_2, sA_ne (by decide), sA_at, sI_2, sI_2]; rfl
              have e29 : (sI 25 ((sI 30 (nI (S.length + 1)) (sA 29 S.length (-1) (sA 28 S.length 4 (sI 26 (nI (dep S + 1)) (sI 25 (nI (pB g len p)) μ))))).1 25 + 1) (sI 30 (nI (S.length + 1)) (sA 29 S.length (-1) (sA 28 S.length 4 (sI 26 (nI (dep S + 1)) (sI 25 (nI (pB g len p)) μ)))))).2.1 29 = upd (μ.2.1 29) S.length (-1) := by rw [sI_2, sI_2, sA_at, sA_ne (by decide), sI_2, sI_2]
              rw [e28, e29]
              exact opn_push hop (fun r hr z => rfl) (shp_4 hsh) (by rw [if_pos rfl])
            · show upd (upd (upd (zz) 6 (nI (dep S + 1))) 5 (nI (lvl S + 1))) 9 0 5 = _
              rw [upd_ne (by decide), upd_at, lv4]
            · refine ⟨rgs_cg hrg (fun j hj => ⟨upd_ne (by omega), upd_ne (by omega), upd_ne (by omega)⟩), fun _ => ?_⟩
              show upd st.2.2.1 (lvl S + 1) (nI u) (lvl S) = _ ∧ upd st.2.2.2.1 (lvl S + 1) (nI u) (lvl S) = _ ∧ upd st.2.2.2.2 (lvl S + 1) (nI (dep S + 1)) (lvl S) = _
              rw [upd_ne (by omega), upd_ne (by omega), upd_ne (by omega)]
              exact ⟨hrs, has, hds⟩
            · rw [lv4]; exact upd_at
            · rw [lv4]; exact upd_at
            · rw [lv4]; exact upd_at
            · rw [sI_2, sI_2, sA_ne (by decide), sA_ne (by decide), sI_2, sI_2]; exact h1
            · rw [sI_ne (by decide), sI_ne (by decide), sA_1, sA_1, sI_ne (by decide), m2]
            · show upd (upd (upd zz 6 (nI (dep S + 1))) 5 (nI (lvl S + 1))) 9 0 9 = 0; exact upd_at
            · show upd (upd (upd (zz) 6 (nI (dep S + 1))) 5 (nI (lvl S + 1))) 9 0 6 = _
              rw [upd_ne (by decide), upd_ne (by decide), upd_at, dp4]
            · show upd (upd (upd (zz) 6 (nI (dep S + 1))) 5 (nI (lvl S + 1))) 9 0 10 = _
              rw [upd_ne (by decide), upd_ne (by decide), upd_ne (by decide), t3]
            · rw [sI_at, sI_ne (by decide), sA_1, sA_1, sI_ne (by decide), m25, nI_1]
          · rw [enter_no (by rw [m26, show dep S = 10 by omega])]
            show BegO g len st μ S π u (m + 2) ((m_push 4 (-1) (sI 26 (nI 11) (mFail (nI (pB g len p)) (sI 25 (nI (pB g len p)) μ)))).bind _)
            rw [push_eq (o := S.length) (by rw [sI_ne (by decide), mFail_1 (by decide)]; exact m30) hlen]
            left
            refine ⟨pB g len p, pB g len p + 1, _, rfl, by omega, by omega, ?_, ?_, ?_, ?_⟩
            · rw [sI_ne (by decide), sI_ne (by decide), sA_1, sA_1, sI_ne (by decide), mFail_w, m27, if_neg (by decide)]
            · rw [sI_at, sI_ne (by decide), sA_1, sA_1, sI_ne (by decide), mFail_1 (by decide), m25, nI_1]
            · rw [sI_ne (by decide), sI_ne (by decide), sA_1, sA_1, sI_ne (by decide), mFail_1 (by decide), m2]
            · have z6' : ¬ zz 6 < 10 := by rw [z6]; exact nI_nlt (b := 10) (by omega) (by omega)
              have hB2 : bTake (zz, st.2) = (false, (zz, st.2)) := by
                rw [hB, bGo_n (st := (zz, st.2)) z6', bAnd_n]
              exact (bRun_fz (n := m + 1) hz0 hB2).trans t2
        · rw [if_neg c40]
          exact Or.inr (Or.inr ⟨p, hp1, hp2, fun _ => ⟨c33, c40, nw⟩, rfl⟩)
      · rw [if_neg w3]
        -- all, any
        have hw45 : ∃ w k tk0, wcd g (pB g len p) (wE g len (pB g len p) - pB g len p) = w ∧ wE g len (pB g len p) - pB g len p = 3 ∧ w - 1 = k ∧ wtk w = tk0 ∧ ((w = 4 ∧ k = 3 ∧ tk0 = 4) ∨ (w = 5 ∧ k = 4 ∧ tk0 = 5)) := by
          rcases wcd_inv g (pB g len p) (wE g len (pB g len p) - pB g len p) with z | z | z | z | z | z
          · rw [z.1] at w3; exact absurd (by decide) w3
          · rw [z.1] at w3; exact absurd (by decide) w3
          · rw [z.1] at w3; exact absurd (by decide) w3
          · exact ⟨4, 3, 4, z.1, z.2, by decide, by decide, Or.inl ⟨rfl, rfl, rfl⟩⟩
          · exact ⟨5, 4, 5, z.1, z.2, by decide, by decide, Or.inr ⟨rfl, rfl, rfl⟩⟩
          · rw [z] at w3; exact absurd (by decide) w3
        obtain ⟨w, k, tk0, hw, hw3, hk, htk, hwk⟩ := hw45
        have hE : wE g len (pB g len p) = pB g len p + 3 := by
          have : pB g len p ≤ wE g len (pB g len p) := skp_ge 200 _
          omega
        have hz : zlet (g (pB g len p)) = true := by
          rcases Bool.eq_false_or_eq_true (zlet (g (pB g len p))) with z | z
          · exact z
          · have : wE g len (pB g len p) = pB g len p := skp_no 200 (fun y => by rw [z] at y; exact absurd y.2 (by decide))
            omega
        have hdg : zdig (g (pB g len p)) = false := by
          rcases Bool.eq_false_or_eq_true (zdig (g (pB g len p))) with z | z
          · rw [dig_let z] at hz; exact absurd hz (by decide)
          · exact z
        have hEl : pB g len p + 3 ≤ len := by rw [← hE]; exact skp_le 200 _ (by omega)
        have tk := tk_word (g := g) (len := len) (p := p) (q := st.1) hl (by omega) hp1 hlt hm hdg hz (by rw [hw]; rcases hwk with y | y <;> rw [y.1] <;> decide)
        rw [hw, htk, hE, hz0] at tk
        obtain ⟨z6, z9, z5⟩ := z6t tk
        obtain ⟨t1, t2, t3, t4⟩ := tk
        have hB : bTake (zz, st.2) = bAnd (bGo (upd (zz) 9 1, st.2)) (fun s => bTr (tApp k (-1) s.2.1) s) := by
          refine (bTake_0 (st := (zz, st.2)) z9).trans ?_
          rcases hwk with ⟨-, rfl, rfl⟩ | ⟨-, rfl, rfl⟩
          · exact bPart_4 (st := (zz, st.2)) t1
          · exact bPart_5 (st := (zz, st.2)) t1
        rw [hw, hk]
        obtain ⟨μ2, e2, hcase⟩ := ref_nep (μ := sI 25 (nI (pB g len p)) μ) (u := u) (d := dep S) (L := S.length) (b := pB g len p) (k := k) (t := 3) (fun p89 => (if 0 ≤ (p89.1 27) then some ((0 : Int32), (sI 25 (((p89.1 25) + 3) + 1) (sI 25 ((p89.1 25) + 3) p89))) else (m_look (sI 25 ((p89.1 25) + 3) p89)).bind (fun p110 => (if p110.1 = 40 then some (0, (sI 25 ((p110.2.1 25) + 1) p110.2)) else (m_fail (p110.2.1 25) p110.2).bind (fun p123 => some (0, (sI 25 ((p123.1 25) + 1) p123))))))) m24 hu4 m26 hdep m30 hlen m25 m27
        refine Eq.subst (motive := fun o => BegO g len st μ S π u (m + 2) o) e2.symm ?_
        rcases hcase with ⟨a1, a2, a3⟩ | ⟨a1, a2, a3, a4⟩
        · obtain ⟨n20, n21, n22, n23, nar, n24, nin⟩ := nodeS_k (k := k) (u := u) (μ := sI 25 (nI (pB g len p)) μ)
          have w27 : μ2.1 27 = -1 := by rw [a3, sI_ne (by decide), sA_1, sA_1, sI_ne (by decide), nin 27 (by decide), m27]
          have w25 : μ2.1 25 = nI (pB g len p) := by rw [a3, sI_ne (by decide), sA_1, sA_1, sI_ne (by decide), nin 25 (by decide), m25]
          have w2 : μ2.1 2 = nI len := by rw [a3, sI_ne (by decide), sA_1, sA_1, sI_ne (by decide), nin 2 (by decide), m2]
          have w1 : μ2.2.1 1 = g := by rw [a3, sI_2, sA_ne (by decide), sA_ne (by decide), sI_2, nar 1 (by decide) (by decide) (by decide) (by decide), sI_2]; exact h1
          have p3 : μ2.1 25 + 3 = nI (pB g len p + 3) := by rw [w25, show (3 : Int32) = nI 3 from rfl, nI_add]
          rw [w27, if_neg (by decide), p3]
          have lk2 := look_eq (len := len) (p := pB g len p + 3) (μ := sI 25 (nI (pB g len p + 3)) μ2) hl sI_at (by rw [sI_ne (by decide)]; exact w2) (by omega)
          rw [sI_2, w1] at lk2
          have hbl2 : pB g len (pB g len p + 3) ≤ len := skp_le 200 _ hEl
          have hge2 : pB g len p + 3 ≤ pB g len (pB g len p + 3) := skp_ge 200 _
          have lk2 : m_look (sI 25 (nI (pB g len p + 3)) μ2) = some (sgv g len (nI (pB g len (pB g len p + 3))), sI 25 (nI (pB g len (pB g len p + 3))) (sI 25 (nI (pB g len p + 3)) μ2)) := lk2
          rw [lk2, sI_sI]
          generalize hb2 : pB g len (pB g len p + 3) = b2 at hbl2 hge2
          show BegO g len st μ S π u (m + 2) (if sgv g len (nI b2) = 40 then some (0, sI 25 ((sI 25 (nI b2) μ2).1 25 + 1) (sI 25 (nI b2) μ2)) else (m_fail ((sI 25 (nI b2) μ2).1 25) (sI 25 (nI b2) μ2)).bind _)
          have w25b : (sI 25 (nI b2) μ2).1 25 = nI b2 := sI_at
          rw [w25b]
          have z6' : upd (zz) 9 1 6 < 10 := by rw [upd_ne (by decide), z6]; exact nI_lt (b := 10) a2 (by decide)
          have hB2 : bTake (zz, st.2) = (true, (upd (upd (zz) 9 1) 6 (nI (dep S + 1)), (upd st.2.1.1 u k, upd st.2.1.2.1 u (-1), upd st.2.1.2.2.1 u (-1), u + 1), st.2.2)) := by
            rw [hB, bGo_y (st := (upd (zz) 9 1, st.2)) z6', bAnd_y]
            show bTr (tApp k (-1) st.2.1) (upd (upd (zz) 9 1) 6 (upd (zz) 9 1 6 + 1), st.2) = _
            rw [tApp_y hu a1, upd_ne (by decide), z6, nI_1]
            rfl
          have r1 := bRun_tz (n := m + 1) hz0 hB2 (by show ¬ upd (upd (zz) 9 1) 6 (nI (dep S + 1)) 11 = 0; rw [upd_ne (by decide), upd_ne (by decide), t1]; rcases hwk with y | y <;> rw [y.2.2] <;> decide)
          generalize hq1 : upd (upd (zz) 9 1) 6 (nI (dep S + 1)) = q1 at r1
          have s9 : q1 9 = 1 := by rw [← hq1, upd_ne (by decide), upd_at]
          have s6 : q1 6 = nI (dep S + 1) := by rw [← hq1, upd_at]
          have s5 : q1 5 = nI (lvl S) := by rw [← hq1, upd_ne (by decide), upd_ne (by decide), z5]
          have s10 : q1 10 = nI (pB g len p + 3) := by rw [← hq1, upd_ne (by decide), upd_ne (by decide), t3]
          by_cases c40 : sgv g len (nI b2) = 40
          · rw [if_pos c40]
            obtain ⟨b2l, -, tk2⟩ := tk_is (g := g) (len := len) (p := pB g len p + 3) (q := q1) (c := 40) hl (by omega) s10 (by rw [hb2]; exact c40) (by omega) (by decide) (by decide) (by decide)
            rw [hb2] at tk2 b2l
            obtain ⟨yy, hy0⟩ : ∃ yy, zTok g len q1 = yy := ⟨_, rfl⟩
            rw [hy0] at tk2
            obtain ⟨v1, v2, v3, v4⟩ := tk2
            have y9 : yy 9 = 1 := by rw [v4 9 (by decide) (by decide) (by decide) (by decide), s9]
            have y6 : yy 6 = nI (dep S + 1) := by rw [v4 6 (by decide) (by decide) (by decide) (by decide), s6]
            have y5 : yy 5 + 1 = nI (lvl S + 1) := by rw [v4 5 (by decide) (by decide) (by decide) (by decide), s5, nI_1]
            have hB3 : bTake (yy, (upd st.2.1.1 u k, upd st.2.1.2.1 u (-1), upd st.2.1.2.2.1 u (-1), u + 1), st.2.2) = (true, (upd (upd (yy) 5 (nI (lvl S + 1))) 9 0, (upd st.2.1.1 u k, upd st.2.1.2.1 u (-1), upd st.2.1.2.2.1 u (-1), u + 1), upd st.2.2.1 (lvl S + 1) (nI (u + 1)), upd st.2.2.2.1 (lvl S + 1) (nI (u + 1)), upd st.2.2.2.2 (lvl S + 1) (nI (dep S + 1)))) := by
              refine (bTake_1 (st := (yy, (upd st.2.1.1 u k, upd st.2.1.2.1 u (-1), upd st.2.1.2.2.1 u (-1), u + 1), st.2.2)) y9).trans ?_
              rw [if_pos (show (yy, (upd st.2.1.1 u k, upd st.2.1.2.1 u (-1), upd st.2.1.2.2.1 u (-1), u + 1), st.2.2).1 11 = 40 from v1)]
              have := bBeg_y (st := (yy, (upd st.2.1.1 u k, upd st.2.1.2.1 u (-1), upd st.2.1.2.2.1 u (-1), u + 1), st.2.2)) (L := lvl S + 1) (u := u + 1) y5 (by omega) rfl
              rw [show (yy, (upd st.2.1.1 u k, upd st.2.1.2.1 u (-1), upd st.2.1.2.2.1 u (-1), u + 1), st.2.2).1 6 = nI (dep S + 1) from y6] at this
              exact this
            have r2 := bRun_tz (n := m) (zz := yy) (st := (q1, (upd st.2.1.1 u k, upd st.2.1.2.1 u (-1), upd st.2.1.2.2.1 u (-1), u + 1), st.2.2)) hy0 hB3 (by show ¬ upd (upd (yy) 5 (nI (lvl S + 1))) 9 0 11 = 0; rw [upd_ne (by decide), upd_ne (by decide), v1]; decide)
            have X' : lqX (upd st.2.1.1 u k, upd st.2.1.2.1 u (-1), upd st.2.1.2.2.1 u (-1), u + 1) (va_up π u u) (sI 25 (nI b2 + 1) (sI 25 (nI b2) μ2)) = LQapp (lqX st.2.1 π μ) u k (-1) := by
              show (_, _, _, _, μ2.2.1 20, μ2.2.1 21, μ2.2.1 22, μ2.2.1 23) = _
              rw [a3, sI_2, sI_2, sI_2, sI_2, sA_ne (by decide), sA_ne (by decide), sA_ne (by decide), sA_ne (by decide), sA_ne (by decide), sA_ne (by decide), sA_ne (by decide), sA_ne (by decide), sI_2, sI_2, sI_2, sI_2, n20, n21, n22, n23]
              rfl
            obtain ⟨y1, y2⟩ := rel_node (X := lqX st.2.1 π μ) (S := S) (u := u) (t := 3) (k := k) hch hπ X' (Or.inr ⟨rfl, by rcases hwk with y | y; exact Or.inl y.2.1; exact Or.inr y.2.1⟩)
            have lv4 : lvl ((3, u) :: S) = lvl S + 1 := by show lvl S + (if 3 ≤ 3 then 1 else 0) = _; rw [if_pos (by decide)]
            have dp4 : dep ((3, u) :: S) = dep S + 1 := by show dep S + (if 2 ≤ 3 then 1 else 0) = _; rw [if_pos (by decide)]
            right; left
            refine ⟨m, _, _, (3, u) :: S, va_up π u u, u + 1, rfl, r1.trans r2, ⟨⟨?_, ?_, by omega, rfl, pinj_app hπ, y1, shp_c hsh (fun z => absurd z (by decide)) (fun z => absurd z (by decide)) (by decide), ?_, ?_, ?_, ?_, ?_, ?_, ?_, ?_, ?_⟩, ?_, ?_, ?_, ?_, b2 + 1, b2 + 1, ?_, by omega, by omega, by rw [sI_at, nI_1], by omega, rfl, c0, bk_2 (bk_cg (by omega) hbk hch y2) (Or.inr rfl), by
              have n4 : nc k (-1) = 4 := by rcases hwk with y | y <;> rw [y.2.1] <;> rfl
              show sN (upd st.2.1.1 u k) (upd st.2.1.2.1 u (-1)) (u + 1) + c0 ≤ b2 + 1
              rw [sN_app, n4]
              omega⟩, by omega, dp4, by omega⟩
            · rw [sI_ne (by decide), sI_ne (by decide), w27]
            · rw [sI_ne (by decide), sI_ne (by decide), a3, sI_ne (by decide), sA_1, sA_1, sI_ne (by decide), n24]
            · rw [dp4]; omega
            · rw [sI_ne (by decide), sI_ne (by decide), a3, sI_ne (by decide), sA_1, sA_1, sI_at, dp4]
            · rw [sI_ne (by decide), sI_ne (by decide), a3, sI_at]; rfl
            · have e28 : (sI 25 (nI b2 + 1) (sI 25 (nI b2) μ2)).2.1 28 = upd (μ.2.1 28) S.length (nI 3) := by rw [sI_2, sI_2, a3, sI_2, sA_ne (by decide), sA_at, sI_2, nar 28 (by decide) (by decide) (by decide) (by decide), sI_2]; rfl
              have e29 : (sI 25 (nI b2 + 1) (sI 25 (nI b2) μ2)).2.1 29 = upd (μ.2.1 29) S.length (nI u) := by rw [sI_2, sI_2, a3, sI_2, sA_at, sA_ne (by decide), sI_2, nar 29 (by decide) (by decide) (by decide) (by decide), sI_2]
              rw [e28, e29]
              refine opn_push hop (fun r hr z => (y2 r.2 ((chn_le hch r hr).2 z)).2.2.2.1.symm) (shp_4 hsh) ?_
              rw [if_neg (by decide)]
              show nI u = nI (va_up π u u u)
              rw [va_up_self]
            · show upd (upd (yy) 5 (nI (lvl S + 1))) 9 0 5 = _
              rw [upd_ne (by decide), upd_at, lv4]
            · refine ⟨rgs_cg hrg (fun j hj => ⟨upd_ne (by omega), upd_ne (by omega), upd_ne (by omega)⟩), fun _ => ?_⟩
              show upd st.2.2.1 (lvl S + 1) (nI (u + 1)) (lvl S) = _ ∧ upd st.2.2.2.1 (lvl S + 1) (nI (u + 1)) (lvl S) = _ ∧ upd st.2.2.2.2 (lvl S + 1) (nI (dep S + 1)) (lvl S) = _
              rw [upd_ne (by omega), upd_ne (by omega), upd_ne (by omega)]
              exact ⟨hrs, has, hds⟩
            · rw [lv4]; exact upd_at
            · rw [lv4]; exact upd_at
            · rw [lv4]; exact upd_at
            · rw [sI_2, sI_2]; exact w1
            · rw [sI_ne (by decide), sI_ne (by decide)]; exact w2
            · show upd (upd yy 5 (nI (lvl S + 1))) 9 0 9 = 0; exact upd_at
            · show upd (upd (yy) 5 (nI (lvl S + 1))) 9 0 6 = _
              rw [upd_ne (by decide), upd_ne (by decide), y6, dp4]
            · show upd (upd (yy) 5 (nI (lvl S + 1))) 9 0 10 = _
              rw [upd_ne (by decide), upd_ne (by decide), v3]
          · rw [if_neg c40, fail_eq]
            left
            refine ⟨b2, b2 + 1, _, rfl, by omega, by omega, ?_, ?_, ?_, ?_⟩
            · rw [sI_ne (by decide), mFail_w, sI_ne (by decide), w27, if_neg (by decide)]
            · rw [sI_at, mFail_1 (by decide), sI_at, nI_1]
            · rw [sI_ne (by decide), mFail_1 (by decide), sI_ne (by decide), w2]
            · obtain ⟨tc, e, tk2, hcs⟩ := tk_any (g := g) (len := len) (p := pB g len p + 3) (q := q1) hl (by omega) s10 hg
              rw [hb2] at tk2 hcs
              obtain ⟨yy, hy0⟩ : ∃ yy, zTok g len q1 = yy := ⟨_, rfl⟩
              rw [hy0] at tk2
              have hno : ¬ tc = 40 := by
                rcases hcs with ⟨x1, x2, x3, x4, x5⟩ | ⟨x1, x2, x3, x4⟩
                · intro z
                  rw [sgv_p (by omega) (by omega), if_pos x1] at c40
                  exact c40 (by rw [← x4]; exact z)
                · intro z; rw [z] at x2; exact absurd x2 (by decide)
              have y9 : yy 9 = 1 := by rw [tk2.2.2.2 9 (by decide) (by decide) (by decide) (by decide), s9]
              rw [r1]
              have hB3 : bTake (yy, (upd st.2.1.1 u k, upd st.2.1.2.1 u (-1), upd st.2.1.2.2.1 u (-1), u + 1), st.2.2) = (false, (yy, (upd st.2.1.1 u k, upd st.2.1.2.1 u (-1), upd st.2.1.2.2.1 u (-1), u + 1), st.2.2)) := by
                refine (bTake_1 (st := (yy, (upd st.2.1.1 u k, upd st.2.1.2.1 u (-1), upd st.2.1.2.2.1 u (-1), u + 1), st.2.2)) y9).trans ?_
                rw [if_neg (show ¬ (yy, (upd st.2.1.1 u k, upd st.2.1.2.1 u (-1), upd st.2.1.2.2.1 u (-1), u + 1), st.2.2).1 11 = 40 from fun z => hno (tk2.1.symm.trans z))]
              exact (bRun_fz (n := m) (zz := yy) (st := (q1, (upd st.2.1.1 u k, upd st.2.1.2.1 u (-1), upd st.2.1.2.2.1 u (-1), u + 1), st.2.2)) hy0 hB3).trans tk2.2.1
        · rw [a2, if_pos (nI_pos' (by omega))]
          left
          refine ⟨pB g len p, pB g len p + 4, _, rfl, by omega, by omega, ?_, ?_, ?_, ?_⟩
          · rw [sI_ne (by decide), sI_ne (by decide)]; exact a2
          · rw [sI_at, a3, show (3 : Int32) = nI 3 from rfl, nI_add, nI_1]
          · rw [sI_ne (by decide), sI_ne (by decide), a4]; exact m2
          · by_cases hd10 : dep S < 10
            · have z6' : upd (zz) 9 1 6 < 10 := by rw [upd_ne (by decide), z6]; exact nI_lt (b := 10) hd10 (by decide)
              have hB2 : bTake (zz, st.2) = (false, (upd (upd (zz) 9 1) 6 (upd (zz) 9 1 6 + 1), st.2.1, st.2.2)) := by
                rw [hB, bGo_y (st := (upd (zz) 9 1, st.2)) z6', bAnd_y]
                show bTr (tApp k (-1) st.2.1) (upd (upd (zz) 9 1) 6 (upd (zz) 9 1 6 + 1), st.2) = _
                rw [tApp_n hu (fun z => a1 ⟨z, hd10⟩)]
                rfl
              refine (bRun_fz (n := m + 1) hz0 hB2).trans ?_
              show upd (upd (zz) 9 1) 6 (upd (zz) 9 1 6 + 1) 12 = _
              rw [upd_ne (by decide), upd_ne (by decide), t2]
            · have z6' : ¬ upd (zz) 9 1 6 < 10 := by rw [upd_ne (by decide), z6]; exact nI_nlt (b := 10) (by omega) (by omega)
              have hB2 : bTake (zz, st.2) = (false, (upd (zz) 9 1, st.2)) := by
                rw [hB, bGo_n (st := (upd (zz) 9 1, st.2)) z6', bAnd_n]
              refine (bRun_fz (n := m + 1) hz0 hB2).trans ?_
              show upd (zz) 9 1 12 = _
              rw [upd_ne (by decide), t2]
  · rw [if_neg hlt] at sg
    rw [sg, if_pos rfl, if_neg (by decide), if_neg (by decide)]
    exact Or.inr (Or.inr ⟨p, hp1, hp2, fun z => absurd z hlt, rfl⟩)
