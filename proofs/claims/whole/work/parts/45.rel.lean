/-! the readers side by side: what is open -/
/-- what is open, the latest first: tag (0 or, 1 and, 2 not, 3 all or any, 4 bracket) and place -/
abbrev SK : Type := List (Nat × Nat)
def tp : SK → Nat
  | [] => 9
  | q :: _ => q.1
def dep : SK → Nat
  | [] => 0
  | q :: S => dep S + (if 2 ≤ q.1 then 1 else 0)
def lvl : SK → Nat
  | [] => 0
  | q :: S => lvl S + (if 3 ≤ q.1 then 1 else 0)
/-- where the rule and where the and-row of the level begin; how deep the level is -/
def lst : SK → Nat → Nat
  | [], s => s
  | q :: S, s => if 3 ≤ q.1 then s else lst S q.2
def ast : SK → Nat → Nat
  | [], s => s
  | q :: S, s => if 3 ≤ q.1 then s else if q.1 = 0 then s else ast S q.2
def dlv : SK → Nat
  | [] => 0
  | q :: S => if 3 ≤ q.1 then dep S + 1 else dlv S
def shp : SK → Prop
  | [] => True
  | q :: S => shp S ∧ (q.1 = 0 → 3 ≤ tp S) ∧ (q.1 = 1 → tp S = 0 ∨ 3 ≤ tp S) ∧ q.1 ≤ 4
/-- the registers of the levels below -/
def rgs (rs as ds : Nat → Int32) : SK → Prop
  | [] => True
  | q :: S => rgs rs as ds S ∧ (3 ≤ q.1 → rs (lvl S) = nI (lst S q.2) ∧ as (lvl S) = nI (ast S q.2) ∧ ds (lvl S) = nI (dlv S))
def nd (X : LQ) (p : Nat) (k : Int32) : Prop := LQ.K X p = k ∧ LQ.V X p = -1 ∧ LQ.mk X (LQ.n X p) = k ∧ LQ.mt X (LQ.n X p) = -1
/-- the places 0 .. s-1 are those of what is open, one behind the other -/
def chn (X : LQ) : SK → Nat → Prop
  | [], s => s = 0
  | q :: S, s => chn X S q.2 ∧
    ((q.1 ≤ 1 ∧ q.2 < s ∧ nd X q.2 (nI q.1) ∧ LQ.R X q.2 = nI s ∧ LQ.ml X (LQ.n X q.2) = nI (LQ.n X (q.2 + 1)) ∧ LQ.mr X (LQ.n X q.2) = -1 ∧ ∃ n, tr X n true (q.2 + 1) s)
    ∨ ((q.1 = 2 ∨ q.1 = 3) ∧ s = q.2 + 1 ∧ (q.1 = 2 → nd X q.2 2) ∧ (q.1 = 3 → nd X q.2 3 ∨ nd X q.2 4) ∧ LQ.R X q.2 = -1 ∧ LQ.ml X (LQ.n X q.2) = -1 ∧ LQ.mr X (LQ.n X q.2) = -1)
    ∨ (q.1 = 4 ∧ s = q.2))
/-- the reference's stack -/
def opn (X : LQ) (ok on : Nat → Int32) : SK → Prop
  | [] => True
  | q :: S => opn X ok on S ∧ ok S.length = nI q.1 ∧ on S.length = (if q.1 = 4 then -1 else nI (LQ.n X q.2))
theorem chn_le {X : LQ} : ∀ {S : SK} {s : Nat}, chn X S s → ∀ q ∈ S, q.2 ≤ s ∧ (q.1 ≤ 3 → q.2 < s)
  | [], _, _, q, hq => absurd hq List.not_mem_nil
  | r :: S, s, h, q, hq => by
    obtain ⟨h1, h2⟩ := h
    have hr : r.2 ≤ s ∧ (r.1 ≤ 3 → r.2 < s) := by
      rcases h2 with h2 | h2 | h2
      · exact ⟨by omega, fun _ => h2.2.1⟩
      · exact ⟨by omega, fun _ => by omega⟩
      · exact ⟨by omega, fun z => by omega⟩
    rcases List.mem_cons.mp hq with rfl | hq
    · exact hr
    · have := chn_le h1 q hq
      exact ⟨by omega, fun z => by have := this.2 z; omega⟩
theorem chn_cg {X Y : LQ} : ∀ {S : SK} {s : Nat}, chn X S s → (∀ j, j < s → lsa X Y j) → chn Y S s
  | [], _, h, _ => h
  | q :: S, s, h, hj => by
    obtain ⟨h1, h2⟩ := h
    refine ⟨chn_cg h1 (fun j hj' => hj j (by rcases h2 with h2 | h2 | h2 <;> omega)), ?_⟩
    rcases h2 with ⟨a1, a2, a3, a4, a5, a6, n, a7⟩ | ⟨a1, a2, a3, a4, a5, a6, a7⟩ | a
    · obtain ⟨e1, e2, e3, e4, e5, e6, e7, e8⟩ := hj q.2 a2
      have l := tr_lt a7
      exact Or.inl ⟨a1, a2, ⟨by rw [← e1]; exact a3.1, by rw [← e2]; exact a3.2.1, by rw [← e4, ← e5]; exact a3.2.2.1, by rw [← e4, ← e6]; exact a3.2.2.2⟩, by rw [← e3]; exact a4, by rw [← e4, ← e7, a5, (hj (q.2 + 1) (by omega)).2.2.2.1], by rw [← e4, ← e8]; exact a6, n, tr_cg a7 (fun j x y => hj j y)⟩
    · obtain ⟨e1, e2, e3, e4, e5, e6, e7, e8⟩ := hj q.2 (by omega)
      have k : ∀ c, nd X q.2 c → nd Y q.2 c := fun c z => ⟨by rw [← e1]; exact z.1, by rw [← e2]; exact z.2.1, by rw [← e4, ← e5]; exact z.2.2.1, by rw [← e4, ← e6]; exact z.2.2.2⟩
      exact Or.inr (Or.inl ⟨a1, a2, fun z => k _ (a3 z), fun z => (a4 z).elim (fun w => Or.inl (k _ w)) (fun w => Or.inr (k _ w)), by rw [← e3]; exact a5, by rw [← e4, ← e7]; exact a6, by rw [← e4, ← e8]; exact a7⟩)
    · exact Or.inr (Or.inr a)
theorem opn_cg {X Y : LQ} {ok on ok' on' : Nat → Int32} : ∀ {S : SK}, opn X ok on S → (∀ j, j < S.length → ok' j = ok j ∧ on' j = on j) → (∀ q ∈ S, q.1 ≤ 3 → LQ.n Y q.2 = LQ.n X q.2) → (∀ q ∈ S, q.1 ≤ 4) → opn Y ok' on' S
  | [], _, _, _, _ => trivial
  | q :: S, h, h1, h2, h4 => by
    obtain ⟨a1, a2, a3⟩ := h
    have l : S.length < (q :: S).length := by simp
    refine ⟨opn_cg a1 (fun j hj => h1 j (by simp; omega)) (fun r hr => h2 r (List.mem_cons_of_mem _ hr)) (fun r hr => h4 r (List.mem_cons_of_mem _ hr)), by rw [(h1 _ l).1]; exact a2, ?_⟩
    rw [(h1 _ l).2, a3]
    by_cases c : q.1 = 4
    · rw [if_pos c, if_pos c]
    · rw [if_neg c, if_neg c, h2 q List.mem_cons_self (by have := h4 q List.mem_cons_self; omega)]
theorem shp_4 : ∀ {S : SK}, shp S → ∀ q ∈ S, q.1 ≤ 4
  | [], _, q, hq => absurd hq List.not_mem_nil
  | r :: S, h, q, hq => by
    rcases List.mem_cons.mp hq with rfl | hq
    · exact h.2.2.2
    · exact shp_4 h.1 q hq
theorem shp_len : ∀ {S : SK}, shp S → S.length ≤ 3 * dep S + (if tp S = 1 then 2 else if tp S = 0 then 1 else 0)
  | [], _ => by simp
  | q :: S, h => by
    obtain ⟨h1, h2, h3, h4⟩ := h
    have ih := shp_len h1
    rw [List.length_cons, dep, tp]
    by_cases c : 2 ≤ q.1
    · rw [if_pos c, if_neg (by omega), if_neg (by omega)]
      split at ih <;> (try split at ih) <;> omega
    · rw [if_neg c]
      by_cases c1 : q.1 = 1
      · rw [if_pos c1]
        rcases h3 c1 with z | z
        · rw [if_neg (by omega), if_pos z] at ih; omega
        · rw [if_neg (by omega), if_neg (by omega)] at ih; omega
      · rw [if_neg c1, if_pos (by omega)]
        have z := h2 (by omega)
        rw [if_neg (by omega), if_neg (by omega)] at ih
        omega
theorem lvl_dep : ∀ S : SK, lvl S ≤ dep S
  | [] => Nat.le_refl _
  | q :: S => by
    have := lvl_dep S
    rw [lvl, dep]
    by_cases c : 3 ≤ q.1
    · rw [if_pos c, if_pos (by omega)]; omega
    · rw [if_neg c]; split <;> omega
theorem rgs_cg {rs as ds rs' as' ds' : Nat → Int32} : ∀ {S : SK}, rgs rs as ds S → (∀ j, j < lvl S → rs' j = rs j ∧ as' j = as j ∧ ds' j = ds j) → rgs rs' as' ds' S
  | [], _, _ => trivial
  | q :: S, h, hj => by
    have hl : lvl S ≤ lvl (q :: S) := by rw [lvl]; omega
    refine ⟨rgs_cg h.1 (fun j z => hj j (by omega)), fun c => ?_⟩
    have z := hj (lvl S) (by rw [lvl, if_pos c]; omega)
    rw [z.1, z.2.1, z.2.2]
    exact h.2 c
/-- a new node u at the end -/
theorem lsa_app {K V R mk mt ml mr : Nat → Int32} {π : Nat → Nat} {u : Nat} {k v a b c d e : Int32} (hπ : ∀ j, j < u → π j < u) : ∀ j, j < u → lsa (K, V, R, π, mk, mt, ml, mr) (upd K u k, upd V u v, upd R u a, va_up π u u, upd mk u b, upd mt u c, upd ml u d, upd mr u e) j := by
  intro j hj
  have h1 := hπ j hj
  have n1 : j ≠ u := by omega
  have n2 : π j ≠ u := by omega
  refine ⟨?_, ?_, ?_, ?_, ?_, ?_, ?_, ?_⟩ <;> simp [LQ.K, LQ.V, LQ.R, LQ.n, LQ.mk, LQ.mt, LQ.ml, LQ.mr, upd, va_up, n1, n2]
