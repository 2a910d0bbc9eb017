/-! what the readers do to the trees -/
def lqX (ts : TSt) (π : Nat → Nat) (μ : MS) : LQ := (ts.1, ts.2.1, ts.2.2.1, π, μ.2.1 20, μ.2.1 21, μ.2.1 22, μ.2.1 23)
def pinj (π : Nat → Nat) (u : Nat) : Prop := (∀ j, j < u → π j < u) ∧ ∀ i j, i < u → j < u → π i = π j → i = j
/-- the numbering behind an insertion at s of the node u -/
def insP (π : Nat → Nat) (s u : Nat) : Nat → Nat := fun j => if j < s then π j else if j = s then u else π (j - 1)
theorem pinj_app {π : Nat → Nat} {u : Nat} (h : pinj π u) : pinj (va_up π u u) (u + 1) := by
  refine ⟨fun j hj => ?_, fun i j hi hj e => ?_⟩
  · by_cases c : j = u
    · subst c; rw [va_up_self]; omega
    · rw [va_up_ne _ _ c]; have := h.1 j (by omega); omega
  · by_cases ci : i = u
    · subst ci
      by_cases cj : j = i
      · exact cj.symm
      · rw [va_up_self, va_up_ne _ _ cj] at e
        have := h.1 j (by omega)
        omega
    · by_cases cj : j = u
      · subst cj
        rw [va_up_self, va_up_ne _ _ ci] at e
        have := h.1 i (by omega)
        omega
      · rw [va_up_ne _ _ ci, va_up_ne _ _ cj] at e
        exact h.2 i j (by omega) (by omega) e
theorem insP_lt {π : Nat → Nat} {s u j : Nat} (h : j < s) : insP π s u j = π j := if_pos h
theorem insP_at {π : Nat → Nat} {s u : Nat} : insP π s u s = u := by rw [insP, if_neg (Nat.lt_irrefl _), if_pos rfl]
theorem insP_gt {π : Nat → Nat} {s u j : Nat} (h : s ≤ j) : insP π s u (j + 1) = π j := by rw [insP, if_neg (by omega), if_neg (by omega), Nat.add_sub_cancel]
theorem pinj_ins {π : Nat → Nat} {s u : Nat} (h : pinj π u) (hs : s ≤ u) : pinj (insP π s u) (u + 1) := by
  have val : ∀ j, j < u + 1 → (j < s ∧ insP π s u j = π j) ∨ (j = s ∧ insP π s u j = u) ∨ (s < j ∧ insP π s u j = π (j - 1)) := fun j hj => by
    rcases Nat.lt_trichotomy j s with c | c | c
    · exact Or.inl ⟨c, insP_lt c⟩
    · exact Or.inr (Or.inl ⟨c, by rw [c, insP_at]⟩)
    · exact Or.inr (Or.inr ⟨c, by rw [insP, if_neg (by omega), if_neg (by omega)]⟩)
  refine ⟨fun j hj => ?_, fun i j hi hj e => ?_⟩
  · rcases val j hj with ⟨c, q⟩ | ⟨c, q⟩ | ⟨c, q⟩
    · rw [q]; have := h.1 j (by omega); omega
    · rw [q]; omega
    · rw [q]; have := h.1 (j - 1) (by omega); omega
  · rcases val i hi with ⟨c, q⟩ | ⟨c, q⟩ | ⟨c, q⟩ <;> rcases val j hj with ⟨d, r⟩ | ⟨d, r⟩ | ⟨d, r⟩ <;> rw [q, r] at e
    · exact h.2 i j (by omega) (by omega) e
    · have := h.1 i (by omega); omega
    · have := h.2 i (j - 1) (by omega) (by omega) e; omega
    · have := h.1 j (by omega); omega
    · omega
    · have := h.1 (j - 1) (by omega); omega
    · have := h.2 (i - 1) j (by omega) (by omega) e; omega
    · have := h.1 (i - 1) (by omega); omega
    · have := h.2 (i - 1) (j - 1) (by omega) (by omega) e; omega
def LQapp (X : LQ) (u : Nat) (k v : Int32) : LQ := (upd (LQ.K X) u k, upd (LQ.V X) u v, upd (LQ.R X) u (-1), va_up (LQ.n X) u u, upd (LQ.mk X) u k, upd (LQ.mt X) u v, upd (LQ.ml X) u (-1), upd (LQ.mr X) u (-1))
def LQins (X : LQ) (s u : Nat) (k : Int32) : LQ := (insK (LQ.K X) u s k, insK (LQ.V X) u s (-1), insR (LQ.R X) u s, insP (LQ.n X) s u, upd (LQ.mk X) u k, upd (LQ.mt X) u (-1), upd (LQ.ml X) u (-1), upd (LQ.mr X) u (-1))
def LQlr (X : LQ) (i : Nat) (a b : Int32) : LQ := (LQ.K X, LQ.V X, LQ.R X, LQ.n X, LQ.mk X, LQ.mt X, upd (LQ.ml X) i a, upd (LQ.mr X) i b)
theorem upd_at {f : Nat → Int32} {k : Nat} {x : Int32} : upd f k x k = x := by rw [upd, if_pos rfl]
theorem upd_ne {f : Nat → Int32} {k j : Nat} {x : Int32} (h : j ≠ k) : upd f k x j = f j := by rw [upd, if_neg h]
theorem insK_lt {K : Nat → Int32} {u s j : Nat} {k : Int32} (h : j < s) (hs : s ≤ u) : insK K u s k j = K j := by
  rw [insK, upd_ne (by omega), shK, if_neg (by omega), if_neg (by omega)]
theorem insK_at {K : Nat → Int32} {u s : Nat} {k : Int32} : insK K u s k s = k := upd_at
theorem insK_gt {K : Nat → Int32} {u s j : Nat} {k : Int32} (h : s ≤ j) (hj : j < u) : insK K u s k (j + 1) = K j := by
  rw [insK, upd_ne (by omega), shK, if_pos (by omega), Nat.add_sub_cancel]
theorem insR_lt {R : Nat → Int32} {u s j : Nat} (h : j < s) (hs : s ≤ u) : insR R u s j = R j := by
  rw [insR, upd_ne (by omega), shR, if_neg (by omega), if_neg (by omega)]
theorem insR_at {R : Nat → Int32} {u s : Nat} : insR R u s s = nI (u + 1) := upd_at
theorem insR_gt {R : Nat → Int32} {u s j : Nat} (h : s ≤ j) (hj : j < u) : insR R u s (j + 1) = (if R j = -1 then -1 else R j + 1) := by
  rw [insR, upd_ne (by omega), shR, if_pos (by omega), Nat.add_sub_cancel]
section LQO
variable {X : LQ} {s u : Nat} {k v : Int32}
theorem lsa_rf {j : Nat} : lsa X X j := ⟨rfl, rfl, rfl, rfl, rfl, rfl, rfl, rfl⟩
theorem lsa_tr {Y Z : LQ} {j : Nat} (h : lsa X Y j) (h2 : lsa Y Z j) : lsa X Z j := by
  obtain ⟨a1, a2, a3, a4, a5, a6, a7, a8⟩ := h
  obtain ⟨b1, b2, b3, b4, b5, b6, b7, b8⟩ := h2
  rw [← a4] at b5 b6 b7 b8
  exact ⟨a1.trans b1, a2.trans b2, a3.trans b3, a4.trans b4, a5.trans b5, a6.trans b6, a7.trans b7, a8.trans b8⟩
theorem app_lsa (hπ : pinj (LQ.n X) u) {j : Nat} (hj : j < u) : lsa X (LQapp X u k v) j := by
  have h1 := hπ.1 j hj
  have n1 : j ≠ u := by omega
  have n2 : LQ.n X j ≠ u := by omega
  exact ⟨(upd_ne n1).symm, (upd_ne n1).symm, (upd_ne n1).symm, (va_up_ne _ _ n1).symm, (upd_ne n2).symm, (upd_ne n2).symm, (upd_ne n2).symm, (upd_ne n2).symm⟩
theorem ins_lsa (hπ : pinj (LQ.n X) u) (hs : s ≤ u) {j : Nat} (hj : j < s) : lsa X (LQins X s u k) j := by
  have h1 := hπ.1 j (by omega)
  have n2 : LQ.n X j ≠ u := by omega
  exact ⟨(insK_lt hj hs).symm, (insK_lt hj hs).symm, (insR_lt hj hs).symm, (insP_lt hj).symm, (upd_ne n2).symm, (upd_ne n2).symm, (upd_ne n2).symm, (upd_ne n2).symm⟩
theorem ins_lss (hπ : pinj (LQ.n X) u) {j : Nat} (hj : s ≤ j) (hu : j < u) : lss X (LQins X s u k) j := by
  have h1 := hπ.1 j hu
  have n2 : LQ.n X j ≠ u := by omega
  exact ⟨(insK_gt hj hu).symm, (insK_gt hj hu).symm, insR_gt hj hu, (insP_gt hj).symm, (upd_ne n2).symm, (upd_ne n2).symm, (upd_ne n2).symm, (upd_ne n2).symm⟩
theorem lr_lsa {i j : Nat} {a b : Int32} (h : LQ.n X j ≠ i) : lsa X (LQlr X i a b) j := ⟨rfl, rfl, rfl, rfl, rfl, rfl, (upd_ne h).symm, (upd_ne h).symm⟩
theorem app_leaf (h : lf k v) : tr (LQapp X u k v) 1 false u (u + 1) := by
  have n1 : LQ.n (LQapp X u k v) u = u := va_up_self _ _ _
  have k1 : LQ.K (LQapp X u k v) u = k := upd_at
  have v1 : LQ.V (LQapp X u k v) u = v := upd_at
  refine ⟨by omega, ?_, ?_, ?_, Or.inl ⟨by rw [k1, v1]; exact h, rfl, upd_at, ?_, ?_⟩⟩
  · rw [n1, k1]; exact upd_at
  · rw [n1, v1]; exact upd_at
  · rw [k1]
    rcases h with ⟨rfl, -⟩ | ⟨rfl | rfl | rfl, -⟩ <;> decide
  · rw [n1]; exact upd_at
  · rw [n1]; exact upd_at
/-- an operation over the sum at s, and a term behind it -/
theorem sum_step {n : Nat} {kd : Int32} (hπ : pinj (LQ.n X) u) (hs : s ≤ u) (hu : u < 40) (ht : tr X n false s u) (hk : kd = 9 ∨ kd = 10) (hlf : lf k v) :
    tr (LQlr (LQapp (LQins X s u kd) (u + 1) k v) u (nI (LQ.n X s)) (nI (u + 1))) (n + 1) false s (u + 2) ∧ (∀ j, j < s → lsa X (LQlr (LQapp (LQins X s u kd) (u + 1) k v) u (nI (LQ.n X s)) (nI (u + 1))) j) ∧ pinj (LQ.n (LQlr (LQapp (LQins X s u kd) (u + 1) k v) u (nI (LQ.n X s)) (nI (u + 1)))) (u + 2) ∧ LQ.n (LQlr (LQapp (LQins X s u kd) (u + 1) k v) u (nI (LQ.n X s)) (nI (u + 1))) s = u := by
  have hlt := tr_lt ht
  have p1 : pinj (LQ.n (LQins X s u kd)) (u + 1) := pinj_ins hπ hs
  have p2 : pinj (LQ.n (LQapp (LQins X s u kd) (u + 1) k v)) (u + 2) := pinj_app p1
  have ids : ∀ j, j < u + 2 → j ≠ s → LQ.n (LQapp (LQins X s u kd) (u + 1) k v) j ≠ u := fun j hj hn e => by
    have e2 : LQ.n (LQapp (LQins X s u kd) (u + 1) k v) s = u := by
      show va_up (insP (LQ.n X) s u) (u + 1) (u + 1) s = u
      rw [va_up_ne _ _ (by omega), insP_at]
    exact hn (p2.2 j s hj (by omega) (e.trans e2.symm))
  have ns : LQ.n (LQapp (LQins X s u kd) (u + 1) k v) s = u := by
    show va_up (insP (LQ.n X) s u) (u + 1) (u + 1) s = u
    rw [va_up_ne _ _ (by omega), insP_at]
  have t1 : tr (LQins X s u kd) n false (s + 1) (u + 1) := tr_sh (by omega) ht (fun j a b => ins_lss hπ a b)
  have t2 : tr (LQapp (LQins X s u kd) (u + 1) k v) n false (s + 1) (u + 1) := tr_cg t1 (fun j a b => app_lsa p1 b)
  have t3 : tr (LQlr (LQapp (LQins X s u kd) (u + 1) k v) u (nI (LQ.n X s)) (nI (u + 1))) n false (s + 1) (u + 1) := tr_cg t2 (fun j a b => lr_lsa (ids j (by omega) (by omega)))
  have t4 : tr (LQlr (LQapp (LQins X s u kd) (u + 1) k v) u (nI (LQ.n X s)) (nI (u + 1))) 1 false (u + 1) (u + 2) := tr_cg (app_leaf (X := LQins X s u kd) (u := u + 1) hlf) (fun j a b => lr_lsa (ids j (by omega) (by omega)))
  have n1 : 1 ≤ n := by
    rcases Nat.eq_zero_or_pos n with z | z
    · subst z; exact ht.elim
    · exact z
  have ks : insK (LQ.K X) u s kd s = kd := insK_at
  have hK : LQ.K (LQlr (LQapp (LQins X s u kd) (u + 1) k v) u (nI (LQ.n X s)) (nI (u + 1))) s = kd := by
    show upd (insK (LQ.K X) u s kd) (u + 1) k s = kd
    rw [upd_ne (by omega), insK_at]
  have hV : LQ.V (LQlr (LQapp (LQins X s u kd) (u + 1) k v) u (nI (LQ.n X s)) (nI (u + 1))) s = -1 := by
    show upd (insK (LQ.V X) u s (-1)) (u + 1) v s = -1
    rw [upd_ne (by omega), insK_at]
  have hR : LQ.R (LQlr (LQapp (LQins X s u kd) (u + 1) k v) u (nI (LQ.n X s)) (nI (u + 1))) s = nI (u + 1) := by
    show upd (insR (LQ.R X) u s) (u + 1) (-1) s = _
    rw [upd_ne (by omega), insR_at]
  have hn1 : LQ.n (LQlr (LQapp (LQins X s u kd) (u + 1) k v) u (nI (LQ.n X s)) (nI (u + 1))) (s + 1) = LQ.n X s := by
    show va_up (insP (LQ.n X) s u) (u + 1) (u + 1) (s + 1) = _
    rw [va_up_ne _ _ (by omega), insP_gt (Nat.le_refl _)]
  have hnu : LQ.n (LQlr (LQapp (LQins X s u kd) (u + 1) k v) u (nI (LQ.n X s)) (nI (u + 1))) (u + 1) = u + 1 := by
    show va_up (insP (LQ.n X) s u) (u + 1) (u + 1) (u + 1) = _
    rw [va_up_self]
  have kd9 : decide (kd ≤ 8) = false ∧ decide (kd ≤ 4) = false ∧ (8 : Int32) < kd ∧ bi kd := by
    rcases hk with rfl | rfl
    · exact ⟨by decide, by decide, by decide, by simp [bi]⟩
    · exact ⟨by decide, by decide, by decide, by simp [bi]⟩
  refine ⟨⟨by omega, ?_, ?_, ?_, Or.inr (Or.inr ⟨by rw [hK]; exact kd9.2.2.2, u + 1, hR, ?_, ?_, ?_, ?_, fun _ => rfl⟩)⟩, fun j hj => ?_, p2, ns⟩
  · rw [hK]
    show upd (upd (LQ.mk X) u kd) (u + 1) k (LQ.n (LQapp (LQins X s u kd) (u + 1) k v) s) = kd
    rw [ns, upd_ne (by omega), upd_at]
  · rw [hV]
    show upd (upd (LQ.mt X) u (-1)) (u + 1) v (LQ.n (LQapp (LQins X s u kd) (u + 1) k v) s) = -1
    rw [ns, upd_ne (by omega), upd_at]
  · rw [hK, kd9.1]
  · rw [hn1]
    show upd _ u (nI (LQ.n X s)) (LQ.n (LQapp (LQins X s u kd) (u + 1) k v) s) = _
    rw [ns, upd_at]
  · rw [hnu]
    show upd _ u (nI (u + 1)) (LQ.n (LQapp (LQins X s u kd) (u + 1) k v) s) = _
    rw [ns, upd_at]
  · rw [hK, kd9.2.1]; exact t3
  · rw [hK, kd9.2.1]; exact tr_le t4 n1
  · exact lsa_tr (ins_lsa hπ hs hj) (lsa_tr (app_lsa p1 (by omega)) (lr_lsa (ids j (by omega) (by omega))))
end LQO
