/-! trees: the class's rows (kinds, values, rights by place) and the reference's nodes (by number), tied by a numbering -/
/-- K V R of the class; the numbering; kind, told, left, right of the reference -/
abbrev LQ : Type := (Nat → Int32) × (Nat → Int32) × (Nat → Int32) × (Nat → Nat) × (Nat → Int32) × (Nat → Int32) × (Nat → Int32) × (Nat → Int32)
abbrev LQ.K (X : LQ) : Nat → Int32 := X.1
abbrev LQ.V (X : LQ) : Nat → Int32 := X.2.1
abbrev LQ.R (X : LQ) : Nat → Int32 := X.2.2.1
abbrev LQ.n (X : LQ) : Nat → Nat := X.2.2.2.1
abbrev LQ.mk (X : LQ) : Nat → Int32 := X.2.2.2.2.1
abbrev LQ.mt (X : LQ) : Nat → Int32 := X.2.2.2.2.2.1
abbrev LQ.ml (X : LQ) : Nat → Int32 := X.2.2.2.2.2.2.1
abbrev LQ.mr (X : LQ) : Nat → Int32 := X.2.2.2.2.2.2.2
def lf (k v : Int32) : Prop := (k = 11 ∧ ¬ v < 0 ∧ v ≤ 9999999) ∨ ((k = 12 ∨ k = 13 ∨ k = 14) ∧ ¬ v < 0 ∧ v < 20)
def un (k : Int32) : Prop := k = 2 ∨ k = 3 ∨ k = 4
def bi (k : Int32) : Prop := k = 0 ∨ k = 1 ∨ k = 5 ∨ k = 6 ∨ k = 7 ∨ k = 8 ∨ k = 9 ∨ k = 10
/-- a tree of a kind (true: a rule, false: a sum) at places a .. b-1 -/
def tr (X : LQ) : Nat → Bool → Nat → Nat → Prop
  | 0, _, _, _ => False
  | n + 1, ty, a, b => a < b ∧ LQ.mk X (LQ.n X a) = LQ.K X a ∧ LQ.mt X (LQ.n X a) = LQ.V X a ∧ ty = decide (LQ.K X a ≤ 8) ∧
    ((lf (LQ.K X a) (LQ.V X a) ∧ b = a + 1 ∧ LQ.R X a = -1 ∧ LQ.ml X (LQ.n X a) = -1 ∧ LQ.mr X (LQ.n X a) = -1)
    ∨ (un (LQ.K X a) ∧ LQ.R X a = -1 ∧ LQ.ml X (LQ.n X a) = nI (LQ.n X (a + 1)) ∧ LQ.mr X (LQ.n X a) = -1 ∧ tr X n true (a + 1) b)
    ∨ (bi (LQ.K X a) ∧ ∃ c, LQ.R X a = nI c ∧ LQ.ml X (LQ.n X a) = nI (LQ.n X (a + 1)) ∧ LQ.mr X (LQ.n X a) = nI (LQ.n X c) ∧ tr X n (decide (LQ.K X a ≤ 4)) (a + 1) c ∧ tr X n (decide (LQ.K X a ≤ 4)) c b ∧ (8 < LQ.K X a → b = c + 1)))
theorem tr_lt {X : LQ} : ∀ {n : Nat} {ty : Bool} {a b : Nat}, tr X n ty a b → a < b
  | 0, _, _, _, h => h.elim
  | _ + 1, _, _, _, h => h.1
theorem tr_up {X : LQ} : ∀ {n : Nat} {ty : Bool} {a b : Nat}, tr X n ty a b → tr X (n + 1) ty a b
  | 0, _, _, _, h => h.elim
  | n + 1, ty, a, b, h => by
    obtain ⟨h1, h2, h3, h4, h5⟩ := h
    refine ⟨h1, h2, h3, h4, ?_⟩
    rcases h5 with q | ⟨q1, q2, q3, q4, q5⟩ | ⟨q1, c, q2, q3, q4, q5, q6, q7⟩
    · exact Or.inl q
    · exact Or.inr (Or.inl ⟨q1, q2, q3, q4, tr_up q5⟩)
    · exact Or.inr (Or.inr ⟨q1, c, q2, q3, q4, tr_up q5, tr_up q6, q7⟩)
theorem tr_le {X : LQ} {n m : Nat} {ty : Bool} {a b : Nat} (h : tr X n ty a b) (hm : n ≤ m) : tr X m ty a b := by
  induction hm with
  | refl => exact h
  | step _ ih => exact tr_up ih
/-- two that agree at a place -/
def lsa (X Y : LQ) (j : Nat) : Prop := LQ.K X j = LQ.K Y j ∧ LQ.V X j = LQ.V Y j ∧ LQ.R X j = LQ.R Y j ∧ LQ.n X j = LQ.n Y j ∧ LQ.mk X (LQ.n X j) = LQ.mk Y (LQ.n X j) ∧ LQ.mt X (LQ.n X j) = LQ.mt Y (LQ.n X j) ∧ LQ.ml X (LQ.n X j) = LQ.ml Y (LQ.n X j) ∧ LQ.mr X (LQ.n X j) = LQ.mr Y (LQ.n X j)
theorem tr_cg {X Y : LQ} : ∀ {n : Nat} {ty : Bool} {a b : Nat}, tr X n ty a b → (∀ j, a ≤ j → j < b → lsa X Y j) → tr Y n ty a b
  | 0, _, _, _, h, _ => h.elim
  | n + 1, ty, a, b, h, hj => by
    obtain ⟨h1, h2, h3, h4, h5⟩ := h
    obtain ⟨e1, e2, e3, e4, e5, e6, e7, e8⟩ := hj a (Nat.le_refl _) h1
    refine ⟨h1, by rw [← e4, ← e5, h2, e1], by rw [← e4, ← e6, h3, e2], by rw [← e1]; exact h4, ?_⟩
    rcases h5 with ⟨q1, q2, q3, q4, q5⟩ | ⟨q1, q2, q3, q4, q5⟩ | ⟨q1, c, q2, q3, q4, q5, q6, q7⟩
    · exact Or.inl ⟨by rw [← e1, ← e2]; exact q1, q2, by rw [← e3]; exact q3, by rw [← e4, ← e7]; exact q4, by rw [← e4, ← e8]; exact q5⟩
    · have l := tr_lt q5
      exact Or.inr (Or.inl ⟨by rw [← e1]; exact q1, by rw [← e3]; exact q2, by rw [← e4, ← e7, q3, (hj (a + 1) (by omega) (by omega)).2.2.2.1], by rw [← e4, ← e8]; exact q4, tr_cg q5 (fun j x y => hj j (by omega) y)⟩)
    · have l := tr_lt q5
      have l2 := tr_lt q6
      exact Or.inr (Or.inr ⟨by rw [← e1]; exact q1, c, by rw [← e3]; exact q2, by rw [← e4, ← e7, q3, (hj (a + 1) (by omega) (by omega)).2.2.2.1], by rw [← e4, ← e8, q4, (hj c (by omega) (by omega)).2.2.2.1], by rw [← e1]; exact tr_cg q5 (fun j x y => hj j (by omega) (by omega)), by rw [← e1]; exact tr_cg q6 (fun j x y => hj j (by omega) y), by rw [← e1]; exact q7⟩)
/-- Y at j + 1 is X at j, moved by one -/
def lss (X Y : LQ) (j : Nat) : Prop := LQ.K X j = LQ.K Y (j + 1) ∧ LQ.V X j = LQ.V Y (j + 1) ∧ LQ.R Y (j + 1) = (if LQ.R X j = -1 then -1 else LQ.R X j + 1) ∧ LQ.n X j = LQ.n Y (j + 1) ∧ LQ.mk X (LQ.n X j) = LQ.mk Y (LQ.n X j) ∧ LQ.mt X (LQ.n X j) = LQ.mt Y (LQ.n X j) ∧ LQ.ml X (LQ.n X j) = LQ.ml Y (LQ.n X j) ∧ LQ.mr X (LQ.n X j) = LQ.mr Y (LQ.n X j)
theorem nI_m1 {c : Nat} (h : c < 2 ^ 31) : ¬ nI c = -1 := fun e => nI_pos h (by rw [e]; decide)
theorem tr_sh {X Y : LQ} : ∀ {n : Nat} {ty : Bool} {a b : Nat}, b < 2 ^ 31 → tr X n ty a b → (∀ j, a ≤ j → j < b → lss X Y j) → tr Y n ty (a + 1) (b + 1)
  | 0, _, _, _, _, h, _ => h.elim
  | n + 1, ty, a, b, hb, h, hj => by
    obtain ⟨h1, h2, h3, h4, h5⟩ := h
    obtain ⟨e1, e2, e3, e4, e5, e6, e7, e8⟩ := hj a (Nat.le_refl _) h1
    refine ⟨by omega, by rw [← e4, ← e5, h2, e1], by rw [← e4, ← e6, h3, e2], by rw [← e1]; exact h4, ?_⟩
    rcases h5 with ⟨q1, q2, q3, q4, q5⟩ | ⟨q1, q2, q3, q4, q5⟩ | ⟨q1, c, q2, q3, q4, q5, q6, q7⟩
    · exact Or.inl ⟨by rw [← e1, ← e2]; exact q1, by omega, by rw [e3, if_pos q3], by rw [← e4, ← e7]; exact q4, by rw [← e4, ← e8]; exact q5⟩
    · have l := tr_lt q5
      exact Or.inr (Or.inl ⟨by rw [← e1]; exact q1, by rw [e3, if_pos q2], by rw [← e4, ← e7, q3, (hj (a + 1) (by omega) (by omega)).2.2.2.1], by rw [← e4, ← e8]; exact q4, tr_sh hb q5 (fun j x y => hj j (by omega) y)⟩)
    · have l := tr_lt q5
      have l2 := tr_lt q6
      exact Or.inr (Or.inr ⟨by rw [← e1]; exact q1, c + 1, by rw [e3, q2, if_neg (nI_m1 (by omega)), nI_1], by rw [← e4, ← e7, q3, (hj (a + 1) (by omega) (by omega)).2.2.2.1], by rw [← e4, ← e8, q4, (hj c (by omega) (by omega)).2.2.2.1], by rw [← e1]; exact tr_sh (by omega) q5 (fun j x y => hj j (by omega) (by omega)), by rw [← e1]; exact tr_sh hb q6 (fun j x y => hj j (by omega) y), by rw [← e1]; exact fun z => by have := q7 z; omega⟩)
