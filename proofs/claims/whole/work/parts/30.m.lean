/-! the reference's object: 38 fields, 27 rows -/
/-- ints by field, rows by field, the row of longs -/
abbrev MS : Type := (Nat → Int32) × (Nat → Nat → Int32) × (Nat → Int64)
def sI (k : Nat) (v : Int32) (μ : MS) : MS := (upd μ.1 k v, μ.2)
def sA (k i : Nat) (v : Int32) (μ : MS) : MS := (μ.1, va_up μ.2.1 k (upd (μ.2.1 k) i v), μ.2.2)
def sJ (i : Nat) (v : Int64) (μ : MS) : MS := (μ.1, μ.2.1, vp_updL μ.2.2 i v)
/-- what a field is: 0 ints, 1 booleans, 2 longs, 8 the object, 9 an int; and how long -/
def md (k : Nat) : Nat × Nat := match k with
  | 1 => (0, 200)
  | 6 => (0, 800)
  | 7 => (0, 800)
  | 8 => (0, 800)
  | 9 => (0, 800)
  | 10 => (0, 20)
  | 11 => (0, 20)
  | 12 => (1, 20)
  | 13 => (0, 20)
  | 14 => (0, 20)
  | 15 => (1, 20)
  | 16 => (1, 20)
  | 17 => (1, 20)
  | 18 => (0, 200)
  | 19 => (1, 200)
  | 20 => (0, 40)
  | 21 => (0, 40)
  | 22 => (0, 40)
  | 23 => (0, 40)
  | 28 => (0, 64)
  | 29 => (0, 64)
  | 31 => (2, 400)
  | 32 => (1, 400)
  | 33 => (0, 400)
  | 34 => (0, 64)
  | 35 => (0, 2000)
  | 37 => (0, 400)
  | 38 => (8, 0)
  | _ => (9, 0)
abbrev oMd (A : Nat → Nat) (μ : MS) : List Value := [.int (μ.1 0), .ref (A 1), .int (μ.1 2), .int (μ.1 3), .int (μ.1 4), .int (μ.1 5), .ref (A 6), .ref (A 7), .ref (A 8), .ref (A 9), .ref (A 10), .ref (A 11), .ref (A 12), .ref (A 13), .ref (A 14), .ref (A 15), .ref (A 16), .ref (A 17), .ref (A 18), .ref (A 19), .ref (A 20), .ref (A 21), .ref (A 22), .ref (A 23), .int (μ.1 24), .int (μ.1 25), .int (μ.1 26), .int (μ.1 27), .ref (A 28), .ref (A 29), .int (μ.1 30), .ref (A 31), .ref (A 32), .ref (A 33), .ref (A 34), .ref (A 35), .int (μ.1 36), .ref (A 37)]
def cM (ck : Nat → ClassId) (A : Nat → Nat) (μ : MS) (k : Nat) : va_E := if (md k).1 = 8 then .inr (8, oMd A μ) else if (md k).1 = 2 then .inl (ck 2, (md k).2, .inr (.inl μ.2.2)) else .inl (ck (md k).1, (md k).2, .inl (μ.2.1 k))
/-- the object's cells hold μ; all else is f0's -/
def zMf (ck : Nat → ClassId) (b0 N : Nat) (A : Nat → Nat) (f0 f : Nat → va_E) (μ : MS) : Prop := (∀ k, (md k).1 ≠ 9 → (b0 ≤ A k ∧ A k < N) ∧ f (A k) = cM ck A μ k) ∧ (∀ j k, (md j).1 ≠ 9 → (md k).1 ≠ 9 → A j = A k → j = k) ∧ ∀ a, (∀ k, (md k).1 ≠ 9 → a ≠ A k) → f a = f0 a
theorem md8 : ∀ k, (md k).1 = 8 → k = 38 := by
  intro k h
  unfold md at h
  split at h <;> first | rfl | exact absurd h (by decide)
theorem md2 : ∀ k, (md k).1 = 2 → k = 31 := by
  intro k h
  unfold md at h
  split at h <;> first | rfl | exact absurd h (by decide)
theorem oMd_set {A : Nat → Nat} {v : Int32} {μ : MS} : ∀ k, k < 38 → md k = (9, 0) → oMd A (sI k v μ) = (oMd A μ).set k (.int v) := by
  intro k hk h
  match k, hk, h with
  | 0, _, _ => rfl
  | 1, _, h => exact absurd h (by decide)
  | 2, _, _ => rfl
  | 3, _, _ => rfl
  | 4, _, _ => rfl
  | 5, _, _ => rfl
  | 6, _, h => exact absurd h (by decide)
  | 7, _, h => exact absurd h (by decide)
  | 8, _, h => exact absurd h (by decide)
  | 9, _, h => exact absurd h (by decide)
  | 10, _, h => exact absurd h (by decide)
  | 11, _, h => exact absurd h (by decide)
  | 12, _, h => exact absurd h (by decide)
  | 13, _, h => exact absurd h (by decide)
  | 14, _, h => exact absurd h (by decide)
  | 15, _, h => exact absurd h (by decide)
  | 16, _, h => exact absurd h (by decide)
  | 17, _, h => exact absurd h (by decide)
  | 18, _, h => exact absurd h (by decide)
  | 19, _, h => exact absurd h (by decide)
  | 20, _, h => exact absurd h (by decide)
  | 21, _, h => exact absurd h (by decide)
  | 22, _, h => exact absurd h (by decide)
  | 23, _, h => exact absurd h (by decide)
  | 24, _, _ => rfl
  | 25, _, _ => rfl
  | 26, _, _ => rfl
  | 27, _, _ => rfl
  | 28, _, h => exact absurd h (by decide)
  | 29, _, h => exact absurd h (by decide)
  | 30, _, _ => rfl
  | 31, _, h => exact absurd h (by decide)
  | 32, _, h => exact absurd h (by decide)
  | 33, _, h => exact absurd h (by decide)
  | 34, _, h => exact absurd h (by decide)
  | 35, _, h => exact absurd h (by decide)
  | 36, _, _ => rfl
  | 37, _, h => exact absurd h (by decide)
  | k + 38, hk, _ => omega
section ZMF
variable {ck : Nat → ClassId} {b0 N : Nat} {A : Nat → Nat} {f0 f : Nat → va_E} {μ : MS}
theorem zMf.ob (h : zMf ck b0 N A f0 f μ) : f (A 38) = .inr (8, oMd A μ) := (h.1 38 (by decide)).2
theorem zMf.lo (h : zMf ck b0 N A f0 f μ) (k : Nat) (hk : (md k).1 ≠ 9) : b0 ≤ A k ∧ A k < N := (h.1 k hk).1
theorem zMf.iA (h : zMf ck b0 N A f0 f μ) (k n : Nat) (hk : md k = (0, n)) : f (A k) = .inl (ck 0, n, .inl (μ.2.1 k)) := by
  have := (h.1 k (by rw [hk]; show (0 : Nat) ≠ 9; decide)).2
  rw [this, cM, hk]
  rfl
theorem zMf.zA (h : zMf ck b0 N A f0 f μ) (k n : Nat) (hk : md k = (1, n)) : f (A k) = .inl (ck 1, n, .inl (μ.2.1 k)) := by
  have := (h.1 k (by rw [hk]; show (1 : Nat) ≠ 9; decide)).2
  rw [this, cM, hk]
  rfl
theorem zMf.jA (h : zMf ck b0 N A f0 f μ) : f (A 31) = .inl (ck 2, 400, .inr (.inl μ.2.2)) := (h.1 31 (by decide)).2
theorem zMf.put (h : zMf ck b0 N A f0 f μ) (k : Nat) (v : Int32) (hk : k < 38) (hi : md k = (9, 0)) : zMf ck b0 N A f0 (va_up f (A 38) (.inr (8, (oMd A μ).set k (.int v)))) (sI k v μ) := by
  refine ⟨fun j hj => ⟨(h.1 j hj).1, ?_⟩, h.2.1, fun a ha => ?_⟩
  · by_cases e : j = 38
    · subst e
      rw [va_up_self, ← oMd_set k hk hi]
      rfl
    · have e2 : (md j).1 ≠ 8 := fun z => e (md8 j z)
      rw [va_up_ne _ _ (fun z => e (h.2.1 j 38 hj (by decide) z)), (h.1 j hj).2, cM, if_neg e2, cM, if_neg e2]
      rfl
  · rw [va_up_ne _ _ (ha 38 (by decide))]
    exact h.2.2 a ha
theorem zMf.setA (h : zMf ck b0 N A f0 f μ) (k n t i : Nat) (v : Int32) (hk : md k = (t, n)) (ht : t ≤ 1) : zMf ck b0 N A f0 (va_up f (A k) (.inl (ck t, n, .inl (upd (μ.2.1 k) i v)))) (sA k i v μ) := by
  have hk9 : (md k).1 ≠ 9 := by rw [hk]; show t ≠ 9; omega
  have hk8 : (md k).1 ≠ 8 := by rw [hk]; show t ≠ 8; omega
  have hk2 : (md k).1 ≠ 2 := by rw [hk]; show t ≠ 2; omega
  refine ⟨fun j hj => ⟨(h.1 j hj).1, ?_⟩, h.2.1, fun a ha => ?_⟩
  · by_cases e : j = k
    · subst e
      rw [va_up_self, cM, if_neg hk8, if_neg hk2, hk]
      show _ = Sum.inl (ck t, n, Sum.inl (va_up μ.2.1 j (upd (μ.2.1 j) i v) j))
      rw [va_up_self]
    · rw [va_up_ne _ _ (fun z => e (h.2.1 j k hj hk9 z)), (h.1 j hj).2, cM, cM]
      by_cases e8 : (md j).1 = 8
      · rw [if_pos e8, if_pos e8]
        rfl
      · rw [if_neg e8, if_neg e8]
        by_cases e2 : (md j).1 = 2
        · rw [if_pos e2, if_pos e2]
          rfl
        · rw [if_neg e2, if_neg e2]
          show _ = Sum.inl (_, _, Sum.inl (va_up μ.2.1 k (upd (μ.2.1 k) i v) j))
          rw [va_up_ne _ _ e]
  · rw [va_up_ne _ _ (ha k hk9)]
    exact h.2.2 a ha
theorem zMf.setJ (h : zMf ck b0 N A f0 f μ) (i : Nat) (v : Int64) : zMf ck b0 N A f0 (va_up f (A 31) (.inl (ck 2, 400, .inr (.inl (vp_updL μ.2.2 i v))))) (sJ i v μ) := by
  refine ⟨fun j hj => ⟨(h.1 j hj).1, ?_⟩, h.2.1, fun a ha => ?_⟩
  · by_cases e : j = 31
    · subst e
      rw [va_up_self]
      rfl
    · have e2 : (md j).1 ≠ 2 := fun z => e (md2 j z)
      rw [va_up_ne _ _ (fun z => e (h.2.1 j 31 hj (by decide) z)), (h.1 j hj).2, cM, cM, if_neg e2, if_neg e2]
      rfl
  · rw [va_up_ne _ _ (ha 31 (by decide))]
    exact h.2.2 a ha
end ZMF
/-- an index within a row, as a test; an answer that is a boolean; steps of a guarded run -/
def inb (i : Int32) (n : Nat) : Bool := !(decide (i < 0) || decide (n ≤ i.toNatClampNeg))
theorem vp_of {i : Int32} {n : Nat} (h : inb i n = true) : vp_in i n := by
  intro z
  rcases z with z | z <;> simp [inb, z] at h
theorem inb_of {i : Int32} {n : Nat} (h : vp_in i n) : inb i n = true := by
  simp only [vp_in, not_or] at h
  simp [inb, h.1, h.2]
def is01 (i : Int32) : Bool := decide (i = 0) || decide (i = 1)
theorem n01 {i : Int32} (h : is01 i = true) : narrow .boolean (.int i) = .int i := by
  simp only [is01, Bool.or_eq_true, decide_eq_true_eq] at h
  rcases h with rfl | rfl <;> rfl
theorem gd {α : Type} {c : Prop} [Decidable c] {a : Option α} {r : α} (h : (if c then a else none) = some r) : c ∧ a = some r := by
  by_cases z : c
  · rw [if_pos z] at h; exact ⟨z, h⟩
  · rw [if_neg z] at h; cases h
theorem gn {α : Type} {c : Prop} [Decidable c] {a : Option α} {r : α} (h : (if c then none else a) = some r) : ¬ c ∧ a = some r := by
  by_cases z : c
  · rw [if_pos z] at h; cases h
  · rw [if_neg z] at h; exact ⟨z, h⟩
theorem iic (n : Int) (m : Int32) (h : Int32.ofInt n = m) (x : Int32) : x + Int32.ofInt n = x + m := by rw [h]
theorem bd {α β : Type} {a : Option α} {k : α → Option β} {r : β} (h : a.bind k = some r) : ∃ p, a = some p ∧ k p = some r := by
  cases a with
  | none => cases h
  | some p => exact ⟨p, rfl, h⟩
section ZMR
variable {p : Program} {l : Launch} {e : Env} {R : Room} {s : State} {m : MethodId} {args : Array Value} {below : List Frame} {meth : Method} {c : Code} {cells slots : Nat} {Q : State → Prop} {D : va_G} {cl : List vw_C} {tys : List (ClassId × FieldType)} {b0 : Nat} {G : State → Prop} {cc : ByteArray} {nL : Nat} {own : String} {Ts : List Cond} {ret : Option FieldType} {N : Nat} {f : Nat → va_E} {pc : Nat} {lv : List (Nat × Value)} {st : List Value} {wr : Nat → Prop}
variable {ck : Nat → ClassId} {A : Nat → Nat} {f0 : Nat → va_E} {μ : MS}
theorem z_putM (X : zX p s m args meth c D cl tys b0 G cc nL own Ts ret) {ref C : String} {T : u_T} {n index : Nat} {v : Int32} (ty0 : Nat → FieldType) (hty : ∀ k, k < n → parseFieldDescriptor (T k).2.2.1 = some (ty0 k)) (hnm : ∀ a, a < n → ∀ b, b < n → a ≠ b → (T a).2.1 ≠ (T b).2.1) (hdg : decode cc pc = .ok (.putfield index, 3)) (hM : zMf ck b0 N A f0 f μ) (hc : cl[8]? = some (C, T, n)) (hin : ∀ w ∈ u_ws C T n, w ∈ Ts) (k : Nat) (hk : k < n) (hlink : Cond.fieldLink own index ref (T k).2.1 (T k).2.2.1 ∈ Ts) (href : (T k).1 = ref) (hfin : (T k).2.2.2 = false) (htk : ty0 k = .int) (hk8 : k < 38) (hi : md k = (9, 0)) (kk : zMf ck b0 N A f0 (va_up f (A 38) (.inr (8, (oMd A μ).set k (.int v)))) (sI k v μ) → zW p l e R s m args below meth c D cl b0 nL cells slots Q N (va_up f (A 38) (.inr (8, (oMd A μ).set k (.int v)))) (pc + 3) lv st) : zW p l e R s m args below meth c D cl b0 nL cells slots Q N f pc lv (.int v :: .ref (A 38) :: st) := z_put X ty0 hty hnm hdg (hM.lo 38 (by decide)) hM.ob hc hin k hk hlink href hfin htk rfl rfl hk8 (kk (hM.put k v hk8 hi))
theorem z_iastM (X : zX p s m args meth c D cl tys b0 G cc nL own Ts ret) {i x : Int32} (hdg : decode cc pc = .ok (.iastore, 1)) (hM : zMf ck b0 N A f0 f μ) (k n : Nat) (hk : md k = (0, n)) (ht : tys[0]? = some (ck 0, .int)) (hi : vp_in i n) (kk : zMf ck b0 N A f0 (va_up f (A k) (.inl (ck 0, n, .inl (upd (μ.2.1 k) i.toNatClampNeg x)))) (sA k i.toNatClampNeg x μ) → zW p l e R s m args below meth c D cl b0 nL cells slots Q N (va_up f (A k) (.inl (ck 0, n, .inl (upd (μ.2.1 k) i.toNatClampNeg x)))) (pc + 1) lv st) : zW p l e R s m args below meth c D cl b0 nL cells slots Q N f pc lv (.int x :: .int i :: .ref (A k) :: st) := z_iast X hdg (hM.lo k (by rw [hk]; show (0 : Nat) ≠ 9; decide)) (hM.iA k n hk) ht hi (kk (hM.setA k n 0 i.toNatClampNeg x hk (by decide)))
theorem z_zastM (X : zX p s m args meth c D cl tys b0 G cc nL own Ts ret) {i x : Int32} (hdg : decode cc pc = .ok (.bastore, 1)) (hM : zMf ck b0 N A f0 f μ) (k n : Nat) (hk : md k = (1, n)) (ht : tys[1]? = some (ck 1, .boolean)) (hi : vp_in i n) (kk : zMf ck b0 N A f0 (va_up f (A k) (.inl (ck 1, n, .inl (upd (μ.2.1 k) i.toNatClampNeg (vp_nar .boolean x))))) (sA k i.toNatClampNeg (vp_nar .boolean x) μ) → zW p l e R s m args below meth c D cl b0 nL cells slots Q N (va_up f (A k) (.inl (ck 1, n, .inl (upd (μ.2.1 k) i.toNatClampNeg (vp_nar .boolean x))))) (pc + 1) lv st) : zW p l e R s m args below meth c D cl b0 nL cells slots Q N f pc lv (.int x :: .int i :: .ref (A k) :: st) := z_zast X hdg (hM.lo k (by rw [hk]; show (1 : Nat) ≠ 9; decide)) (hM.zA k n hk) ht hi (kk (hM.setA k n 1 i.toNatClampNeg (vp_nar .boolean x) hk (by decide)))
theorem z_lastM (X : zX p s m args meth c D cl tys b0 G cc nL own Ts ret) {i : Int32} {x : Int64} (hdg : decode cc pc = .ok (.lastore, 1)) (hM : zMf ck b0 N A f0 f μ) (ht : tys[2]? = some (ck 2, .long)) (hi : vp_in i 400) (kk : zMf ck b0 N A f0 (va_up f (A 31) (.inl (ck 2, 400, .inr (.inl (vp_updL μ.2.2 i.toNatClampNeg x))))) (sJ i.toNatClampNeg x μ) → zW p l e R s m args below meth c D cl b0 nL cells slots Q N (va_up f (A 31) (.inl (ck 2, 400, .inr (.inl (vp_updL μ.2.2 i.toNatClampNeg x))))) (pc + 1) lv st) : zW p l e R s m args below meth c D cl b0 nL cells slots Q N f pc lv (.long x :: .int i :: .ref (A 31) :: st) := z_last X hdg (hM.lo 31 (by decide)) hM.jA ht hi (kk (hM.setJ i.toNatClampNeg x))
end ZMR
