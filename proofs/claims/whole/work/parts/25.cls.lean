/-- a rule: its tree (kinds, values, rights, used), group, hard, first day, latest, met, answered, faulty -/
abbrev RuS : Type := TSt × Int32 × Bool × Int32 × Int32 × Bool × Bool × Bool
abbrev rT (r : RuS) : TSt := r.1
abbrev rG (r : RuS) : Int32 := r.2.1
abbrev rH (r : RuS) : Bool := r.2.2.1
abbrev rD (r : RuS) : Int32 := r.2.2.2.1
abbrev rL (r : RuS) : Int32 := r.2.2.2.2.1
abbrev rM (r : RuS) : Bool := r.2.2.2.2.2.1
abbrev rA (r : RuS) : Bool := r.2.2.2.2.2.2.1
abbrev rF (r : RuS) : Bool := r.2.2.2.2.2.2.2
/-- a rule's cells, from b on: itself, its tree, kinds, values, rights -/
abbrev wRl (ck : Nat → ClassId) (b : Nat) (r : RuS) : va_W := (b, oRul (b + 1) (rG r) (rH r) (rD r) (rL r) (rM r) (rA r) (rF r)) :: wTre ck (b + 1) (b + 2) (b + 3) (b + 4) r.1.2.2.2 r.1.1 r.1.2.1 r.1.2.2.1 r.1.2.2.2
abbrev oCls (A : Nat → Nat) (rc : Nat) (cc td : Int32) : va_E := .inr (7, [.ref (A 1), .ref (A 11), .ref (A 15), .ref (A 18), .int (nI rc), .int cc, .int td])
def rAd (B : Nat → Nat) (rc : Nat) : Nat → Option Nat := fun r => if r < rc then some (B r) else none
/-- the class's cells but for the rules': itself, reader, worker, printer, the row of rules -/
abbrev wCl (ck : Nat → ClassId) (A B : Nat → Nat) (g : Nat → Int32) (len : Nat) (st : RSt) (lb : Int32) (G v : Nat → Int32) (ps : PSt) (cc td : Int32) (rc : Nat) : va_W :=
  [(A 0, oCls A rc cc td)] ++ wRdr ck (fun i => A (i + 1)) g len st ++ wWrk ck (A 11) (A 13) (A 12) (A 14) lb G v ++ wPr ck (fun i => A (i + 15)) ps ++ [(A 18, .inl (ck 3, 20, .inr (.inr (.inr (.inr (rAd B rc))))))]
abbrev AL (A : Nat → Nat) : List Nat := [A 0, A 1, A 2, A 3, A 4, A 5, A 6, A 7, A 8, A 9, A 10, A 11, A 12, A 13, A 14, A 15, A 16, A 17, A 18]
abbrev AR (b : Nat) : List Nat := [b, b + 1, b + 2, b + 3, b + 4]
/-- the class's object: its cells below T, the rules' from T on, rule by rule -/
def zC (ck : Nat → ClassId) (b0 N : Nat) (f : Nat → va_E) (T : Nat) (A B : Nat → Nat) (g : Nat → Int32) (len : Nat) (st : RSt) (lb : Int32) (G v : Nat → Int32) (ps : PSt) (cc td : Int32) (rc : Nat) (ρ : Nat → RuS) : Prop :=
  zP b0 N f (wCl ck A B g len st lb G v ps cc td rc) ∧ (∀ a ∈ AL A, a < T) ∧ (∀ r, r < rc → T ≤ B r ∧ B r + 5 ≤ N ∧ ∀ s, s < rc → r < s → B r + 5 ≤ B s) ∧ ∀ r, r < rc → ∀ q ∈ wRl ck (B r) (ρ r), f q.1 = q.2
section
variable {ck : Nat → ClassId} {b0 N T : Nat} {f : Nat → va_E} {A B : Nat → Nat} {g : Nat → Int32} {len : Nat} {st : RSt} {lb : Int32} {G v : Nat → Int32} {ps : PSt} {cc td : Int32} {rc : Nat} {ρ : Nat → RuS}
theorem zC.rl (h : zC ck b0 N f T A B g len st lb G v ps cc td rc ρ) {k : Nat} (hk : k < rc) : zP b0 N f (wCl ck A B g len st lb G v ps cc td rc ++ wRl ck (B k) (ρ k)) := by
  obtain ⟨h1, h2, h3, h4⟩ := h
  obtain ⟨a1, a2, -⟩ := h3 k hk
  have hb : b0 ≤ T := by
    have x1 := (h1.lo 0 rfl).1
    have x2 := h2 (A 0) List.mem_cons_self
    omega
  refine ⟨?_, fun j q hj => ?_⟩
  · rw [List.map_append, List.nodup_append]
    refine ⟨h1.1, ?_, fun a ha b hb e => ?_⟩
    · show (AR (B k)).Nodup
      simp [AR]
    · have x1 := h2 a ha
      have x2 : b ∈ AR (B k) := hb
      simp [AR] at x2
      omega
  · by_cases hl : j < (wCl ck A B g len st lb G v ps cc td rc).length
    · rw [List.getElem?_append_left hl] at hj
      exact h1.2 j q hj
    · rw [List.getElem?_append_right (by omega)] at hj
      have hm := List.mem_of_getElem? hj
      have e := h4 k hk q hm
      have x2 : q.1 ∈ AR (B k) := List.mem_map.mpr ⟨q, hm, rfl⟩
      simp [AR] at x2
      exact ⟨by omega, by omega, e⟩
/-- back to the whole behind a call that touched one rule -/
theorem zC.back (h : zC ck b0 N f T A B g len st lb G v ps cc td rc ρ) {k : Nat} (hk : k < rc) {f' : Nat → va_E} {g' : Nat → Int32} {len' : Nat} {st' : RSt} {lb' : Int32} {G' v' : Nat → Int32} {ps' : PSt} {cc' td' : Int32} {r' : RuS} (h1 : zP b0 N f' (wCl ck A B g' len' st' lb' G' v' ps' cc' td' rc ++ wRl ck (B k) r')) (hF : zF N f f' (AL A ++ AR (B k))) : zC ck b0 N f' T A B g' len' st' lb' G' v' ps' cc' td' rc (va_up ρ k r') := by
  obtain ⟨p1, h2, h3, h4⟩ := h
  refine ⟨?_, h2, h3, fun r hr q hq => ?_⟩
  · refine ⟨p1.1, fun j q hj => h1.2 j q ?_⟩
    rw [List.getElem?_append_left (List.getElem?_eq_some_iff.mp hj).1]
    exact hj
  · by_cases e : r = k
    · subst e
      rw [va_up_self] at hq
      obtain ⟨j, hj⟩ := List.getElem?_of_mem (List.mem_append.mpr (Or.inr hq) : q ∈ wCl ck A B g' len' st' lb' G' v' ps' cc' td' rc ++ wRl ck (B r) r')
      exact (h1.2 j q hj).2.2
    · rw [va_up_ne _ _ e] at hq
      have x2 : q.1 ∈ AR (B r) := List.mem_map.mpr ⟨q, hq, rfl⟩
      obtain ⟨a1, a2, a3⟩ := h3 r hr
      obtain ⟨b1, b2, b3⟩ := h3 k hk
      have x3 : ¬ q.1 ∈ AL A ++ AR (B k) := by
        intro z
        rcases List.mem_append.mp z with z | z
        · have := h2 _ z
          simp [AR] at x2
          omega
        · simp [AR] at x2 z
          rcases Nat.lt_or_ge r k with w | w
          · have := a3 k hk w
            omega
          · have := b3 r hr (by omega)
            omega
      rw [hF q.1 (by simp [AR] at x2; omega) x3]
      exact h4 r hr q hq
theorem zC.back0 (h : zC ck b0 N f T A B g len st lb G v ps cc td rc ρ) {N' : Nat} {f' : Nat → va_E} {g' : Nat → Int32} {len' : Nat} {st' : RSt} {lb' : Int32} {G' v' : Nat → Int32} {ps' : PSt} {cc' td' : Int32} (hN : N ≤ N') (h1 : zP b0 N' f' (wCl ck A B g' len' st' lb' G' v' ps' cc' td' rc)) (hF : zF N f f' (AL A)) : zC ck b0 N' f' T A B g' len' st' lb' G' v' ps' cc' td' rc ρ := by
  obtain ⟨p1, h2, h3, h4⟩ := h
  refine ⟨h1, h2, fun r hr => ⟨(h3 r hr).1, by have := (h3 r hr).2.1; omega, (h3 r hr).2.2⟩, fun r hr q hq => ?_⟩
  have x2 : q.1 ∈ AR (B r) := List.mem_map.mpr ⟨q, hq, rfl⟩
  obtain ⟨a1, a2, a3⟩ := h3 r hr
  rw [hF q.1 (by simp [AR] at x2; omega) (fun z => by have := h2 _ z; simp [AR] at x2; omega)]
  exact h4 r hr q hq
theorem zF.lowC {as : List Nat} {f' : Nat → va_E} {b : Nat} (h : zF N f f' (as ++ AR b)) (hb : T ≤ b) (hN : T ≤ N) : zF T f f' as := h.mono hN (fun a ha => by
  rcases List.mem_append.mp ha with z | z
  · exact Or.inl z
  · right; simp [AR] at z; omega)
theorem zC.lo (h : zC ck b0 N f T A B g len st lb G v ps cc td rc ρ) {k : Nat} (hk : k < rc) : T ≤ B k ∧ B k + 5 ≤ N := ⟨(h.2.2.1 k hk).1, (h.2.2.1 k hk).2.1⟩
end
/-- a test of a day; searching for the a-th that P holds of -/
def zday (d : Int32) : Bool := !decide (d < 0) && !decide (100000 < d)
def fIn (P : Nat → Bool) : Nat → Nat → Int32 → Option Nat × Int32
  | 0, _, a => (none, a)
  | n + 1, k, a => if P k = true then (if a = 0 then (some k, a) else fIn P n (k + 1) (a - 1)) else fIn P n (k + 1) a
def fRes (r : Option Nat × Int32) (d : Int32 → Int32) : Int32 := match r.1 with
  | some k => nI k
  | none => d r.2
def fOut (P : Nat → Nat → Bool) (rc : Nat) : Nat → Nat → Int32 → Int32
  | 0, _, _ => -1
  | n + 1, g, a => fRes (fIn (P g) rc 0 a) (fOut P rc n (g + 1))
def fCnt (P : Nat → Bool) : Nat → Int32
  | 0 => 0
  | k + 1 => if P k = true then fCnt P k + 1 else fCnt P k
def bBad (ρ : Nat → RuS) (hd : Bool) (g k : Nat) : Bool := decide (rG (ρ k) = nI g) && (rF (ρ k) && (rH (ρ k) == hd))
def bNev (ρ : Nat → RuS) (k : Nat) : Bool := !decide (rL (ρ k) = -1) && !rM (ρ k)
def bTou (ρ : Nat → RuS) (fd : Int32) (k : Nat) : Bool := tnames (ρ k).1.1 (ρ k).1.2.1 fd (ρ k).1.2.2.2
/-- children as the worker takes them -/
def cCL (K : Nat → Int32) (a : Nat) : Option Nat := if 10 < K a then none else some (a + 1)
def cCR (R : Nat → Int32) (a : Nat) : Option Nat := if R a = -1 then none else some (R a).toNatClampNeg
/-- a tree that the worker can work out -/
def tOk (ts : TSt) : Prop := 0 < ts.2.2.2 ∧ ts.2.2.2 ≤ 40 ∧ tok ts.1 ts.2.2.1 ts.2.2.2 (cCL ts.1) (cCR ts.2.2.1)
def wOut (v G : Nat → Int32) (ts : TSt) : Nat → Int32 := wfd ts.1 ts.2.1 ts.2.2.1 (cCL ts.1) (cCR ts.2.2.1) v (dbits v 9) G ts.2.2.2 ts.2.2.2
