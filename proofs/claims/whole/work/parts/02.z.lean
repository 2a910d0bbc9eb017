/-! Z: the walk over a heap that is a function. b0: where the cells of this run begin; N: the heap's size; f a: the cell at a (b0 ≤ a < N). -/
/-- a cell of which nothing is said: an exception's -/
def zJ (cl : List vw_C) (e : va_E) : Prop := match e with
  | .inl _ => False
  | .inr o => cl[o.1]? = none
theorem zJa {cl : List vw_C} {x : ClassId × vp_A} : ¬ zJ cl (.inl x) := fun h => h
theorem zJo {cl : List vw_C} {ci : Nat} {fs : List Value} {r : vw_C} (h : cl[ci]? = some r) : ¬ zJ cl (.inr (ci, fs)) := fun z => by
  have z : cl[ci]? = none := z
  rw [h] at z
  cases z
def zH (D : va_G) (cl : List vw_C) (b0 N : Nat) (f : Nat → va_E) (H : Heap) : Prop := H.size = N ∧ ∀ a : Nat, b0 ≤ a → a < N → ¬ zJ cl (f a) → va_at D cl (a, f a) H
theorem zH.use {D : va_G} {cl : List vw_C} {b0 N : Nat} {f : Nat → va_E} {H : Heap} (h : zH D cl b0 N f H) {a : Nat} {x : va_E} (ha : b0 ≤ a ∧ a < N) (hf : f a = x) (hj : ¬ zJ cl x) : va_at D cl (a, x) H := by
  subst hf
  exact h.2 a ha.1 ha.2 hj
def zL (ls : Array Slot) (nL : Nat) (lv : List (Nat × Value)) : Prop := lv_has ls nL lv
/-- a store at i hits no half of a listed long -/
def zok (lv : List (Nat × Value)) (i : Nat) : Bool := lv.all (fun q => !(q.1 + 1 == i && q.2.category == 2))
def zok2 (lv : List (Nat × Value)) (i : Nat) : Bool := lv.all (fun q => !(q.1 == i + 1) && !(q.1 + 1 == i && q.2.category == 2))
/-- the locals as a list: read, write -/
def zg : List (Nat × Value) → Nat → Option Value
  | [], _ => none
  | (j, v) :: t, i => if j = i then some v else zg t i
def zs (lv : List (Nat × Value)) (i : Nat) (v : Value) : List (Nat × Value) := if (lv.any fun q => q.1 == i) = true then lv.map (fun q => if q.1 = i then (i, v) else q) else lv ++ [(i, v)]
theorem zg_mem : ∀ {lv : List (Nat × Value)} {i : Nat} {v : Value}, zg lv i = some v → (i, v) ∈ lv
  | [], i, v, h => by cases h
  | (j, w) :: t, i, v, h => by
    unfold zg at h
    by_cases hj : j = i
    · rw [if_pos hj] at h
      cases h
      subst hj
      exact List.mem_cons_self
    · rw [if_neg hj] at h
      exact List.mem_cons_of_mem _ (zg_mem h)
theorem zL.get {ls : Array Slot} {nL : Nat} {lv : List (Nat × Value)} {i : Nat} {v : Value} (h : zL ls nL lv) (hg : zg lv i = some v) : ls[i]? = some (.val v) := h.2.2 (i, v) (zg_mem hg)
theorem zs_mem {lv : List (Nat × Value)} {i : Nat} {v : Value} {q : Nat × Value} (h : q ∈ zs lv i v) : q = (i, v) ∨ (q ∈ lv ∧ q.1 ≠ i) := by
  unfold zs at h
  by_cases ha : (lv.any fun q => q.1 == i) = true
  · rw [if_pos ha] at h
    obtain ⟨r, h1, h2⟩ := List.mem_map.mp h
    by_cases hr : r.1 = i
    · rw [if_pos hr] at h2
      exact Or.inl h2.symm
    · rw [if_neg hr] at h2
      subst h2
      exact Or.inr ⟨h1, hr⟩
  · rw [if_neg ha] at h
    rcases List.mem_append.mp h with h | h
    · refine Or.inr ⟨h, fun hi => ha ?_⟩
      exact List.any_eq_true.mpr ⟨q, h, by simp [hi]⟩
    · exact Or.inl (by simpa using h)
theorem zH.set {D : va_G} {cl : List vw_C} {b0 N : Nat} {f : Nat → va_E} {H H1 : Heap} (h : zH D cl b0 N f H) {a : Nat} {x : va_E} (hz : H1.size = H.size) (he : va_at D cl (a, x) H1) (ho : ∀ q : Nat, q ≠ a → H1[q]? = H[q]?) : zH D cl b0 N (va_up f a x) H1 := by
  refine ⟨hz.trans h.1, fun q h1 h2 hj => ?_⟩
  by_cases hq : q = a
  · subst hq
    rw [va_up_self]
    exact he
  · rw [va_up_ne _ _ hq] at hj ⊢
    exact (h.2 q h1 h2 hj).kept (ho q hq)
theorem zH.push {D : va_G} {cl : List vw_C} {b0 N : Nat} {f : Nat → va_E} {H H1 : Heap} (h : zH D cl b0 N f H) {x : va_E} (hz : H1.size = N + 1) (he : va_at D cl (N, x) H1) (ho : ∀ q : Nat, q < N → H1[q]? = H[q]?) : zH D cl b0 (N + 1) (va_up f N x) H1 := by
  refine ⟨hz, fun q h1 h2 hj => ?_⟩
  by_cases hq : q = N
  · subst hq
    rw [va_up_self]
    exact he
  · rw [va_up_ne _ _ hq] at hj ⊢
    exact (h.2 q h1 (by omega) hj).kept (ho q (by omega))
/-- a cell more, of which nothing is said -/
theorem zH.junk {D : va_G} {cl : List vw_C} {b0 N : Nat} {f : Nat → va_E} {H H1 : Heap} (h : zH D cl b0 N f H) {x : va_E} (hx : zJ cl x) (hz : H1.size = N + 1) (ho : ∀ q : Nat, q < N → H1[q]? = H[q]?) : zH D cl b0 (N + 1) (va_up f N x) H1 := by
  refine ⟨hz, fun q h1 h2 hj => ?_⟩
  by_cases hq : q = N
  · subst hq
    rw [va_up_self] at hj
    exact absurd hx hj
  · rw [va_up_ne _ _ hq] at hj ⊢
    exact (h.2 q h1 (by omega) hj).kept (ho q (by omega))
/-- the frame: what lies below b0 stays -/
abbrev zA (b0 : Nat) : Nat → Prop := fun q => b0 ≤ q
theorem zS_put {b0 a i : Nat} {H0 H H1 : Heap} {locs : List Loc} (h : va_S (zA b0) H0 H locs) (z : H1.size = H.size) (o : ∀ q : Nat, q ≠ a → H1[q]? = H[q]?) (ha : b0 ≤ a) : va_S (zA b0) H0 H1 (locs ++ [⟨a, i⟩]) := by
  refine ⟨by rw [z]; exact h.1, fun q h1 h2 => ?_, fun l hl => ?_⟩
  · have hq : q ≠ a := fun e => h2 (by rw [e]; exact ha)
    rw [o q hq]
    exact h.2.1 q h1 h2
  · rcases List.mem_append.mp hl with hl | hl
    · exact h.2.2 l hl
    · rcases List.mem_singleton.mp hl with rfl
      exact ha
theorem zS_push {wr : Nat → Prop} {N : Nat} {H0 H H1 : Heap} {locs : List Loc} (h : va_S wr H0 H locs) (hN : H.size = N) (z : H1.size = N + 1) (o : ∀ q : Nat, q < N → H1[q]? = H[q]?) : va_S wr H0 H1 locs := by
  refine ⟨by have := h.1; omega, fun q h1 h2 => ?_, h.2.2⟩
  rw [o q (by have := h.1; omega)]
  exact h.2.1 q h1 h2
/-- what a method's walk stands on -/
def zX (p : Program) (s : State) (m : MethodId) (args : Array Value) (meth : Method) (c : Code) (D : va_G) (cl : List vw_C) (tys : List (ClassId × FieldType)) (b0 : Nat) (G : State → Prop) (cc : ByteArray) (nL : Nat) (own : String) (Ts : List Cond) (ret : Option FieldType) : Prop :=
  p.tables.exec = Jvm.exec ∧ c.code = cc ∧ c.maxLocals = nL ∧ s.vm.findClass own = some m.cls ∧ (∀ w ∈ Ts, w.before args s = true) ∧ G s ∧ va_K D cl tys s ∧ meth.sig.returnType = ret ∧ meth.locks = false ∧ b0 ≤ s.heap.size
/-- the machine comes from here to a state with Q: pc, locals, operand stack, heap; wr: the cells that may be written -/
def zWw (wr : Nat → Prop) (p : Program) (l : Launch) (e : Env) (R : Room) (s : State) (m : MethodId) (args : Array Value) (below : List Frame) (meth : Method) (c : Code) (D : va_G) (cl : List vw_C) (b0 nL cells slots : Nat) (Q : State → Prop) (N : Nat) (f : Nat → va_E) (pc : Nat) (lv : List (Nat × Value)) (st : List Value) : Prop :=
  ∀ (H : Heap) (locs : List Loc) (ls : Array Slot), zH D cl b0 N f H → va_S wr s.heap H locs → zL ls nL lv → W p l e R s m args below meth c H locs cells slots Q (F0 m pc ls st)
abbrev zW (p : Program) (l : Launch) (e : Env) (R : Room) (s : State) (m : MethodId) (args : Array Value) (below : List Frame) (meth : Method) (c : Code) (D : va_G) (cl : List vw_C) (b0 nL cells slots : Nat) (Q : State → Prop) (N : Nat) (f : Nat → va_E) (pc : Nat) (lv : List (Nat × Value)) (st : List Value) : Prop := zWw (zA b0) p l e R s m args below meth c D cl b0 nL cells slots Q N f pc lv st
/-- a call's end: an answer, a heap, and what is said of them -/
def zQw (wr : Nat → Prop) (D : va_G) (cl : List vw_C) (b0 : Nat) (P : Option Value → Nat → (Nat → va_E) → Prop) : Array Value → State → Outcome → State → Prop := fun _ u oc t => ∃ (r : Option Value) (N' : Nat) (f' : Nat → va_E), oc = .returned r ∧ zH D cl b0 N' f' t.heap ∧ (∀ q : Nat, q < u.heap.size → ¬ wr q → t.heap[q]? = u.heap[q]?) ∧ u.heap.size ≤ N' ∧ P r N' f'
abbrev zQ (D : va_G) (cl : List vw_C) (b0 : Nat) (P : Option Value → Nat → (Nat → va_E) → Prop) : Array Value → State → Outcome → State → Prop := zQw (zA b0) D cl b0 P
def zPc (D : va_G) (cl : List vw_C) (tys : List (ClassId × FieldType)) (b0 : Nat) (G : State → Prop) (As : List Value) (N : Nat) (f : Nat → va_E) : Array Value → State → Prop := va_Pc As (fun U => G U ∧ va_K D cl tys U ∧ zH D cl b0 N f U.heap ∧ b0 ≤ N)
/-- a contract: called with As in the heap (N, f), the method answers r and leaves (N', f') with P, having written in wr alone -/
def zMw (wr : Nat → Prop) (l : Launch) (D : va_G) (cl : List vw_C) (tys : List (ClassId × FieldType)) (b0 : Nat) (G : State → Prop) (y : MethodName) (ws : List Cond) (rm : Room) (mc ms : Nat) (As : List Value) (N : Nat) (f : Nat → va_E) (P : Option Value → Nat → (Nat → va_E) → Prop) : Prop :=
  Met l y ws rm (zPc D cl tys b0 G As N f) (zQw wr D cl b0 P) mc ms wr
abbrev zM (l : Launch) (D : va_G) (cl : List vw_C) (tys : List (ClassId × FieldType)) (b0 : Nat) (G : State → Prop) (y : MethodName) (ws : List Cond) (rm : Room) (mc ms : Nat) (As : List Value) (N : Nat) (f : Nat → va_E) (P : Option Value → Nat → (Nat → va_E) → Prop) : Prop := zMw (zA b0) l D cl tys b0 G y ws rm mc ms As N f P
/-- G moves with the machine -/
def zGok (b0 : Nat) (G : State → Prop) : Prop := ∀ s U : State, s.WarmedH U.vm → b0 ≤ s.heap.size → (∀ q : Nat, q < b0 → U.heap[q]? = s.heap[q]?) → G s → G U
def zlv (As : List Value) : List (Nat × Value) := lv_args 0 As
theorem zL.sto {ls' : Array Slot} {nL : Nat} {lv : List (Nat × Value)} {i : Nat} {v : Value} (hz : zok lv i = true) (h1 : lv_has ls' nL ((i, v) :: lv.filter (fun q => !(q.1 == i) && !(q.1 + 1 == i && q.2.category == 2)))) : zL ls' nL (zs lv i v) := by
  refine ⟨h1.1, h1.2.1, fun q hq => ?_⟩
  rcases zs_mem hq with rfl | ⟨h2, h3⟩
  · exact h1.2.2 _ List.mem_cons_self
  · refine h1.2.2 q (List.mem_cons_of_mem _ (List.mem_filter.mpr ⟨h2, ?_⟩))
    have hc := List.all_eq_true.mp hz q h2
    simp only [Bool.and_eq_true] at hc ⊢
    exact ⟨by simp [h3], hc⟩
theorem zL.sto2 {ls' : Array Slot} {nL : Nat} {lv : List (Nat × Value)} {i : Nat} {v : Value} (hz : zok2 lv i = true) (h1 : lv_has ls' nL ((i, v) :: lv.filter (fun q => !(q.1 == i) && (!(q.1 == i + 1) && !(q.1 + 1 == i && q.2.category == 2))))) : zL ls' nL (zs lv i v) := by
  refine ⟨h1.1, h1.2.1, fun q hq => ?_⟩
  rcases zs_mem hq with rfl | ⟨h2, h3⟩
  · exact h1.2.2 _ List.mem_cons_self
  · refine h1.2.2 q (List.mem_cons_of_mem _ (List.mem_filter.mpr ⟨h2, ?_⟩))
    have hc := List.all_eq_true.mp hz q h2
    simp only [Bool.and_eq_true] at hc ⊢
    exact ⟨by simp [h3], hc⟩
theorem zP1 {D : va_G} {cl : List vw_C} {q : Nat × va_E} {H : Heap} (h : va_at D cl q H) : va_P D cl [q] H := by
  intro k r hk
  match k, hk with
  | 0, hk => cases hk; exact h
  | k + 1, hk => simp at hk
theorem zlow {wr : Nat → Prop} {b0 : Nat} {s : State} {H : Heap} {locs : List Loc} (hwr : ∀ q, wr q → b0 ≤ q) (hb : b0 ≤ s.heap.size) (hS : va_S wr s.heap H locs) : ∀ q : Nat, q < b0 → H[q]? = s.heap[q]? := fun q hq => hS.2.1 q (Nat.lt_of_lt_of_le hq hb) (fun h => Nat.not_le.mpr hq (hwr q h))
theorem zblind {D : va_G} {cl : List vw_C} {tys : List (ClassId × FieldType)} {b0 : Nat} {G : State → Prop} {As : List Value} {N : Nat} {f : Nat → va_E} (hg : zGok b0 G) : FrameBlind (zPc D cl tys b0 G As N f) := by
  intro a U g mk h
  obtain ⟨h1, h2, h3, h4, h5⟩ := h
  exact ⟨h1, hg U (U.calling g mk a) (State.WarmedH.refl U) (by rw [h4.1]; exact h5) (fun _ _ => rfl) h2, va_K.moved (u := U) (U := U.calling g mk a) (Vm.Alike.refl U.vm) h3, h4, h5⟩
section ZZ
variable {p : Program} {l : Launch} {e : Env} {R : Room} {s : State} {m : MethodId} {args : Array Value} {below : List Frame} {meth : Method} {c : Code} {cells slots : Nat} {Q : State → Prop} {D : va_G} {cl : List vw_C} {tys : List (ClassId × FieldType)} {b0 : Nat} {G : State → Prop} {cc : ByteArray} {nL : Nat} {own : String} {Ts : List Cond} {ret : Option FieldType} {N : Nat} {f : Nat → va_E} {pc : Nat} {lv : List (Nat × Value)} {st : List Value} {wr : Nat → Prop}
theorem zW.widen {k n : Nat} (h1 : cells ≤ k) (h2 : slots ≤ n) (kk : zWw wr p l e R s m args below meth c D cl b0 nL k n Q N f pc lv st) : zWw wr p l e R s m args below meth c D cl b0 nL cells slots Q N f pc lv st := fun H locs ls hH hS hL => W.widen h1 h2 (kk H locs ls hH hS hL)
theorem zW.heap {N' : Nat} {f' : Nat → va_E} (h1 : N = N') (h2 : f = f') (kk : zWw wr p l e R s m args below meth c D cl b0 nL cells slots Q N' f' pc lv st) : zWw wr p l e R s m args below meth c D cl b0 nL cells slots Q N f pc lv st := by subst h1; subst h2; exact kk
theorem zW.loc {lv' : List (Nat × Value)} (h : ∀ q ∈ lv', q ∈ lv) (kk : zWw wr p l e R s m args below meth c D cl b0 nL cells slots Q N f pc lv' st) : zWw wr p l e R s m args below meth c D cl b0 nL cells slots Q N f pc lv st := fun H locs ls hH hS hL => kk H locs ls hH hS ⟨hL.1, hL.2.1, fun q hq => hL.2.2 q (h q hq)⟩
theorem z_iconst (X : zX p s m args meth c D cl tys b0 G cc nL own Ts ret) {n : Int} (hdg : decode cc pc = .ok (.iconst n, 1)) {v : Int32} (hv : Int32.ofInt n = v) (k : zWw wr p l e R s m args below meth c D cl b0 nL cells slots Q N f (pc + 1) lv (.int v :: st)) : zWw wr p l e R s m args below meth c D cl b0 nL cells slots Q N f pc lv st := fun H locs ls hH hS hL => lv_iconst X.1 X.2.1 hdg hv (k H locs ls hH hS hL)
theorem z_bipush (X : zX p s m args meth c D cl tys b0 G cc nL own Ts ret) {n : Int} (hdg : decode cc pc = .ok (.bipush n, 2)) {v : Int32} (hv : (Int8.ofInt n).toInt32 = v) (k : zWw wr p l e R s m args below meth c D cl b0 nL cells slots Q N f (pc + 2) lv (.int v :: st)) : zWw wr p l e R s m args below meth c D cl b0 nL cells slots Q N f pc lv st := fun H locs ls hH hS hL => lv_bipush X.1 X.2.1 hdg hv (k H locs ls hH hS hL)
theorem z_sipush (X : zX p s m args meth c D cl tys b0 G cc nL own Ts ret) {n : Int} (hdg : decode cc pc = .ok (.sipush n, 3)) {v : Int32} (hv : (Int16.ofInt n).toInt32 = v) (k : zWw wr p l e R s m args below meth c D cl b0 nL cells slots Q N f (pc + 3) lv (.int v :: st)) : zWw wr p l e R s m args below meth c D cl b0 nL cells slots Q N f pc lv st := fun H locs ls hH hS hL => lv_sipush X.1 X.2.1 hdg hv (k H locs ls hH hS hL)
theorem z_iload_n (X : zX p s m args meth c D cl tys b0 G cc nL own Ts ret) {k : Fin 4} {x : Int32} (hdg : decode cc pc = .ok (.iload_n k, 1)) (hg : zg lv (k : Nat) = some (.int x)) (k : zWw wr p l e R s m args below meth c D cl b0 nL cells slots Q N f (pc + 1) lv (.int x :: st)) : zWw wr p l e R s m args below meth c D cl b0 nL cells slots Q N f pc lv st := fun H locs ls hH hS hL => lv_iload_n X.1 X.2.1 hdg rfl (hL.get hg) (k H locs ls hH hS hL)
theorem z_iload (X : zX p s m args meth c D cl tys b0 G cc nL own Ts ret) {i : Nat} {x : Int32} (hdg : decode cc pc = .ok (.iload i, 2)) (hg : zg lv i = some (.int x)) (k : zWw wr p l e R s m args below meth c D cl b0 nL cells slots Q N f (pc + 2) lv (.int x :: st)) : zWw wr p l e R s m args below meth c D cl b0 nL cells slots Q N f pc lv st := fun H locs ls hH hS hL => lv_iload X.1 X.2.1 hdg (hL.get hg) (k H locs ls hH hS hL)
theorem z_aload_n (X : zX p s m args meth c D cl tys b0 G cc nL own Ts ret) {k : Fin 4} {x : Nat} (hdg : decode cc pc = .ok (.aload_n k, 1)) (hg : zg lv (k : Nat) = some (.ref x)) (k : zWw wr p l e R s m args below meth c D cl b0 nL cells slots Q N f (pc + 1) lv (.ref x :: st)) : zWw wr p l e R s m args below meth c D cl b0 nL cells slots Q N f pc lv st := fun H locs ls hH hS hL => lv_aload_n X.1 X.2.1 hdg rfl (hL.get hg) (k H locs ls hH hS hL)
theorem z_aload (X : zX p s m args meth c D cl tys b0 G cc nL own Ts ret) {i : Nat} {x : Nat} (hdg : decode cc pc = .ok (.aload i, 2)) (hg : zg lv i = some (.ref x)) (k : zWw wr p l e R s m args below meth c D cl b0 nL cells slots Q N f (pc + 2) lv (.ref x :: st)) : zWw wr p l e R s m args below meth c D cl b0 nL cells slots Q N f pc lv st := fun H locs ls hH hS hL => lv_aload X.1 X.2.1 hdg (hL.get hg) (k H locs ls hH hS hL)
theorem z_aload_nN (X : zX p s m args meth c D cl tys b0 G cc nL own Ts ret) {k : Fin 4} (hdg : decode cc pc = .ok (.aload_n k, 1)) (hg : zg lv (k : Nat) = some .null) (k : zWw wr p l e R s m args below meth c D cl b0 nL cells slots Q N f (pc + 1) lv (.null :: st)) : zWw wr p l e R s m args below meth c D cl b0 nL cells slots Q N f pc lv st := fun H locs ls hH hS hL => lv_aload_nN X.1 X.2.1 hdg rfl (hL.get hg) (k H locs ls hH hS hL)
theorem z_aloadN (X : zX p s m args meth c D cl tys b0 G cc nL own Ts ret) {i : Nat} (hdg : decode cc pc = .ok (.aload i, 2)) (hg : zg lv i = some .null) (k : zWw wr p l e R s m args below meth c D cl b0 nL cells slots Q N f (pc + 2) lv (.null :: st)) : zWw wr p l e R s m args below meth c D cl b0 nL cells slots Q N f pc lv st := fun H locs ls hH hS hL => lv_aloadN X.1 X.2.1 hdg (hL.get hg) (k H locs ls hH hS hL)
theorem z_iadd (X : zX p s m args meth c D cl tys b0 G cc nL own Ts ret) {x y : Int32} (hdg : decode cc pc = .ok (.iadd, 1))  (k : zWw wr p l e R s m args below meth c D cl b0 nL cells slots Q N f (pc + 1) lv (.int (x + y) :: st)) : zWw wr p l e R s m args below meth c D cl b0 nL cells slots Q N f pc lv (.int y :: .int x :: st) := fun H locs ls hH hS hL => lv_iadd X.1 X.2.1 hdg  (k H locs ls hH hS hL)
theorem z_isub (X : zX p s m args meth c D cl tys b0 G cc nL own Ts ret) {x y : Int32} (hdg : decode cc pc = .ok (.isub, 1))  (k : zWw wr p l e R s m args below meth c D cl b0 nL cells slots Q N f (pc + 1) lv (.int (x - y) :: st)) : zWw wr p l e R s m args below meth c D cl b0 nL cells slots Q N f pc lv (.int y :: .int x :: st) := fun H locs ls hH hS hL => lv_isub X.1 X.2.1 hdg  (k H locs ls hH hS hL)
theorem z_imul (X : zX p s m args meth c D cl tys b0 G cc nL own Ts ret) {x y : Int32} (hdg : decode cc pc = .ok (.imul, 1))  (k : zWw wr p l e R s m args below meth c D cl b0 nL cells slots Q N f (pc + 1) lv (.int (x * y) :: st)) : zWw wr p l e R s m args below meth c D cl b0 nL cells slots Q N f pc lv (.int y :: .int x :: st) := fun H locs ls hH hS hL => lv_imul X.1 X.2.1 hdg  (k H locs ls hH hS hL)
theorem z_iand (X : zX p s m args meth c D cl tys b0 G cc nL own Ts ret) {x y : Int32} (hdg : decode cc pc = .ok (.iand, 1))  (k : zWw wr p l e R s m args below meth c D cl b0 nL cells slots Q N f (pc + 1) lv (.int (x &&& y) :: st)) : zWw wr p l e R s m args below meth c D cl b0 nL cells slots Q N f pc lv (.int y :: .int x :: st) := fun H locs ls hH hS hL => lv_iand X.1 X.2.1 hdg  (k H locs ls hH hS hL)
theorem z_ior (X : zX p s m args meth c D cl tys b0 G cc nL own Ts ret) {x y : Int32} (hdg : decode cc pc = .ok (.ior, 1))  (k : zWw wr p l e R s m args below meth c D cl b0 nL cells slots Q N f (pc + 1) lv (.int (x ||| y) :: st)) : zWw wr p l e R s m args below meth c D cl b0 nL cells slots Q N f pc lv (.int y :: .int x :: st) := fun H locs ls hH hS hL => lv_ior X.1 X.2.1 hdg  (k H locs ls hH hS hL)
theorem z_ixor (X : zX p s m args meth c D cl tys b0 G cc nL own Ts ret) {x y : Int32} (hdg : decode cc pc = .ok (.ixor, 1))  (k : zWw wr p l e R s m args below meth c D cl b0 nL cells slots Q N f (pc + 1) lv (.int (x ^^^ y) :: st)) : zWw wr p l e R s m args below meth c D cl b0 nL cells slots Q N f pc lv (.int y :: .int x :: st) := fun H locs ls hH hS hL => lv_ixor X.1 X.2.1 hdg  (k H locs ls hH hS hL)
theorem z_ishl (X : zX p s m args meth c D cl tys b0 G cc nL own Ts ret) {x y : Int32} (hdg : decode cc pc = .ok (.ishl, 1))  (k : zWw wr p l e R s m args below meth c D cl b0 nL cells slots Q N f (pc + 1) lv (.int (x <<< (y &&& 31)) :: st)) : zWw wr p l e R s m args below meth c D cl b0 nL cells slots Q N f pc lv (.int y :: .int x :: st) := fun H locs ls hH hS hL => lv_ishl X.1 X.2.1 hdg  (k H locs ls hH hS hL)
theorem z_ishr (X : zX p s m args meth c D cl tys b0 G cc nL own Ts ret) {x y : Int32} (hdg : decode cc pc = .ok (.ishr, 1))  (k : zWw wr p l e R s m args below meth c D cl b0 nL cells slots Q N f (pc + 1) lv (.int (x >>> (y &&& 31)) :: st)) : zWw wr p l e R s m args below meth c D cl b0 nL cells slots Q N f pc lv (.int y :: .int x :: st) := fun H locs ls hH hS hL => lv_ishr X.1 X.2.1 hdg  (k H locs ls hH hS hL)
theorem z_idiv (X : zX p s m args meth c D cl tys b0 G cc nL own Ts ret) {x y : Int32} (hdg : decode cc pc = .ok (.idiv, 1)) (hne : ¬ y = 0) (k : zWw wr p l e R s m args below meth c D cl b0 nL cells slots Q N f (pc + 1) lv (.int (x / y) :: st)) : zWw wr p l e R s m args below meth c D cl b0 nL cells slots Q N f pc lv (.int y :: .int x :: st) := fun H locs ls hH hS hL => lv_idiv X.1 X.2.1 hdg hne (k H locs ls hH hS hL)
theorem z_irem (X : zX p s m args meth c D cl tys b0 G cc nL own Ts ret) {x y : Int32} (hdg : decode cc pc = .ok (.irem, 1)) (hne : ¬ y = 0) (k : zWw wr p l e R s m args below meth c D cl b0 nL cells slots Q N f (pc + 1) lv (.int (x - x / y * y) :: st)) : zWw wr p l e R s m args below meth c D cl b0 nL cells slots Q N f pc lv (.int y :: .int x :: st) := fun H locs ls hH hS hL => lv_irem X.1 X.2.1 hdg hne (k H locs ls hH hS hL)
theorem z_ineg (X : zX p s m args meth c D cl tys b0 G cc nL own Ts ret) {x : Int32} (hdg : decode cc pc = .ok (.ineg, 1))  (k : zWw wr p l e R s m args below meth c D cl b0 nL cells slots Q N f (pc + 1) lv (.int (-x) :: st)) : zWw wr p l e R s m args below meth c D cl b0 nL cells slots Q N f pc lv (.int x :: st) := fun H locs ls hH hS hL => lv_ineg X.1 X.2.1 hdg  (k H locs ls hH hS hL)
theorem z_i2l (X : zX p s m args meth c D cl tys b0 G cc nL own Ts ret) {x : Int32} (hdg : decode cc pc = .ok (.i2l, 1)) {v : Int64} (hv : x.toInt64 = v) (k : zWw wr p l e R s m args below meth c D cl b0 nL cells slots Q N f (pc + 1) lv (.long v :: st)) : zWw wr p l e R s m args below meth c D cl b0 nL cells slots Q N f pc lv (.int x :: st) := fun H locs ls hH hS hL => lv_i2l X.1 X.2.1 hdg hv (k H locs ls hH hS hL)
theorem z_i2c (X : zX p s m args meth c D cl tys b0 G cc nL own Ts ret) {x : Int32} (hdg : decode cc pc = .ok (.i2c, 1)) {v : Int32} (hv : (x.toUInt32 % 65536).toInt32 = v) (k : zWw wr p l e R s m args below meth c D cl b0 nL cells slots Q N f (pc + 1) lv (.int v :: st)) : zWw wr p l e R s m args below meth c D cl b0 nL cells slots Q N f pc lv (.int x :: st) := fun H locs ls hH hS hL => lv_i2c X.1 X.2.1 hdg hv (k H locs ls hH hS hL)
theorem z_i2b (X : zX p s m args meth c D cl tys b0 G cc nL own Ts ret) {x : Int32} (hdg : decode cc pc = .ok (.i2b, 1)) {v : Int32} (hv : x.toInt8.toInt32 = v) (k : zWw wr p l e R s m args below meth c D cl b0 nL cells slots Q N f (pc + 1) lv (.int v :: st)) : zWw wr p l e R s m args below meth c D cl b0 nL cells slots Q N f pc lv (.int x :: st) := fun H locs ls hH hS hL => lv_i2b X.1 X.2.1 hdg hv (k H locs ls hH hS hL)
theorem z_dup (X : zX p s m args meth c D cl tys b0 G cc nL own Ts ret) {v : Value} (hdg : decode cc pc = .ok (.dup, 1)) (hv : v.category = 1) (k : zWw wr p l e R s m args below meth c D cl b0 nL cells slots Q N f (pc + 1) lv (v :: v :: st)) : zWw wr p l e R s m args below meth c D cl b0 nL cells slots Q N f pc lv (v :: st) := fun H locs ls hH hS hL => lv_dup X.1 X.2.1 hdg hv (k H locs ls hH hS hL)
theorem z_pop (X : zX p s m args meth c D cl tys b0 G cc nL own Ts ret) {v : Value} (hdg : decode cc pc = .ok (.pop, 1)) (hv : v.category = 1) (k : zWw wr p l e R s m args below meth c D cl b0 nL cells slots Q N f (pc + 1) lv st) : zWw wr p l e R s m args below meth c D cl b0 nL cells slots Q N f pc lv (v :: st) := fun H locs ls hH hS hL => lv_pop X.1 X.2.1 hdg hv (k H locs ls hH hS hL)
theorem z_dup_x1 (X : zX p s m args meth c D cl tys b0 G cc nL own Ts ret) {v w : Value} (hdg : decode cc pc = .ok (.dup_x1, 1)) (hv : v.category = 1) (hw : w.category = 1) (k : zWw wr p l e R s m args below meth c D cl b0 nL cells slots Q N f (pc + 1) lv (v :: w :: v :: st)) : zWw wr p l e R s m args below meth c D cl b0 nL cells slots Q N f pc lv (v :: w :: st) := fun H locs ls hH hS hL => lv_dup_x1 X.1 X.2.1 hdg hv hw (k H locs ls hH hS hL)
theorem z_dup_x2 (X : zX p s m args meth c D cl tys b0 G cc nL own Ts ret) {v w u : Value} (hdg : decode cc pc = .ok (.dup_x2, 1)) (hv : v.category = 1) (hw : w.category = 1) (hu : u.category = 1) (k : zWw wr p l e R s m args below meth c D cl b0 nL cells slots Q N f (pc + 1) lv (v :: w :: u :: v :: st)) : zWw wr p l e R s m args below meth c D cl b0 nL cells slots Q N f pc lv (v :: w :: u :: st) := fun H locs ls hH hS hL => lv_dup_x2 X.1 X.2.1 hdg hv hw hu (k H locs ls hH hS hL)
theorem z_dup2 (X : zX p s m args meth c D cl tys b0 G cc nL own Ts ret) {v w : Value} (hdg : decode cc pc = .ok (.dup2, 1)) (hv : v.category = 1) (hw : w.category = 1) (k : zWw wr p l e R s m args below meth c D cl b0 nL cells slots Q N f (pc + 1) lv (v :: w :: v :: w :: st)) : zWw wr p l e R s m args below meth c D cl b0 nL cells slots Q N f pc lv (v :: w :: st) := fun H locs ls hH hS hL => lv_dup2_11 X.1 X.2.1 hdg hv hw (k H locs ls hH hS hL)
theorem z_null (X : zX p s m args meth c D cl tys b0 G cc nL own Ts ret)  (hdg : decode cc pc = .ok (.aconst_null, 1))  (k : zWw wr p l e R s m args below meth c D cl b0 nL cells slots Q N f (pc + 1) lv (.null :: st)) : zWw wr p l e R s m args below meth c D cl b0 nL cells slots Q N f pc lv st := fun H locs ls hH hS hL => lv_null X.1 X.2.1 hdg  (k H locs ls hH hS hL)
theorem z_if_eq (X : zX p s m args meth c D cl tys b0 G cc nL own Ts ret) {x : Int32} {off : Int} (tgt : Nat) (hdg : decode cc pc = .ok (.ifCond .eq off, 3)) (ht : (pc : Int) + off = (tgt : Int)) (kt : x = 0 → zWw wr p l e R s m args below meth c D cl b0 nL cells slots Q N f tgt lv st) (kf : ¬ x = 0 → zWw wr p l e R s m args below meth c D cl b0 nL cells slots Q N f (pc + 3) lv st) : zWw wr p l e R s m args below meth c D cl b0 nL cells slots Q N f pc lv (.int x :: st) := fun H locs ls hH hS hL => lv_if_eq X.1 X.2.1 hdg ht (fun q => kt q H locs ls hH hS hL) (fun q => kf q H locs ls hH hS hL)
theorem z_icmp_eq (X : zX p s m args meth c D cl tys b0 G cc nL own Ts ret) {x y : Int32} {off : Int} (tgt : Nat) (hdg : decode cc pc = .ok (.if_icmp .eq off, 3)) (ht : (pc : Int) + off = (tgt : Int)) (kt : x = y → zWw wr p l e R s m args below meth c D cl b0 nL cells slots Q N f tgt lv st) (kf : ¬ x = y → zWw wr p l e R s m args below meth c D cl b0 nL cells slots Q N f (pc + 3) lv st) : zWw wr p l e R s m args below meth c D cl b0 nL cells slots Q N f pc lv (.int y :: .int x :: st) := fun H locs ls hH hS hL => lv_icmp_eq X.1 X.2.1 hdg ht (fun q => kt q H locs ls hH hS hL) (fun q => kf q H locs ls hH hS hL)
theorem z_if_ne (X : zX p s m args meth c D cl tys b0 G cc nL own Ts ret) {x : Int32} {off : Int} (tgt : Nat) (hdg : decode cc pc = .ok (.ifCond .ne off, 3)) (ht : (pc : Int) + off = (tgt : Int)) (kt : ¬ x = 0 → zWw wr p l e R s m args below meth c D cl b0 nL cells slots Q N f tgt lv st) (kf : x = 0 → zWw wr p l e R s m args below meth c D cl b0 nL cells slots Q N f (pc + 3) lv st) : zWw wr p l e R s m args below meth c D cl b0 nL cells slots Q N f pc lv (.int x :: st) := fun H locs ls hH hS hL => lv_if_ne X.1 X.2.1 hdg ht (fun q => kt q H locs ls hH hS hL) (fun q => kf q H locs ls hH hS hL)
theorem z_icmp_ne (X : zX p s m args meth c D cl tys b0 G cc nL own Ts ret) {x y : Int32} {off : Int} (tgt : Nat) (hdg : decode cc pc = .ok (.if_icmp .ne off, 3)) (ht : (pc : Int) + off = (tgt : Int)) (kt : ¬ x = y → zWw wr p l e R s m args below meth c D cl b0 nL cells slots Q N f tgt lv st) (kf : x = y → zWw wr p l e R s m args below meth c D cl b0 nL cells slots Q N f (pc + 3) lv st) : zWw wr p l e R s m args below meth c D cl b0 nL cells slots Q N f pc lv (.int y :: .int x :: st) := fun H locs ls hH hS hL => lv_icmp_ne X.1 X.2.1 hdg ht (fun q => kt q H locs ls hH hS hL) (fun q => kf q H locs ls hH hS hL)
theorem z_if_lt (X : zX p s m args meth c D cl tys b0 G cc nL own Ts ret) {x : Int32} {off : Int} (tgt : Nat) (hdg : decode cc pc = .ok (.ifCond .lt off, 3)) (ht : (pc : Int) + off = (tgt : Int)) (kt : x < 0 → zWw wr p l e R s m args below meth c D cl b0 nL cells slots Q N f tgt lv st) (kf : ¬ x < 0 → zWw wr p l e R s m args below meth c D cl b0 nL cells slots Q N f (pc + 3) lv st) : zWw wr p l e R s m args below meth c D cl b0 nL cells slots Q N f pc lv (.int x :: st) := fun H locs ls hH hS hL => lv_if_lt X.1 X.2.1 hdg ht (fun q => kt q H locs ls hH hS hL) (fun q => kf q H locs ls hH hS hL)
theorem z_icmp_lt (X : zX p s m args meth c D cl tys b0 G cc nL own Ts ret) {x y : Int32} {off : Int} (tgt : Nat) (hdg : decode cc pc = .ok (.if_icmp .lt off, 3)) (ht : (pc : Int) + off = (tgt : Int)) (kt : x < y → zWw wr p l e R s m args below meth c D cl b0 nL cells slots Q N f tgt lv st) (kf : ¬ x < y → zWw wr p l e R s m args below meth c D cl b0 nL cells slots Q N f (pc + 3) lv st) : zWw wr p l e R s m args below meth c D cl b0 nL cells slots Q N f pc lv (.int y :: .int x :: st) := fun H locs ls hH hS hL => lv_icmp_lt X.1 X.2.1 hdg ht (fun q => kt q H locs ls hH hS hL) (fun q => kf q H locs ls hH hS hL)
theorem z_if_ge (X : zX p s m args meth c D cl tys b0 G cc nL own Ts ret) {x : Int32} {off : Int} (tgt : Nat) (hdg : decode cc pc = .ok (.ifCond .ge off, 3)) (ht : (pc : Int) + off = (tgt : Int)) (kt : 0 ≤ x → zWw wr p l e R s m args below meth c D cl b0 nL cells slots Q N f tgt lv st) (kf : ¬ 0 ≤ x → zWw wr p l e R s m args below meth c D cl b0 nL cells slots Q N f (pc + 3) lv st) : zWw wr p l e R s m args below meth c D cl b0 nL cells slots Q N f pc lv (.int x :: st) := fun H locs ls hH hS hL => lv_if_ge X.1 X.2.1 hdg ht (fun q => kt q H locs ls hH hS hL) (fun q => kf q H locs ls hH hS hL)
theorem z_icmp_ge (X : zX p s m args meth c D cl tys b0 G cc nL own Ts ret) {x y : Int32} {off : Int} (tgt : Nat) (hdg : decode cc pc = .ok (.if_icmp .ge off, 3)) (ht : (pc : Int) + off = (tgt : Int)) (kt : y ≤ x → zWw wr p l e R s m args below meth c D cl b0 nL cells slots Q N f tgt lv st) (kf : ¬ y ≤ x → zWw wr p l e R s m args below meth c D cl b0 nL cells slots Q N f (pc + 3) lv st) : zWw wr p l e R s m args below meth c D cl b0 nL cells slots Q N f pc lv (.int y :: .int x :: st) := fun H locs ls hH hS hL => lv_icmp_ge X.1 X.2.1 hdg ht (fun q => kt q H locs ls hH hS hL) (fun q => kf q H locs ls hH hS hL)
theorem z_if_gt (X : zX p s m args meth c D cl tys b0 G cc nL own Ts ret) {x : Int32} {off : Int} (tgt : Nat) (hdg : decode cc pc = .ok (.ifCond .gt off, 3)) (ht : (pc : Int) + off = (tgt : Int)) (kt : 0 < x → zWw wr p l e R s m args below meth c D cl b0 nL cells slots Q N f tgt lv st) (kf : ¬ 0 < x → zWw wr p l e R s m args below meth c D cl b0 nL cells slots Q N f (pc + 3) lv st) : zWw wr p l e R s m args below meth c D cl b0 nL cells slots Q N f pc lv (.int x :: st) := fun H locs ls hH hS hL => lv_if_gt X.1 X.2.1 hdg ht (fun q => kt q H locs ls hH hS hL) (fun q => kf q H locs ls hH hS hL)
theorem z_icmp_gt (X : zX p s m args meth c D cl tys b0 G cc nL own Ts ret) {x y : Int32} {off : Int} (tgt : Nat) (hdg : decode cc pc = .ok (.if_icmp .gt off, 3)) (ht : (pc : Int) + off = (tgt : Int)) (kt : y < x → zWw wr p l e R s m args below meth c D cl b0 nL cells slots Q N f tgt lv st) (kf : ¬ y < x → zWw wr p l e R s m args below meth c D cl b0 nL cells slots Q N f (pc + 3) lv st) : zWw wr p l e R s m args below meth c D cl b0 nL cells slots Q N f pc lv (.int y :: .int x :: st) := fun H locs ls hH hS hL => lv_icmp_gt X.1 X.2.1 hdg ht (fun q => kt q H locs ls hH hS hL) (fun q => kf q H locs ls hH hS hL)
theorem z_if_le (X : zX p s m args meth c D cl tys b0 G cc nL own Ts ret) {x : Int32} {off : Int} (tgt : Nat) (hdg : decode cc pc = .ok (.ifCond .le off, 3)) (ht : (pc : Int) + off = (tgt : Int)) (kt : x ≤ 0 → zWw wr p l e R s m args below meth c D cl b0 nL cells slots Q N f tgt lv st) (kf : ¬ x ≤ 0 → zWw wr p l e R s m args below meth c D cl b0 nL cells slots Q N f (pc + 3) lv st) : zWw wr p l e R s m args below meth c D cl b0 nL cells slots Q N f pc lv (.int x :: st) := fun H locs ls hH hS hL => lv_if_le X.1 X.2.1 hdg ht (fun q => kt q H locs ls hH hS hL) (fun q => kf q H locs ls hH hS hL)
theorem z_icmp_le (X : zX p s m args meth c D cl tys b0 G cc nL own Ts ret) {x y : Int32} {off : Int} (tgt : Nat) (hdg : decode cc pc = .ok (.if_icmp .le off, 3)) (ht : (pc : Int) + off = (tgt : Int)) (kt : x ≤ y → zWw wr p l e R s m args below meth c D cl b0 nL cells slots Q N f tgt lv st) (kf : ¬ x ≤ y → zWw wr p l e R s m args below meth c D cl b0 nL cells slots Q N f (pc + 3) lv st) : zWw wr p l e R s m args below meth c D cl b0 nL cells slots Q N f pc lv (.int y :: .int x :: st) := fun H locs ls hH hS hL => lv_icmp_le X.1 X.2.1 hdg ht (fun q => kt q H locs ls hH hS hL) (fun q => kf q H locs ls hH hS hL)
theorem z_goto (X : zX p s m args meth c D cl tys b0 G cc nL own Ts ret) {off : Int} (tgt : Nat) (hdg : decode cc pc = .ok (.goto off, 3)) (ht : (pc : Int) + off = (tgt : Int)) (k : zWw wr p l e R s m args below meth c D cl b0 nL cells slots Q N f tgt lv st) : zWw wr p l e R s m args below meth c D cl b0 nL cells slots Q N f pc lv st := fun H locs ls hH hS hL => lv_goto X.1 X.2.1 hdg ht (k H locs ls hH hS hL)
theorem z_ifnonnull (X : zX p s m args meth c D cl tys b0 G cc nL own Ts ret) {x : Nat} {off : Int} (tgt : Nat) (hdg : decode cc pc = .ok (.ifnonnull off, 3)) (ht : (pc : Int) + off = (tgt : Int)) (k : zWw wr p l e R s m args below meth c D cl b0 nL cells slots Q N f tgt lv st) : zWw wr p l e R s m args below meth c D cl b0 nL cells slots Q N f pc lv (.ref x :: st) := fun H locs ls hH hS hL => lv_ifnonnull X.1 X.2.1 hdg ht (k H locs ls hH hS hL)
theorem z_ifnonnullN (X : zX p s m args meth c D cl tys b0 G cc nL own Ts ret) {off : Int} (hdg : decode cc pc = .ok (.ifnonnull off, 3)) (k : zWw wr p l e R s m args below meth c D cl b0 nL cells slots Q N f (pc + 3) lv st) : zWw wr p l e R s m args below meth c D cl b0 nL cells slots Q N f pc lv (.null :: st) := fun H locs ls hH hS hL => lv_ifnonnullN X.1 X.2.1 hdg (k H locs ls hH hS hL)
theorem z_ifnull (X : zX p s m args meth c D cl tys b0 G cc nL own Ts ret) {x : Nat} {off : Int} (hdg : decode cc pc = .ok (.ifnull off, 3)) (k : zWw wr p l e R s m args below meth c D cl b0 nL cells slots Q N f (pc + 3) lv st) : zWw wr p l e R s m args below meth c D cl b0 nL cells slots Q N f pc lv (.ref x :: st) := fun H locs ls hH hS hL => lv_ifnull X.1 X.2.1 hdg (k H locs ls hH hS hL)
theorem z_ifnullN (X : zX p s m args meth c D cl tys b0 G cc nL own Ts ret) {off : Int} (tgt : Nat) (hdg : decode cc pc = .ok (.ifnull off, 3)) (ht : (pc : Int) + off = (tgt : Int)) (k : zWw wr p l e R s m args below meth c D cl b0 nL cells slots Q N f tgt lv st) : zWw wr p l e R s m args below meth c D cl b0 nL cells slots Q N f pc lv (.null :: st) := fun H locs ls hH hS hL => lv_ifnullN X.1 X.2.1 hdg ht (k H locs ls hH hS hL)
theorem z_lookup (X : zX p s m args meth c D cl tys b0 G cc nL own Ts ret) {dflt : Int} {ps : Array (Int × Int)} {len : Nat} {x : Int32} {off : Int} (tgt : Nat) (hdg : decode cc pc = .ok (.lookupswitch dflt ps, len)) (hp : (ps.toList.zip (ps.toList.drop 1)).all (fun (a, next) => a.1 < next.1) = true) (ho : Op.lookupswitch.offset ps.toList dflt x.toInt = off) (ht : (pc : Int) + off = (tgt : Int)) (k : zWw wr p l e R s m args below meth c D cl b0 nL cells slots Q N f tgt lv st) : zWw wr p l e R s m args below meth c D cl b0 nL cells slots Q N f pc lv (.int x :: st) := fun H locs ls hH hS hL => lv_lookup X.1 X.2.1 hdg hp ho ht (k H locs ls hH hS hL)
theorem z_tableOut (X : zX p s m args meth c D cl tys b0 G cc nL own Ts ret) {dflt lo hi : Int} {offs : Array Int} {len : Nat} {x : Int32} (tgt : Nat) (hdg : decode cc pc = .ok (.tableswitch dflt lo hi offs, len)) (h : x.toInt < lo ∨ hi < x.toInt) (ht : (pc : Int) + dflt = (tgt : Int)) (k : zWw wr p l e R s m args below meth c D cl b0 nL cells slots Q N f tgt lv st) : zWw wr p l e R s m args below meth c D cl b0 nL cells slots Q N f pc lv (.int x :: st) := fun H locs ls hH hS hL => lv_tableOut X.1 X.2.1 hdg h ht (k H locs ls hH hS hL)
theorem z_tableIn (X : zX p s m args meth c D cl tys b0 G cc nL own Ts ret) {dflt lo hi : Int} {offs : Array Int} {len : Nat} {x : Int32} {off : Int} (tgt : Nat) (hdg : decode cc pc = .ok (.tableswitch dflt lo hi offs, len)) (h1 : ¬ x.toInt < lo) (h2 : ¬ hi < x.toInt) (ho : offs[(x.toInt - lo).toNat]? = some off) (ht : (pc : Int) + off = (tgt : Int)) (k : zWw wr p l e R s m args below meth c D cl b0 nL cells slots Q N f tgt lv st) : zWw wr p l e R s m args below meth c D cl b0 nL cells slots Q N f pc lv (.int x :: st) := fun H locs ls hH hS hL => lv_tableIn X.1 X.2.1 hdg h1 h2 ho ht (k H locs ls hH hS hL)
theorem z_istore_n (X : zX p s m args meth c D cl tys b0 G cc nL own Ts ret) {k : Fin 4} {x : Int32} (hdg : decode cc pc = .ok (.istore_n k, 1)) (hn : (k : Nat) < nL) (hz : zok lv (k : Nat) = true) (kk : zWw wr p l e R s m args below meth c D cl b0 nL cells slots Q N f (pc + 1) (zs lv (k : Nat) (.int x)) st) : zWw wr p l e R s m args below meth c D cl b0 nL cells slots Q N f pc lv (.int x :: st) := fun H locs ls hH hS hL => lv_istore_n X.1 X.2.1 hdg rfl hL hn rfl (fun ls' h' => kk H locs ls' hH hS (zL.sto hz h'))
theorem z_istore (X : zX p s m args meth c D cl tys b0 G cc nL own Ts ret) {i : Nat} {x : Int32} (hdg : decode cc pc = .ok (.istore i, 2)) (hn : i < nL) (hz : zok lv i = true) (kk : zWw wr p l e R s m args below meth c D cl b0 nL cells slots Q N f (pc + 2) (zs lv i (.int x)) st) : zWw wr p l e R s m args below meth c D cl b0 nL cells slots Q N f pc lv (.int x :: st) := fun H locs ls hH hS hL => lv_istore X.1 X.2.1 hdg hL hn rfl (fun ls' h' => kk H locs ls' hH hS (zL.sto hz h'))
theorem z_astore_n (X : zX p s m args meth c D cl tys b0 G cc nL own Ts ret) {k : Fin 4} {x : Nat} (hdg : decode cc pc = .ok (.astore_n k, 1)) (hn : (k : Nat) < nL) (hz : zok lv (k : Nat) = true) (kk : zWw wr p l e R s m args below meth c D cl b0 nL cells slots Q N f (pc + 1) (zs lv (k : Nat) (.ref x)) st) : zWw wr p l e R s m args below meth c D cl b0 nL cells slots Q N f pc lv (.ref x :: st) := fun H locs ls hH hS hL => lv_astore_n X.1 X.2.1 hdg rfl hL hn rfl (fun ls' h' => kk H locs ls' hH hS (zL.sto hz h'))
theorem z_astore (X : zX p s m args meth c D cl tys b0 G cc nL own Ts ret) {i : Nat} {x : Nat} (hdg : decode cc pc = .ok (.astore i, 2)) (hn : i < nL) (hz : zok lv i = true) (kk : zWw wr p l e R s m args below meth c D cl b0 nL cells slots Q N f (pc + 2) (zs lv i (.ref x)) st) : zWw wr p l e R s m args below meth c D cl b0 nL cells slots Q N f pc lv (.ref x :: st) := fun H locs ls hH hS hL => lv_astore X.1 X.2.1 hdg hL hn rfl (fun ls' h' => kk H locs ls' hH hS (zL.sto hz h'))
theorem z_astore_nN (X : zX p s m args meth c D cl tys b0 G cc nL own Ts ret) {k : Fin 4} (hdg : decode cc pc = .ok (.astore_n k, 1)) (hn : (k : Nat) < nL) (hz : zok lv (k : Nat) = true) (kk : zWw wr p l e R s m args below meth c D cl b0 nL cells slots Q N f (pc + 1) (zs lv (k : Nat) (.null)) st) : zWw wr p l e R s m args below meth c D cl b0 nL cells slots Q N f pc lv (.null :: st) := fun H locs ls hH hS hL => lv_astore_nN X.1 X.2.1 hdg rfl hL hn rfl (fun ls' h' => kk H locs ls' hH hS (zL.sto hz h'))
theorem z_astoreN (X : zX p s m args meth c D cl tys b0 G cc nL own Ts ret) {i : Nat} (hdg : decode cc pc = .ok (.astore i, 2)) (hn : i < nL) (hz : zok lv i = true) (kk : zWw wr p l e R s m args below meth c D cl b0 nL cells slots Q N f (pc + 2) (zs lv i (.null)) st) : zWw wr p l e R s m args below meth c D cl b0 nL cells slots Q N f pc lv (.null :: st) := fun H locs ls hH hS hL => lv_astoreN X.1 X.2.1 hdg hL hn rfl (fun ls' h' => kk H locs ls' hH hS (zL.sto hz h'))
theorem z_iinc (X : zX p s m args meth c D cl tys b0 G cc nL own Ts ret) {i : Nat} {n : Int} {x v : Int32} (hdg : decode cc pc = .ok (.iinc i n, 3)) (hg : zg lv i = some (.int x)) (hv : x + Int32.ofInt n = v) (hn : i < nL) (hz : zok lv i = true) (kk : zWw wr p l e R s m args below meth c D cl b0 nL cells slots Q N f (pc + 3) (zs lv i (.int v)) st) : zWw wr p l e R s m args below meth c D cl b0 nL cells slots Q N f pc lv st := fun H locs ls hH hS hL => by
  obtain ⟨k, hk⟩ := List.getElem?_of_mem (zg_mem hg)
  exact lv_iinc X.1 X.2.1 hdg hL hk hv hn rfl (fun ls' h' => kk H locs ls' hH hS (zL.sto hz h'))
theorem z_ldc (X : zX p s m args meth c D cl tys b0 G cc nL own Ts ret) {index : Nat} {v : Int32} (hdg : decode cc pc = .ok (.ldc index, 2)) (hc : Jvm.Cond.constant own index v ∈ Ts) (k : zWw wr p l e R s m args below meth c D cl b0 nL cells slots Q N f (pc + 2) lv (.int v :: st)) : zWw wr p l e R s m args below meth c D cl b0 nL cells slots Q N f pc lv st := fun H locs ls hH hS hL => lv_ldc X.1 X.2.1 X.2.2.2.1 (X.2.2.2.2.1 _ hc) hdg (k H locs ls hH hS hL)
theorem z_ldcw (X : zX p s m args meth c D cl tys b0 G cc nL own Ts ret) {index : Nat} {v : Int32} (hdg : decode cc pc = .ok (.ldc_w index, 3)) (hc : Jvm.Cond.constant own index v ∈ Ts) (k : zWw wr p l e R s m args below meth c D cl b0 nL cells slots Q N f (pc + 3) lv (.int v :: st)) : zWw wr p l e R s m args below meth c D cl b0 nL cells slots Q N f pc lv st := fun H locs ls hH hS hL => lv_ldcw X.1 X.2.1 X.2.2.2.1 (X.2.2.2.2.1 _ hc) hdg (k H locs ls hH hS hL)
theorem z_lconst (X : zX p s m args meth c D cl tys b0 G cc nL own Ts ret) {n : Fin 2} (hdg : decode cc pc = .ok (.lconst n, 1)) {v : Int64} (hv : Int64.ofNat (n : Nat) = v) (k : zWw wr p l e R s m args below meth c D cl b0 nL cells slots Q N f (pc + 1) lv (.long v :: st)) : zWw wr p l e R s m args below meth c D cl b0 nL cells slots Q N f pc lv st := fun H locs ls hH hS hL => lv_lconst X.1 X.2.1 hdg hv (k H locs ls hH hS hL)
theorem z_lload_n (X : zX p s m args meth c D cl tys b0 G cc nL own Ts ret) {k : Fin 4} {x : Int64} (hdg : decode cc pc = .ok (.lload_n k, 1)) (hg : zg lv (k : Nat) = some (.long x)) (k : zWw wr p l e R s m args below meth c D cl b0 nL cells slots Q N f (pc + 1) lv (.long x :: st)) : zWw wr p l e R s m args below meth c D cl b0 nL cells slots Q N f pc lv st := fun H locs ls hH hS hL => lv_lload_n X.1 X.2.1 hdg rfl (hL.get hg) (k H locs ls hH hS hL)
theorem z_lload (X : zX p s m args meth c D cl tys b0 G cc nL own Ts ret) {i : Nat} {x : Int64} (hdg : decode cc pc = .ok (.lload i, 2)) (hg : zg lv i = some (.long x)) (k : zWw wr p l e R s m args below meth c D cl b0 nL cells slots Q N f (pc + 2) lv (.long x :: st)) : zWw wr p l e R s m args below meth c D cl b0 nL cells slots Q N f pc lv st := fun H locs ls hH hS hL => lv_lload X.1 X.2.1 hdg (hL.get hg) (k H locs ls hH hS hL)
theorem z_ladd (X : zX p s m args meth c D cl tys b0 G cc nL own Ts ret) {x y : Int64} (hdg : decode cc pc = .ok (.ladd, 1))  (k : zWw wr p l e R s m args below meth c D cl b0 nL cells slots Q N f (pc + 1) lv (.long (x + y) :: st)) : zWw wr p l e R s m args below meth c D cl b0 nL cells slots Q N f pc lv (.long y :: .long x :: st) := fun H locs ls hH hS hL => lv_ladd X.1 X.2.1 hdg  (k H locs ls hH hS hL)
theorem z_lsub (X : zX p s m args meth c D cl tys b0 G cc nL own Ts ret) {x y : Int64} (hdg : decode cc pc = .ok (.lsub, 1))  (k : zWw wr p l e R s m args below meth c D cl b0 nL cells slots Q N f (pc + 1) lv (.long (x - y) :: st)) : zWw wr p l e R s m args below meth c D cl b0 nL cells slots Q N f pc lv (.long y :: .long x :: st) := fun H locs ls hH hS hL => lv_lsub X.1 X.2.1 hdg  (k H locs ls hH hS hL)
theorem z_lmul (X : zX p s m args meth c D cl tys b0 G cc nL own Ts ret) {x y : Int64} (hdg : decode cc pc = .ok (.lmul, 1))  (k : zWw wr p l e R s m args below meth c D cl b0 nL cells slots Q N f (pc + 1) lv (.long (x * y) :: st)) : zWw wr p l e R s m args below meth c D cl b0 nL cells slots Q N f pc lv (.long y :: .long x :: st) := fun H locs ls hH hS hL => lv_lmul X.1 X.2.1 hdg  (k H locs ls hH hS hL)
theorem z_l2i (X : zX p s m args meth c D cl tys b0 G cc nL own Ts ret) {x : Int64} (hdg : decode cc pc = .ok (.l2i, 1)) {v : Int32} (hv : x.toInt32 = v) (k : zWw wr p l e R s m args below meth c D cl b0 nL cells slots Q N f (pc + 1) lv (.int v :: st)) : zWw wr p l e R s m args below meth c D cl b0 nL cells slots Q N f pc lv (.long x :: st) := fun H locs ls hH hS hL => lv_l2i X.1 X.2.1 hdg hv (k H locs ls hH hS hL)
theorem z_lcmp (X : zX p s m args meth c D cl tys b0 G cc nL own Ts ret) {x y : Int64} (hdg : decode cc pc = .ok (.lcmp, 1))  (k : zWw wr p l e R s m args below meth c D cl b0 nL cells slots Q N f (pc + 1) lv (.int (lg_cmp x y) :: st)) : zWw wr p l e R s m args below meth c D cl b0 nL cells slots Q N f pc lv (.long y :: .long x :: st) := fun H locs ls hH hS hL => W.lcmp X.1 X.2.1 hdg  (k H locs ls hH hS hL)
theorem z_dup2L (X : zX p s m args meth c D cl tys b0 G cc nL own Ts ret) {v : Value} (hdg : decode cc pc = .ok (.dup2, 1)) (hv : v.category = 2) (k : zWw wr p l e R s m args below meth c D cl b0 nL cells slots Q N f (pc + 1) lv (v :: v :: st)) : zWw wr p l e R s m args below meth c D cl b0 nL cells slots Q N f pc lv (v :: st) := fun H locs ls hH hS hL => lv_dup2_2 X.1 X.2.1 hdg hv (k H locs ls hH hS hL)
theorem z_lstore_n (X : zX p s m args meth c D cl tys b0 G cc nL own Ts ret) {k : Fin 4} {x : Int64} (hdg : decode cc pc = .ok (.lstore_n k, 1)) (hn : (k : Nat) + 1 < nL) (hz : zok2 lv (k : Nat) = true) (kk : zWw wr p l e R s m args below meth c D cl b0 nL cells slots Q N f (pc + 1) (zs lv (k : Nat) (.long x)) st) : zWw wr p l e R s m args below meth c D cl b0 nL cells slots Q N f pc lv (.long x :: st) := fun H locs ls hH hS hL => lv_lstore_n X.1 X.2.1 hdg rfl hL hn rfl (fun ls' h' => kk H locs ls' hH hS (zL.sto2 hz h'))
theorem z_lstore (X : zX p s m args meth c D cl tys b0 G cc nL own Ts ret) {i : Nat} {x : Int64} (hdg : decode cc pc = .ok (.lstore i, 2)) (hn : i + 1 < nL) (hz : zok2 lv i = true) (kk : zWw wr p l e R s m args below meth c D cl b0 nL cells slots Q N f (pc + 2) (zs lv i (.long x)) st) : zWw wr p l e R s m args below meth c D cl b0 nL cells slots Q N f pc lv (.long x :: st) := fun H locs ls hH hS hL => lv_lstore X.1 X.2.1 hdg hL hn rfl (fun ls' h' => kk H locs ls' hH hS (zL.sto2 hz h'))
theorem z_ldc2 (X : zX p s m args meth c D cl tys b0 G cc nL own Ts ret) {index : Nat} {v : Int64} (hdg : decode cc pc = .ok (.ldc2_w index, 3)) (hc : Jvm.Cond.constantLong own index v ∈ Ts) (k : zWw wr p l e R s m args below meth c D cl b0 nL cells slots Q N f (pc + 3) lv (.long v :: st)) : zWw wr p l e R s m args below meth c D cl b0 nL cells slots Q N f pc lv st := fun H locs ls hH hS hL => lv_ldc2 X.1 X.2.1 X.2.2.2.1 (X.2.2.2.2.1 _ hc) hdg (k H locs ls hH hS hL)
theorem z_get (X : zX p s m args meth c D cl tys b0 G cc nL own Ts ret) {ref C : String} {T : u_T} {n ci index a : Nat} {fs : List Value} {v : Value} (hdg : decode cc pc = .ok (.getfield index, 3)) (ha : b0 ≤ a ∧ a < N) (hf : f a = .inr (ci, fs)) (hc : cl[ci]? = some (C, T, n)) (hin : ∀ w ∈ u_ws C T n, w ∈ Ts) (k : Nat) (hk : k < n) (hlink : Cond.fieldLink own index ref (T k).2.1 (T k).2.2.1 ∈ Ts) (href : (T k).1 = ref) (hv : fs[k]? = some v) (kk : zWw wr p l e R s m args below meth c D cl b0 nL cells slots Q N f (pc + 3) lv (v :: st)) : zWw wr p l e R s m args below meth c D cl b0 nL cells slots Q N f pc lv (.ref a :: st) := fun H locs ls hH hS hL => by
  have h1 := hH.use ha hf (zJo hc)
  exact va_get (ws := [(a, .inr (ci, fs))]) X.1 X.2.1 X.2.2.2.2.1 hin X.2.2.2.1 X.2.2.2.2.2.2.1 (zP1 h1) 0 rfl hc k hk (X.2.2.2.2.1 _ hlink) (fun y hy => by rw [← href]; exact hy) hv hdg (kk H locs ls hH hS hL)
theorem z_getN (X : zX p s m args meth c D cl tys b0 G cc nL own Ts ret) {ref C : String} {T : u_T} {n ci index a : Nat} {fs : List Value} {v : Value} {host : String} (hdg : decode cc pc = .ok (.getfield index, 3)) (ha : b0 ≤ a ∧ a < N) (hf : f a = .inr (ci, fs)) (hc : cl[ci]? = some (C, T, n)) (hin : ∀ w ∈ u_ws C T n, w ∈ Ts) (k : Nat) (hk : k < n) (hlink : va_Nw (Cond.fieldLinkNest own index ref (T k).2.1 (T k).2.2.1 host) s) (href : (T k).1 = ref) (hv : fs[k]? = some v) (kk : zWw wr p l e R s m args below meth c D cl b0 nL cells slots Q N f (pc + 3) lv (v :: st)) : zWw wr p l e R s m args below meth c D cl b0 nL cells slots Q N f pc lv (.ref a :: st) := fun H locs ls hH hS hL => by
  have h1 := hH.use ha hf (zJo hc)
  exact va_getN (ws := [(a, .inr (ci, fs))]) X.1 X.2.1 X.2.2.2.2.1 hin X.2.2.2.1 X.2.2.2.2.2.2.1 (zP1 h1) 0 rfl hc k hk (va_Nw.use rfl hlink) (fun y hy => by rw [← href]; exact hy) hv hdg (kk H locs ls hH hS hL)
theorem z_put (X : zX p s m args meth c D cl tys b0 G cc nL own Ts ret) {ref C : String} {T : u_T} {n ci index a : Nat} {fs : List Value} {v : Value} {ty : FieldType} (ty0 : Nat → FieldType) (hty : ∀ k, k < n → parseFieldDescriptor (T k).2.2.1 = some (ty0 k)) (hnm : ∀ a, a < n → ∀ b, b < n → a ≠ b → (T a).2.1 ≠ (T b).2.1) (hdg : decode cc pc = .ok (.putfield index, 3)) (ha : b0 ≤ a ∧ a < N) (hf : f a = .inr (ci, fs)) (hc : cl[ci]? = some (C, T, n)) (hin : ∀ w ∈ u_ws C T n, w ∈ Ts) (k : Nat) (hk : k < n) (hlink : Cond.fieldLink own index ref (T k).2.1 (T k).2.2.1 ∈ Ts) (href : (T k).1 = ref) (hfin : (T k).2.2.2 = false) (htk : ty0 k = ty) (hn : narrow ty v = v) (hfit : fits ty v = true) (hl : k < fs.length) (kk : zW p l e R s m args below meth c D cl b0 nL cells slots Q N (va_up f a (.inr (ci, fs.set k v))) (pc + 3) lv st) : zW p l e R s m args below meth c D cl b0 nL cells slots Q N f pc lv (v :: .ref a :: st) := fun H locs ls hH hS hL => by
  have h1 := hH.use ha hf (zJo hc)
  have hts := X.2.2.2.2.1
  have hK := X.2.2.2.2.2.2.1
  have hap := va_apart (own := own) hts hin ty0 hty hnm hK hc
  obtain ⟨r, h2, cell, q1, q2, q3, q4⟩ := h1
  have hr : r = (C, T, n) := Option.some.inj (h2.symm.trans hc)
  subst hr
  obtain ⟨hSl, hfc, kC, hkC, hkind⟩ := hK.1 ci _ hc
  obtain ⟨cf, kf, fi, fd, hi, hsl⟩ := hSl k hk
  have hd : parseFieldDescriptor (T k).2.2.1 = some ty := by rw [hty k hk, htk]
  have hlay := hts _ (hin _ (u_in_lay hk))
  unfold u_lay at hlay
  have hst := (u_facts hfc hkC (u_lays hts hin hk) hi).1
  have hi2 : s.fieldFound? ref (T k).2.1 (T k).2.2.1 = some (cf, kf, fi, fd) := by rw [← href]; exact hi
  rw [if_neg (by rw [hfin]; decide)] at hlay
  have h6 := u_store hfc hkC hkind hlay hi hd hn hfit
  refine W.putK X.1 X.2.1 (f := fd) ⟨X.2.2.2.1, hts _ hlink, ⟨_, _, _, hi2⟩, hst⟩ (by rw [q2]; exact h6) q1 q3 (by rw [hsl]; exact k2_hasslot (q4 k hk)) rfl rfl hdg fun H' e1 e2 e3 => ?_
  rw [hsl] at e1 ⊢
  exact kk H' _ ls (hH.set e2 ⟨_, hc, t_OB.to (V := updV (vp_V fs) k v) ⟨_, e1, q2, q3, t_set q4 hap hk v⟩ (fun j _ => vp_updV_set hl v j)⟩ e3) (zS_put hS e2 e3 ha.1) hL
theorem z_putN (X : zX p s m args meth c D cl tys b0 G cc nL own Ts ret) {ref C : String} {T : u_T} {n ci index a : Nat} {fs : List Value} {v : Value} {ty : FieldType} (ty0 : Nat → FieldType) (hty : ∀ k, k < n → parseFieldDescriptor (T k).2.2.1 = some (ty0 k)) (hnm : ∀ a, a < n → ∀ b, b < n → a ≠ b → (T a).2.1 ≠ (T b).2.1) {host : String} (hdg : decode cc pc = .ok (.putfield index, 3)) (ha : b0 ≤ a ∧ a < N) (hf : f a = .inr (ci, fs)) (hc : cl[ci]? = some (C, T, n)) (hin : ∀ w ∈ u_ws C T n, w ∈ Ts) (k : Nat) (hk : k < n) (hlink : va_Nw (Cond.fieldLinkNest own index ref (T k).2.1 (T k).2.2.1 host) s) (href : (T k).1 = ref) (hfin : (T k).2.2.2 = false) (htk : ty0 k = ty) (hn : narrow ty v = v) (hfit : fits ty v = true) (hl : k < fs.length) (kk : zW p l e R s m args below meth c D cl b0 nL cells slots Q N (va_up f a (.inr (ci, fs.set k v))) (pc + 3) lv st) : zW p l e R s m args below meth c D cl b0 nL cells slots Q N f pc lv (v :: .ref a :: st) := fun H locs ls hH hS hL => by
  have h1 := hH.use ha hf (zJo hc)
  have hts := X.2.2.2.2.1
  have hK := X.2.2.2.2.2.2.1
  have hap := va_apart (own := own) hts hin ty0 hty hnm hK hc
  obtain ⟨r, h2, cell, q1, q2, q3, q4⟩ := h1
  have hr : r = (C, T, n) := Option.some.inj (h2.symm.trans hc)
  subst hr
  obtain ⟨hSl, hfc, kC, hkC, hkind⟩ := hK.1 ci _ hc
  obtain ⟨cf, kf, fi, fd, hi, hsl⟩ := hSl k hk
  have hd : parseFieldDescriptor (T k).2.2.1 = some ty := by rw [hty k hk, htk]
  have hlay := hts _ (hin _ (u_in_lay hk))
  unfold u_lay at hlay
  have hst := (u_facts hfc hkC (u_lays hts hin hk) hi).1
  have hi2 : s.fieldFound? ref (T k).2.1 (T k).2.2.1 = some (cf, kf, fi, fd) := by rw [← href]; exact hi
  rw [if_neg (by rw [hfin]; decide)] at hlay
  have h6 := u_store hfc hkC hkind hlay hi hd hn hfit
  refine va_WputK X.1 X.2.1 (f := fd) X.2.2.2.1 (va_Nw.use rfl hlink) hi2 hst (by rw [q2]; exact h6) q1 q3 (by rw [hsl]; exact k2_hasslot (q4 k hk)) rfl rfl hdg fun H' e1 e2 e3 => ?_
  rw [hsl] at e1 ⊢
  exact kk H' _ ls (hH.set e2 ⟨_, hc, t_OB.to (V := updV (vp_V fs) k v) ⟨_, e1, q2, q3, t_set q4 hap hk v⟩ (fun j _ => vp_updV_set hl v j)⟩ e3) (zS_put hS e2 e3 ha.1) hL
theorem z_putF (X : zX p s m args meth c D cl tys b0 G cc nL own Ts ret) {ref C : String} {T : u_T} {n ci index a : Nat} {fs : List Value} {v : Value} {ty : FieldType} (ty0 : Nat → FieldType) (hty : ∀ k, k < n → parseFieldDescriptor (T k).2.2.1 = some (ty0 k)) (hnm : ∀ a, a < n → ∀ b, b < n → a ≠ b → (T a).2.1 ≠ (T b).2.1) (hdg : decode cc pc = .ok (.putfield index, 3)) (ha : b0 ≤ a ∧ a < N) (hf : f a = .inr (ci, fs)) (hc : cl[ci]? = some (C, T, n)) (hin : ∀ w ∈ u_ws C T n, w ∈ Ts) (k : Nat) (hk : k < n) (hlink : Cond.fieldLink own index ref (T k).2.1 (T k).2.2.1 ∈ Ts) (href : (T k).1 = ref) (hfin : (T k).2.2.2 = true) (hin2 : meth.name = "<init>") (hdecl : (T k).1 = own) (htk : ty0 k = ty) (hn : narrow ty v = v) (hfit : fits ty v = true) (hl : k < fs.length) (kk : zW p l e R s m args below meth c D cl b0 nL cells slots Q N (va_up f a (.inr (ci, fs.set k v))) (pc + 3) lv st) : zW p l e R s m args below meth c D cl b0 nL cells slots Q N f pc lv (v :: .ref a :: st) := fun H locs ls hH hS hL => by
  have h1 := hH.use ha hf (zJo hc)
  have hts := X.2.2.2.2.1
  have hK := X.2.2.2.2.2.2.1
  have hap := va_apart (own := own) hts hin ty0 hty hnm hK hc
  obtain ⟨r, h2, cell, q1, q2, q3, q4⟩ := h1
  have hr : r = (C, T, n) := Option.some.inj (h2.symm.trans hc)
  subst hr
  obtain ⟨hSl, hfc, kC, hkC, hkind⟩ := hK.1 ci _ hc
  obtain ⟨cf, kf, fi, fd, hi, hsl⟩ := hSl k hk
  have hd : parseFieldDescriptor (T k).2.2.1 = some ty := by rw [hty k hk, htk]
  have hlay := hts _ (hin _ (u_in_lay hk))
  unfold u_lay at hlay
  have hst := (u_facts hfc hkC (u_lays hts hin hk) hi).1
  have hi2 : s.fieldFound? ref (T k).2.1 (T k).2.2.1 = some (cf, kf, fi, fd) := by rw [← href]; exact hi
  rw [if_pos hfin] at hlay
  have hcf : m.cls = cf := by
    obtain ⟨_, _, c', _, _, _, -, -, hf', -, -, -, hown2, -⟩ := Cond.laysFinal_spec hlay
    have e1 : c' = cf := by have := hi.symm.trans hf'; simp at this; exact this.1.symm
    rw [hdecl] at hown2
    rw [← e1]; exact Option.some.inj (X.2.2.2.1.symm.trans hown2)
  have h6 := u_fits hfc hkC hkind (Or.inr hlay) hi hd hn hfit
  refine W.putFinK X.1 X.2.1 X.2.2.2.1 (hts _ hlink) hi2 hst hcf hin2 (by rw [q2]; exact h6) q1 q3 (by rw [hsl]; exact k2_hasslot (q4 k hk)) rfl rfl hdg fun H' e1 e2 e3 => ?_
  rw [hsl] at e1 ⊢
  exact kk H' _ ls (hH.set e2 ⟨_, hc, t_OB.to (V := updV (vp_V fs) k v) ⟨_, e1, q2, q3, t_set q4 hap hk v⟩ (fun j _ => vp_updV_set hl v j)⟩ e3) (zS_put hS e2 e3 ha.1) hL
theorem z_alen (X : zX p s m args meth c D cl tys b0 G cc nL own Ts ret) {a t0 : Nat} {cA : ClassId} {x : vp_A} {ty : FieldType} {v : Int32} (hdg : decode cc pc = .ok (.arraylength, 1)) (ha : b0 ≤ a ∧ a < N) (hf : f a = .inl (cA, x)) (ht : tys[t0]? = some (cA, ty)) (hv : Int32.ofNat x.1 = v) (kk : zWw wr p l e R s m args below meth c D cl b0 nL cells slots Q N f (pc + 1) lv (.int v :: st)) : zWw wr p l e R s m args below meth c D cl b0 nL cells slots Q N f pc lv (.ref a :: st) := fun H locs ls hH hS hL => by
  have h1 := hH.use ha hf zJa
  exact va_alen (ws := [(a, .inl (cA, x))]) X.1 X.2.1 X.2.2.2.2.2.2.1 (zP1 h1) 0 t0 rfl ht hv hdg (kk H locs ls hH hS hL)
theorem z_iald (X : zX p s m args meth c D cl tys b0 G cc nL own Ts ret) {a t0 k : Nat} {cA : ClassId} {g : Nat → Int32} {i : Int32} (hdg : decode cc pc = .ok (.iaload, 1)) (ha : b0 ≤ a ∧ a < N) (hf : f a = .inl (cA, k, .inl g)) (ht : tys[t0]? = some (cA, .int)) (hi : vp_in i k) (kk : zWw wr p l e R s m args below meth c D cl b0 nL cells slots Q N f (pc + 1) lv (.int (g i.toNatClampNeg) :: st)) : zWw wr p l e R s m args below meth c D cl b0 nL cells slots Q N f pc lv (.int i :: .ref a :: st) := fun H locs ls hH hS hL => by
  have h1 := hH.use ha hf zJa
  exact va_iald (ws := [(a, .inl (cA, k, .inl g))]) X.1 X.2.1 X.2.2.2.2.2.2.1 (zP1 h1) 0 t0 rfl ht hi hdg (kk H locs ls hH hS hL)
theorem z_lald (X : zX p s m args meth c D cl tys b0 G cc nL own Ts ret) {a t0 k : Nat} {cA : ClassId} {g : Nat → Int64} {i : Int32} (hdg : decode cc pc = .ok (.laload, 1)) (ha : b0 ≤ a ∧ a < N) (hf : f a = .inl (cA, k, .inr (.inl g))) (ht : tys[t0]? = some (cA, .long)) (hi : vp_in i k) (kk : zWw wr p l e R s m args below meth c D cl b0 nL cells slots Q N f (pc + 1) lv (.long (g i.toNatClampNeg) :: st)) : zWw wr p l e R s m args below meth c D cl b0 nL cells slots Q N f pc lv (.int i :: .ref a :: st) := fun H locs ls hH hS hL => by
  have h1 := hH.use ha hf zJa
  exact va_lald (ws := [(a, .inl (cA, k, .inr (.inl g)))]) X.1 X.2.1 X.2.2.2.2.2.2.1 (zP1 h1) 0 t0 rfl ht hi hdg (kk H locs ls hH hS hL)
theorem z_zald (X : zX p s m args meth c D cl tys b0 G cc nL own Ts ret) {a t0 k : Nat} {cA : ClassId} {g : Nat → Int32} {i : Int32} (hdg : decode cc pc = .ok (.baload, 1)) (ha : b0 ≤ a ∧ a < N) (hf : f a = .inl (cA, k, .inl g)) (ht : tys[t0]? = some (cA, .boolean)) (hi : vp_in i k) (kk : zWw wr p l e R s m args below meth c D cl b0 nL cells slots Q N f (pc + 1) lv (.int (g i.toNatClampNeg) :: st)) : zWw wr p l e R s m args below meth c D cl b0 nL cells slots Q N f pc lv (.int i :: .ref a :: st) := fun H locs ls hH hS hL => by
  have h1 := hH.use ha hf zJa
  exact va_zald (ws := [(a, .inl (cA, k, .inl g))]) X.1 X.2.1 X.2.2.2.2.2.2.1 (zP1 h1) 0 t0 rfl ht hi hdg (kk H locs ls hH hS hL)
theorem z_aald (X : zX p s m args meth c D cl tys b0 G cc nL own Ts ret) {a t0 k : Nat} {cA : ClassId} {E : String} {g : Nat → Option Nat} {i : Int32} (hdg : decode cc pc = .ok (.aaload, 1)) (ha : b0 ≤ a ∧ a < N) (hf : f a = .inl (cA, k, .inr (.inr (.inr (.inr g))))) (ht : tys[t0]? = some (cA, .object E)) (hi : vp_in i k) (kk : zWw wr p l e R s m args below meth c D cl b0 nL cells slots Q N f (pc + 1) lv (va_rf (g i.toNatClampNeg) :: st)) : zWw wr p l e R s m args below meth c D cl b0 nL cells slots Q N f pc lv (.int i :: .ref a :: st) := fun H locs ls hH hS hL => by
  have h1 := hH.use ha hf zJa
  exact va_aldq (ws := [(a, .inl (cA, k, .inr (.inr (.inr (.inr g)))))]) X.1 X.2.1 X.2.2.2.2.2.2.1 (zP1 h1) 0 t0 rfl ht hi hdg (kk H locs ls hH hS hL)
theorem z_iast (X : zX p s m args meth c D cl tys b0 G cc nL own Ts ret) {a t0 k : Nat} {cA : ClassId} {g : Nat → Int32} {i : Int32} {x : Int32} (hdg : decode cc pc = .ok (.iastore, 1)) (ha : b0 ≤ a ∧ a < N) (hf : f a = .inl (cA, k, .inl g)) (ht : tys[t0]? = some (cA, .int)) (hi : vp_in i k) (kk : zW p l e R s m args below meth c D cl b0 nL cells slots Q N (va_up f a (.inl (cA, k, .inl (upd g i.toNatClampNeg x)))) (pc + 1) lv st) : zW p l e R s m args below meth c D cl b0 nL cells slots Q N f pc lv (.int x :: .int i :: .ref a :: st) := fun H locs ls hH hS hL => by
  have h1 := hH.use ha hf zJa
  refine W.iast X.1 X.2.1 h1 ((X.2.2.2.2.2.2.1.2 t0 _ ht).1 k (fun j => .int (g j))) (fun q => by cases q) (by show ¬ (i < 0 ∨ (arrV _ _ _).slots.size ≤ _); rw [arrV_size]; exact hi) rfl rfl hdg fun H1 e z oq => ?_
  refine kk H1 _ ls (hH.set z ?_ oq) (zS_put hS z oq ha.1) hL
  show H1[a]? = some (vp_cell _ _)
  rw [e]
  rw [vp_cell_i, vp_cell_i, arrV_store]
  congr 2
  funext q
  by_cases hq : q = i.toNatClampNeg
  · subst hq
    simp [updV, upd, vp_updL, vp_nar]
    try rfl
  · simp [updV, upd, vp_updL, hq]
theorem z_last (X : zX p s m args meth c D cl tys b0 G cc nL own Ts ret) {a t0 k : Nat} {cA : ClassId} {g : Nat → Int64} {i : Int32} {x : Int64} (hdg : decode cc pc = .ok (.lastore, 1)) (ha : b0 ≤ a ∧ a < N) (hf : f a = .inl (cA, k, .inr (.inl (g)))) (ht : tys[t0]? = some (cA, .long)) (hi : vp_in i k) (kk : zW p l e R s m args below meth c D cl b0 nL cells slots Q N (va_up f a (.inl (cA, k, .inr (.inl ((vp_updL g i.toNatClampNeg x)))))) (pc + 1) lv st) : zW p l e R s m args below meth c D cl b0 nL cells slots Q N f pc lv (.long x :: .int i :: .ref a :: st) := fun H locs ls hH hS hL => by
  have h1 := hH.use ha hf zJa
  refine W.last X.1 X.2.1 h1 ((X.2.2.2.2.2.2.1.2 t0 _ ht).1 k (fun j => .long (g j))) (fun q => by cases q) (by show ¬ (i < 0 ∨ (arrV _ _ _).slots.size ≤ _); rw [arrV_size]; exact hi) rfl rfl hdg fun H1 e z oq => ?_
  refine kk H1 _ ls (hH.set z ?_ oq) (zS_put hS z oq ha.1) hL
  show H1[a]? = some (vp_cell _ _)
  rw [e]
  rw [vp_cell_l, vp_cell_l, arrV_store]
  congr 2
  funext q
  by_cases hq : q = i.toNatClampNeg
  · subst hq
    simp [updV, upd, vp_updL, vp_nar]
    try rfl
  · simp [updV, upd, vp_updL, hq]
theorem z_zast (X : zX p s m args meth c D cl tys b0 G cc nL own Ts ret) {a t0 k : Nat} {cA : ClassId} {g : Nat → Int32} {i : Int32} {x : Int32} (hdg : decode cc pc = .ok (.bastore, 1)) (ha : b0 ≤ a ∧ a < N) (hf : f a = .inl (cA, k, .inl g)) (ht : tys[t0]? = some (cA, .boolean)) (hi : vp_in i k) (kk : zW p l e R s m args below meth c D cl b0 nL cells slots Q N (va_up f a (.inl (cA, k, .inl (upd g i.toNatClampNeg (vp_nar .boolean x))))) (pc + 1) lv st) : zW p l e R s m args below meth c D cl b0 nL cells slots Q N f pc lv (.int x :: .int i :: .ref a :: st) := fun H locs ls hH hS hL => by
  have h1 := hH.use ha hf zJa
  refine W.zast X.1 X.2.1 h1 ((X.2.2.2.2.2.2.1.2 t0 _ ht).1 k (fun j => .int (g j))) (fun q => by cases q) (by show ¬ (i < 0 ∨ (arrV _ _ _).slots.size ≤ _); rw [arrV_size]; exact hi) rfl rfl hdg fun H1 e z oq => ?_
  refine kk H1 _ ls (hH.set z ?_ oq) (zS_put hS z oq ha.1) hL
  show H1[a]? = some (vp_cell _ _)
  rw [e]
  rw [vp_cell_i, vp_cell_i, arrV_store]
  congr 2
  funext q
  by_cases hq : q = i.toNatClampNeg
  · subst hq
    simp [updV, upd, vp_updL, vp_nar]
    try rfl
  · simp [updV, upd, vp_updL, hq]
theorem z_aast (X : zX p s m args meth c D cl tys b0 G cc nL own Ts ret) {a t0 k v ci : Nat} {cA : ClassId} {rc : vw_C} {vs : List Value} {g : Nat → Option Nat} {i : Int32} (hdg : decode cc pc = .ok (.aastore, 1)) (ha : b0 ≤ a ∧ a < N) (hf : f a = .inl (cA, k, .inr (.inr (.inr (.inr g))))) (ht : tys[t0]? = some (cA, .object rc.1)) (hv : b0 ≤ v ∧ v < N) (hfv : f v = .inr (ci, vs)) (hc : cl[ci]? = some rc) (hi : vp_in i k) (kk : zW p l e R s m args below meth c D cl b0 nL cells slots Q N (va_up f a (.inl (cA, k, .inr (.inr (.inr (.inr (va_up g i.toNatClampNeg (some v)))))))) (pc + 1) lv st) : zW p l e R s m args below meth c D cl b0 nL cells slots Q N f pc lv (.ref v :: .int i :: .ref a :: st) := fun H locs ls hH hS hL => by
  have h1 := hH.use ha hf zJa
  have h2 := hH.use hv hfv (zJo hc)
  have hlt : i.toNatClampNeg < k := Nat.not_le.mp fun q => hi (Or.inr q)
  have h0 : ¬ i < 0 := fun q => hi (Or.inl q)
  have hK := X.2.2.2.2.2.2.1
  obtain ⟨r', hr', cellV, g1, g2, g3, -⟩ := h2
  have hcls := (hK.1 ci rc hc).2
  obtain ⟨kA, comp, k1, k2, k3, -⟩ := (hK.2 t0 _ ht).2
  have hcomp : comp = D.1 ci := Option.some.inj (k3.symm.trans hcls.1)
  subst hcomp
  obtain ⟨kC, hkC, -⟩ := hcls.2
  refine W.aast X.1 X.2.1 h1 (fun q h => by cases h) (fun h => by cases h) k1 k2 rfl hkC ⟨h0, by show _ < (arrV _ _ _).slots.size; rw [arrV_size]; exact hlt⟩ g1 (fun q h => by rw [g3] at h; cases h) (by rw [g2]; exact hkC) (by rw [g2]; exact va_assign hcls) rfl rfl hdg fun H1 e z oq => ?_
  refine kk H1 _ ls (hH.set z ?_ oq) (zS_put hS z oq ha.1) hL
  show H1[a]? = some (vp_cell _ _)
  rw [e]
  rw [vp_cell_q, vp_cell_q, arrV_store]
  congr 2
  funext q
  by_cases hq : q = i.toNatClampNeg
  · subst hq
    simp [updV, va_up, va_rf]
  · simp [updV, va_up, hq]
theorem z_new (X : zX p s m args meth c D cl tys b0 G cc nL own Ts ret) {C : String} {T : u_T} {n ci index : Nat} (ty0 : Nat → FieldType) (hty : ∀ k, k < n → parseFieldDescriptor (T k).2.2.1 = some (ty0 k)) {fs : List Value} (hdg : decode cc pc = .ok (.new index, 3)) (hc : cl[ci]? = some (C, T, n)) (hin : ∀ w ∈ u_ws C T n, w ∈ Ts) (h1 : Cond.classLink own index C ∈ Ts) (h2 : Cond.instantiable C n ∈ Ts) (h3 : Cond.initialized C ∈ Ts) (hfs : ∀ j, j < n → defaultValue (ty0 j) = vp_V fs j) (hcells : cells + 1 ≤ R.cells) (hslots : slots + n ≤ R.slots) (kk : zWw wr p l e R s m args below meth c D cl b0 nL (cells + 1) (slots + n) Q (N + 1) (va_up f N (.inr (ci, fs))) (pc + 3) lv (.ref N :: st)) : zWw wr p l e R s m args below meth c D cl b0 nL cells slots Q N f pc lv st := fun H locs ls hH hS hL => by
  have hts := X.2.2.2.2.1
  have hKn := X.2.2.2.2.2.2.1.1 ci _ hc
  refine W.newcK X.1 X.2.1 X.2.2.2.1 (hts _ h1) (hts _ h2) (hts _ h3) rfl hdg hcells hslots hKn.2.1 hH.1 fun H1 kC hkC e1 z1 o1 => ?_
  exact kk H1 locs ls (hH.push z1 ⟨_, hc, (u_born ty0 hts hin hKn hkC e1 hty).to hfs⟩ o1) (zS_push hS hH.1 z1 o1) hL
theorem z_newai (X : zX p s m args meth c D cl tys b0 G cc nL own Ts ret) {atype : ArrayType} (hat : newarray.typeOf atype = .int) {t0 k : Nat} {cA : ClassId} {n : Int32} (hdg : decode cc pc = .ok (.newarray atype, 2)) (hw : Cond.arrayClass .int ∈ Ts) (ht : tys[t0]? = some (cA, .int)) (hn : ¬ n < 0) (hk : n.toNatClampNeg = k) (hb : k * componentBytes .int ≤ 536870912) (hcells : cells + 1 ≤ R.cells) (hslots : slots + k ≤ R.slots) (kk : zWw wr p l e R s m args below meth c D cl b0 nL (cells + 1) (slots + k) Q (N + 1) (va_up f N (.inl (cA, k, .inl (fun _ => 0)))) (pc + 2) lv (.ref N :: st)) : zWw wr p l e R s m args below meth c D cl b0 nL cells slots Q N f pc lv (.int n :: st) := fun H locs ls hH hS hL => by
  refine va_newaK X.1 X.2.1 (by rw [hat]; exact X.2.2.2.2.1 _ hw) rfl hdg rfl hn hk (by rw [hat]; exact hb) hcells hslots hH.1 fun H1 cA' e1 z1 o1 hAr hNm => ?_
  rw [hat] at e1 hNm
  have hcA : cA' = cA := Option.some.inj (hNm.symm.trans (X.2.2.2.2.2.2.1.2 t0 _ ht).2)
  subst hcA
  refine kk H1 locs ls (hH.push z1 ?_ o1) (zS_push hS hH.1 z1 o1) hL
  show H1[N]? = some (vp_cell _ _)
  rw [vp_cell_i]
  exact e1
theorem z_newal (X : zX p s m args meth c D cl tys b0 G cc nL own Ts ret) {atype : ArrayType} (hat : newarray.typeOf atype = .long) {t0 k : Nat} {cA : ClassId} {n : Int32} (hdg : decode cc pc = .ok (.newarray atype, 2)) (hw : Cond.arrayClass .long ∈ Ts) (ht : tys[t0]? = some (cA, .long)) (hn : ¬ n < 0) (hk : n.toNatClampNeg = k) (hb : k * componentBytes .long ≤ 536870912) (hcells : cells + 1 ≤ R.cells) (hslots : slots + k ≤ R.slots) (kk : zWw wr p l e R s m args below meth c D cl b0 nL (cells + 1) (slots + k) Q (N + 1) (va_up f N (.inl (cA, k, .inr (.inl (fun _ => 0))))) (pc + 2) lv (.ref N :: st)) : zWw wr p l e R s m args below meth c D cl b0 nL cells slots Q N f pc lv (.int n :: st) := fun H locs ls hH hS hL => by
  refine va_newaK X.1 X.2.1 (by rw [hat]; exact X.2.2.2.2.1 _ hw) rfl hdg rfl hn hk (by rw [hat]; exact hb) hcells hslots hH.1 fun H1 cA' e1 z1 o1 hAr hNm => ?_
  rw [hat] at e1 hNm
  have hcA : cA' = cA := Option.some.inj (hNm.symm.trans (X.2.2.2.2.2.2.1.2 t0 _ ht).2)
  subst hcA
  refine kk H1 locs ls (hH.push z1 ?_ o1) (zS_push hS hH.1 z1 o1) hL
  show H1[N]? = some (vp_cell _ _)
  rw [vp_cell_l]
  exact e1
theorem z_newaz (X : zX p s m args meth c D cl tys b0 G cc nL own Ts ret) {atype : ArrayType} (hat : newarray.typeOf atype = .boolean) {t0 k : Nat} {cA : ClassId} {n : Int32} (hdg : decode cc pc = .ok (.newarray atype, 2)) (hw : Cond.arrayClass .boolean ∈ Ts) (ht : tys[t0]? = some (cA, .boolean)) (hn : ¬ n < 0) (hk : n.toNatClampNeg = k) (hb : k * componentBytes .boolean ≤ 536870912) (hcells : cells + 1 ≤ R.cells) (hslots : slots + k ≤ R.slots) (kk : zWw wr p l e R s m args below meth c D cl b0 nL (cells + 1) (slots + k) Q (N + 1) (va_up f N (.inl (cA, k, .inl (fun _ => 0)))) (pc + 2) lv (.ref N :: st)) : zWw wr p l e R s m args below meth c D cl b0 nL cells slots Q N f pc lv (.int n :: st) := fun H locs ls hH hS hL => by
  refine va_newaK X.1 X.2.1 (by rw [hat]; exact X.2.2.2.2.1 _ hw) rfl hdg rfl hn hk (by rw [hat]; exact hb) hcells hslots hH.1 fun H1 cA' e1 z1 o1 hAr hNm => ?_
  rw [hat] at e1 hNm
  have hcA : cA' = cA := Option.some.inj (hNm.symm.trans (X.2.2.2.2.2.2.1.2 t0 _ ht).2)
  subst hcA
  refine kk H1 locs ls (hH.push z1 ?_ o1) (zS_push hS hH.1 z1 o1) hL
  show H1[N]? = some (vp_cell _ _)
  rw [vp_cell_i]
  exact e1
theorem z_newq (X : zX p s m args meth c D cl tys b0 G cc nL own Ts ret) {C : String} {index t0 k : Nat} {cA : ClassId} {n : Int32} (hdg : decode cc pc = .ok (.anewarray index, 3)) (h1 : Cond.classLink own index C ∈ Ts) (hover : va_AO C s) (ht : tys[t0]? = some (cA, .object C)) (hn : ¬ n < 0) (hk : n.toNatClampNeg = k) (hb : k * 4 ≤ 536870912) (hcells : cells + 1 ≤ R.cells) (hslots : slots + k ≤ R.slots) (kk : zWw wr p l e R s m args below meth c D cl b0 nL (cells + 1) (slots + k) Q (N + 1) (va_up f N (.inl (cA, k, .inr (.inr (.inr (.inr (fun _ => none))))))) (pc + 3) lv (.ref N :: st)) : zWw wr p l e R s m args below meth c D cl b0 nL cells slots Q N f pc lv (.int n :: st) := fun H locs ls hH hS hL => by
  subst hk
  refine W.anew X.1 X.2.1 X.2.2.2.1 (X.2.2.2.2.1 _ h1) (va_AO.use hover) rfl hdg rfl hn hb hcells hslots fun cA' kA comp f1 f2 f3 f4 => ?_
  have hcA : cA' = cA := by
    obtain ⟨_, _, _, _, _, h9⟩ := (X.2.2.2.2.2.2.1.2 t0 _ ht).2
    exact Option.some.inj (f1.symm.trans h9)
  subst hcA
  generalize hH1 : H.push ({ cls := cA', slots := Array.replicate n.toNatClampNeg .null, vm := .none } : Cell) = H1
  have z1 : H1.size = N + 1 := by rw [← hH1, Array.size_push, hH.1]
  have e1 : H1[N]? = some (arrV cA' n.toNatClampNeg (fun _ => .null)) := by rw [← hH1, ← hH.1, Array.getElem?_push_size, ← arrV_new]
  have o1 : ∀ q : Nat, q < N → H1[q]? = H[q]? := fun q hq => by rw [← hH1, Array.getElem?_push, if_neg (by rw [hH.1]; exact Nat.ne_of_lt hq)]
  refine W.eq (g2 := F0 m (pc + 3) ls (.ref N :: st)) (by rw [← hH.1]) ?_
  refine kk H1 locs ls (hH.push z1 ?_ o1) (zS_push hS hH.1 z1 o1) hL
  show H1[N]? = some (vp_cell _ _)
  rw [vp_cell_q]
  exact e1
theorem z_objInit (X : zX p s m args meth c D cl tys b0 G cc nL own Ts ret) {idx a : Nat} (hdg : decode cc pc = .ok (.invokespecial idx, 3)) (h1 : Cond.methodLink own idx Lib.objectInit ∈ Ts) (h2 : Cond.instanceMethod Lib.objectInit ∈ Ts) (h3 : Cond.code Lib.objectInit ⟨#[0xb1]⟩ 1 none ∈ Ts) (hfr : 1 ≤ R.frames) (hlo : (st.map fun v => v.category).sum + 12 ≤ R.locals) (kk : zWw wr p l e R s m args below meth c D cl b0 nL cells slots Q N f (pc + 3) lv st) : zWw wr p l e R s m args below meth c D cl b0 nL cells slots Q N f pc lv (.ref a :: st) := fun H locs ls hH hS hL => by
  refine W.objInit X.1 X.2.1 X.2.2.2.1 (X.2.2.2.2.1 _ h1) (X.2.2.2.2.1 _ h2) (X.2.2.2.2.1 _ h3) rfl (by rw [X.2.2.1]; exact hL.1) rfl hdg hfr (by show 2 * (F0 m pc ls _).monitorRoom + _ + 12 ≤ _; rw [show (F0 m pc ls (.ref a :: st)).monitorRoom = 0 from rfl]; omega) ?_
  exact kk H locs ls hH hS hL
theorem z_run (X : zX p s m args meth c D cl tys b0 G cc nL own Ts ret) {mc ms : Nat} {H : Heap} {locs : List Loc} {ls : Array Slot} {st0 : List Value} {A : Array Value} {P : Option Value → Nat → (Nat → va_E) → Prop} (hH : zH D cl b0 N f H) (hS : va_S wr s.heap H locs) (hL : zL ls nL lv) (hr : va_Run p l e R s m args below meth c H locs cells slots mc ms (F0 m pc ls st0) st (zQw wr D cl b0 P A) wr) (kk : ∀ (r : Option Value) (N' : Nat) (f' : Nat → va_E), P r N' f' → N ≤ N' → zWw wr p l e R s m args below meth c D cl b0 nL (cells + mc) (slots + ms) Q N' f' (pc + 3) lv (r.toList ++ st)) : W p l e R s m args below meth c H locs cells slots Q (F0 m pc ls st0) := by
  intro T hT Y
  obtain ⟨v, st₀, t, T', L, h0, X', hL', e1, e2, ⟨r, N', f', hv, hz, hlow, hsz, hP⟩, stp⟩ := hr T hT Y
  cases hv
  rw [h0] at hlow hsz
  obtain ⟨t2, a1, b1⟩ := kk v N' f' hP (by rw [← hH.1]; exact hsz) T'.heap (locs ++ L) ls (by rw [e1]; exact hz)
    ⟨by rw [e1, hz.1]; exact Nat.le_trans hS.1 hsz, fun q h1 h2 => by rw [e1, hlow q (Nat.lt_of_lt_of_le h1 hS.1) h2]; exact hS.2.1 q h1 h2, fun q hq => by
      rcases List.mem_append.mp hq with h | h
      · exact hS.2.2 q h
      · exact hL' q h⟩ hL T' rfl X'
  exact ⟨t2, stp t2 a1, b1⟩
theorem z_pre (X : zX p s m args meth c D cl tys b0 G cc nL own Ts ret) {As : List Value} {H : Heap} {locs : List Loc} (hwr : ∀ q, wr q → b0 ≤ q) (hg : zGok b0 G) (hH : zH D cl b0 N f H) (hS : va_S wr s.heap H locs) : ∀ U : State, U.heap = H → s.WarmedH U.vm → zPc D cl tys b0 G As N f As.toArray U := fun U hU hW =>
  ⟨rfl, hg s U hW X.2.2.2.2.2.2.2.2.2 (fun q hq => by rw [hU]; exact zlow hwr X.2.2.2.2.2.2.2.2.2 hS q hq) X.2.2.2.2.2.1, va_K.moved hW.alike X.2.2.2.2.2.2.1, by rw [hU]; exact hH, by rw [← hH.1]; exact Nat.le_trans X.2.2.2.2.2.2.2.2.2 hS.1⟩
theorem z_callVw (hwr : ∀ q, wr q → b0 ≤ q) (X : zX p s m args meth c D cl tys b0 G cc nL own Ts ret) {y : MethodName} {bytes : ByteArray} {maxL n index mc ms : Nat} {ret' : Option FieldType} {ws : List Cond} {rm : Room} {As : List Value} {P : Option Value → Nat → (Nat → va_E) → Prop} {st0 : List Value} (hg : zGok b0 G) {C : String} {T : u_T} {k ci a : Nat} {fs : List Value} (hM : zMw wr l D cl tys b0 G y ws rm mc ms (.ref a :: As) N f P) (hdg : decode cc pc = .ok (.invokevirtual index, 3)) (cw : CallW R s args own C index y bytes maxL ret' ws rm mc ms n) (ha : b0 ≤ a ∧ a < N) (hf : f a = .inr (ci, fs)) (hc : cl[ci]? = some (C, T, k)) (hst : st0 = As.reverse ++ .ref a :: st) (hn : As.length = n) (hroom : (st.map fun v => v.category).sum ≤ 8) (hf9 : cells + mc ≤ R.cells ∧ slots + ms ≤ R.slots) (kk : ∀ (r : Option Value) (N' : Nat) (f' : Nat → va_E), P r N' f' → N ≤ N' → zWw wr p l e R s m args below meth c D cl b0 nL (cells + mc) (slots + ms) Q N' f' (pc + 3) lv (r.toList ++ st)) : zWw wr p l e R s m args below meth c D cl b0 nL cells slots Q N f pc lv st0 := fun H locs ls hH hS hL => by
  subst hst
  have h1 := hH.use ha hf (zJo hc)
  exact z_run X hH hS hL (va_runV (As := As) (rest := st) ⟨X.1, X.2.1, X.2.2.1, X.2.2.2.1, X.2.2.2.2.1⟩ hM cw ⟨zblind hg, va_recv X.2.2.2.2.2.2.1 (zP1 h1) hc (q0 := 0) rfl, fun U hU hW => z_pre X (As := .ref a :: As) hwr hg hH hS U hU hW⟩ rfl hn hL.1 rfl (lv_room hroom) hdg hf9) kk
theorem z_callV (X : zX p s m args meth c D cl tys b0 G cc nL own Ts ret) {y : MethodName} {bytes : ByteArray} {maxL n index mc ms : Nat} {ret' : Option FieldType} {ws : List Cond} {rm : Room} {As : List Value} {P : Option Value → Nat → (Nat → va_E) → Prop} {st0 : List Value} (hg : zGok b0 G) {C : String} {T : u_T} {k ci a : Nat} {fs : List Value} (hM : zM l D cl tys b0 G y ws rm mc ms (.ref a :: As) N f P) (hdg : decode cc pc = .ok (.invokevirtual index, 3)) (cw : CallW R s args own C index y bytes maxL ret' ws rm mc ms n) (ha : b0 ≤ a ∧ a < N) (hf : f a = .inr (ci, fs)) (hc : cl[ci]? = some (C, T, k)) (hst : st0 = As.reverse ++ .ref a :: st) (hn : As.length = n) (hroom : (st.map fun v => v.category).sum ≤ 8) (hf9 : cells + mc ≤ R.cells ∧ slots + ms ≤ R.slots) (kk : ∀ (r : Option Value) (N' : Nat) (f' : Nat → va_E), P r N' f' → N ≤ N' → zW p l e R s m args below meth c D cl b0 nL (cells + mc) (slots + ms) Q N' f' (pc + 3) lv (r.toList ++ st)) : zW p l e R s m args below meth c D cl b0 nL cells slots Q N f pc lv st0 := z_callVw (ret' := ret') (fun _ h => h) X hg hM hdg cw ha hf hc hst hn hroom hf9 kk
theorem z_callVNw (hwr : ∀ q, wr q → b0 ≤ q) (X : zX p s m args meth c D cl tys b0 G cc nL own Ts ret) {y : MethodName} {bytes : ByteArray} {maxL n index mc ms : Nat} {ret' : Option FieldType} {ws : List Cond} {rm : Room} {As : List Value} {P : Option Value → Nat → (Nat → va_E) → Prop} {st0 : List Value} (hg : zGok b0 G) {host : String} {C : String} {T : u_T} {k ci a : Nat} {fs : List Value} (hM : zMw wr l D cl tys b0 G y ws rm mc ms (.ref a :: As) N f P) (hdg : decode cc pc = .ok (.invokevirtual index, 3)) (cw : va_CN R s args own index y host bytes maxL ret' ws rm mc ms n ∧ (Cond.instanceMethod y).before args s = true ∧ (Cond.selects C y y).before args s = true) (ha : b0 ≤ a ∧ a < N) (hf : f a = .inr (ci, fs)) (hc : cl[ci]? = some (C, T, k)) (hst : st0 = As.reverse ++ .ref a :: st) (hn : As.length = n) (hroom : (st.map fun v => v.category).sum ≤ 8) (hf9 : cells + mc ≤ R.cells ∧ slots + ms ≤ R.slots) (kk : ∀ (r : Option Value) (N' : Nat) (f' : Nat → va_E), P r N' f' → N ≤ N' → zWw wr p l e R s m args below meth c D cl b0 nL (cells + mc) (slots + ms) Q N' f' (pc + 3) lv (r.toList ++ st)) : zWw wr p l e R s m args below meth c D cl b0 nL cells slots Q N f pc lv st0 := fun H locs ls hH hS hL => by
  subst hst
  have h1 := hH.use ha hf (zJo hc)
  exact z_run X hH hS hL (va_runVN (As := As) (rest := st) ⟨X.1, X.2.1, X.2.2.1, X.2.2.2.1, X.2.2.2.2.1⟩ hM cw ⟨zblind hg, va_recv X.2.2.2.2.2.2.1 (zP1 h1) hc (q0 := 0) rfl, fun U hU hW => z_pre X (As := .ref a :: As) hwr hg hH hS U hU hW⟩ rfl hn hL.1 rfl (lv_room hroom) hdg hf9) kk
theorem z_callVN (X : zX p s m args meth c D cl tys b0 G cc nL own Ts ret) {y : MethodName} {bytes : ByteArray} {maxL n index mc ms : Nat} {ret' : Option FieldType} {ws : List Cond} {rm : Room} {As : List Value} {P : Option Value → Nat → (Nat → va_E) → Prop} {st0 : List Value} (hg : zGok b0 G) {host : String} {C : String} {T : u_T} {k ci a : Nat} {fs : List Value} (hM : zM l D cl tys b0 G y ws rm mc ms (.ref a :: As) N f P) (hdg : decode cc pc = .ok (.invokevirtual index, 3)) (cw : va_CN R s args own index y host bytes maxL ret' ws rm mc ms n ∧ (Cond.instanceMethod y).before args s = true ∧ (Cond.selects C y y).before args s = true) (ha : b0 ≤ a ∧ a < N) (hf : f a = .inr (ci, fs)) (hc : cl[ci]? = some (C, T, k)) (hst : st0 = As.reverse ++ .ref a :: st) (hn : As.length = n) (hroom : (st.map fun v => v.category).sum ≤ 8) (hf9 : cells + mc ≤ R.cells ∧ slots + ms ≤ R.slots) (kk : ∀ (r : Option Value) (N' : Nat) (f' : Nat → va_E), P r N' f' → N ≤ N' → zW p l e R s m args below meth c D cl b0 nL (cells + mc) (slots + ms) Q N' f' (pc + 3) lv (r.toList ++ st)) : zW p l e R s m args below meth c D cl b0 nL cells slots Q N f pc lv st0 := z_callVNw (ret' := ret') (fun _ h => h) X hg hM hdg cw ha hf hc hst hn hroom hf9 kk
theorem z_callSw (hwr : ∀ q, wr q → b0 ≤ q) (X : zX p s m args meth c D cl tys b0 G cc nL own Ts ret) {y : MethodName} {bytes : ByteArray} {maxL n index mc ms : Nat} {ret' : Option FieldType} {ws : List Cond} {rm : Room} {As : List Value} {P : Option Value → Nat → (Nat → va_E) → Prop} {st0 : List Value} (hg : zGok b0 G) (hM : zMw wr l D cl tys b0 G y ws rm mc ms As N f P) (hdg : decode cc pc = .ok (.invokestatic index, 3)) (cw : CallB R s args own index y bytes maxL ret' ws rm mc ms n ∧ (Cond.static y).before args s = true) (hst : st0 = As.reverse ++ st) (hn : As.length = n) (hroom : (st.map fun v => v.category).sum ≤ 8) (hf9 : cells + mc ≤ R.cells ∧ slots + ms ≤ R.slots) (kk : ∀ (r : Option Value) (N' : Nat) (f' : Nat → va_E), P r N' f' → N ≤ N' → zWw wr p l e R s m args below meth c D cl b0 nL (cells + mc) (slots + ms) Q N' f' (pc + 3) lv (r.toList ++ st)) : zWw wr p l e R s m args below meth c D cl b0 nL cells slots Q N f pc lv st0 := fun H locs ls hH hS hL => by
  subst hst
  exact z_run X hH hS hL (va_runS (As := As) (rest := st) ⟨X.1, X.2.1, X.2.2.1, X.2.2.2.1, X.2.2.2.2.1⟩ hM cw ⟨zblind hg, fun U hU hW => z_pre X (As := As) hwr hg hH hS U hU hW⟩ rfl hn hL.1 rfl (lv_room hroom) hdg hf9) kk
theorem z_callS (X : zX p s m args meth c D cl tys b0 G cc nL own Ts ret) {y : MethodName} {bytes : ByteArray} {maxL n index mc ms : Nat} {ret' : Option FieldType} {ws : List Cond} {rm : Room} {As : List Value} {P : Option Value → Nat → (Nat → va_E) → Prop} {st0 : List Value} (hg : zGok b0 G) (hM : zM l D cl tys b0 G y ws rm mc ms As N f P) (hdg : decode cc pc = .ok (.invokestatic index, 3)) (cw : CallB R s args own index y bytes maxL ret' ws rm mc ms n ∧ (Cond.static y).before args s = true) (hst : st0 = As.reverse ++ st) (hn : As.length = n) (hroom : (st.map fun v => v.category).sum ≤ 8) (hf9 : cells + mc ≤ R.cells ∧ slots + ms ≤ R.slots) (kk : ∀ (r : Option Value) (N' : Nat) (f' : Nat → va_E), P r N' f' → N ≤ N' → zW p l e R s m args below meth c D cl b0 nL (cells + mc) (slots + ms) Q N' f' (pc + 3) lv (r.toList ++ st)) : zW p l e R s m args below meth c D cl b0 nL cells slots Q N f pc lv st0 := z_callSw (ret' := ret') (fun _ h => h) X hg hM hdg cw hst hn hroom hf9 kk
theorem z_callSNw (hwr : ∀ q, wr q → b0 ≤ q) (X : zX p s m args meth c D cl tys b0 G cc nL own Ts ret) {y : MethodName} {bytes : ByteArray} {maxL n index mc ms : Nat} {ret' : Option FieldType} {ws : List Cond} {rm : Room} {As : List Value} {P : Option Value → Nat → (Nat → va_E) → Prop} {st0 : List Value} (hg : zGok b0 G) {host : String} (hM : zMw wr l D cl tys b0 G y ws rm mc ms As N f P) (hdg : decode cc pc = .ok (.invokestatic index, 3)) (cw : va_CN R s args own index y host bytes maxL ret' ws rm mc ms n ∧ (Cond.static y).before args s = true ∧ True) (hst : st0 = As.reverse ++ st) (hn : As.length = n) (hroom : (st.map fun v => v.category).sum ≤ 8) (hf9 : cells + mc ≤ R.cells ∧ slots + ms ≤ R.slots) (kk : ∀ (r : Option Value) (N' : Nat) (f' : Nat → va_E), P r N' f' → N ≤ N' → zWw wr p l e R s m args below meth c D cl b0 nL (cells + mc) (slots + ms) Q N' f' (pc + 3) lv (r.toList ++ st)) : zWw wr p l e R s m args below meth c D cl b0 nL cells slots Q N f pc lv st0 := fun H locs ls hH hS hL => by
  subst hst
  exact z_run X hH hS hL (va_runSN (As := As) (rest := st) ⟨X.1, X.2.1, X.2.2.1, X.2.2.2.1, X.2.2.2.2.1⟩ hM cw ⟨zblind hg, fun U hU hW => z_pre X (As := As) hwr hg hH hS U hU hW⟩ rfl hn hL.1 rfl (lv_room hroom) hdg hf9) kk
theorem z_callSN (X : zX p s m args meth c D cl tys b0 G cc nL own Ts ret) {y : MethodName} {bytes : ByteArray} {maxL n index mc ms : Nat} {ret' : Option FieldType} {ws : List Cond} {rm : Room} {As : List Value} {P : Option Value → Nat → (Nat → va_E) → Prop} {st0 : List Value} (hg : zGok b0 G) {host : String} (hM : zM l D cl tys b0 G y ws rm mc ms As N f P) (hdg : decode cc pc = .ok (.invokestatic index, 3)) (cw : va_CN R s args own index y host bytes maxL ret' ws rm mc ms n ∧ (Cond.static y).before args s = true ∧ True) (hst : st0 = As.reverse ++ st) (hn : As.length = n) (hroom : (st.map fun v => v.category).sum ≤ 8) (hf9 : cells + mc ≤ R.cells ∧ slots + ms ≤ R.slots) (kk : ∀ (r : Option Value) (N' : Nat) (f' : Nat → va_E), P r N' f' → N ≤ N' → zW p l e R s m args below meth c D cl b0 nL (cells + mc) (slots + ms) Q N' f' (pc + 3) lv (r.toList ++ st)) : zW p l e R s m args below meth c D cl b0 nL cells slots Q N f pc lv st0 := z_callSNw (ret' := ret') (fun _ h => h) X hg hM hdg cw hst hn hroom hf9 kk
theorem z_callIw (hwr : ∀ q, wr q → b0 ≤ q) (X : zX p s m args meth c D cl tys b0 G cc nL own Ts ret) {y : MethodName} {bytes : ByteArray} {maxL n index mc ms : Nat} {ret' : Option FieldType} {ws : List Cond} {rm : Room} {As : List Value} {P : Option Value → Nat → (Nat → va_E) → Prop} {st0 : List Value} (hg : zGok b0 G) {a : Nat} (hM : zMw wr l D cl tys b0 G y ws rm mc ms (.ref a :: As) N f P) (hdg : decode cc pc = .ok (.invokespecial index, 3)) (cw : CallB R s args own index y bytes maxL none ws rm mc ms n ∧ y.name = "<init>" ∧ (Cond.instanceMethod y).before args s = true) (hst : st0 = As.reverse ++ .ref a :: st) (hn : As.length = n) (hroom : (st.map fun v => v.category).sum ≤ 8) (hf9 : cells + mc ≤ R.cells ∧ slots + ms ≤ R.slots) (kk : ∀ (r : Option Value) (N' : Nat) (f' : Nat → va_E), P r N' f' → N ≤ N' → zWw wr p l e R s m args below meth c D cl b0 nL (cells + mc) (slots + ms) Q N' f' (pc + 3) lv (r.toList ++ st)) : zWw wr p l e R s m args below meth c D cl b0 nL cells slots Q N f pc lv st0 := fun H locs ls hH hS hL => by
  subst hst
  exact z_run X hH hS hL (va_runI (As := As) (rest := st) ⟨X.1, X.2.1, X.2.2.1, X.2.2.2.1, X.2.2.2.2.1⟩ hM cw ⟨zblind hg, fun U hU hW => z_pre X (As := .ref a :: As) hwr hg hH hS U hU hW⟩ rfl hn hL.1 rfl (lv_room hroom) hdg hf9) kk
theorem z_callI (X : zX p s m args meth c D cl tys b0 G cc nL own Ts ret) {y : MethodName} {bytes : ByteArray} {maxL n index mc ms : Nat} {ret' : Option FieldType} {ws : List Cond} {rm : Room} {As : List Value} {P : Option Value → Nat → (Nat → va_E) → Prop} {st0 : List Value} (hg : zGok b0 G) {a : Nat} (hM : zM l D cl tys b0 G y ws rm mc ms (.ref a :: As) N f P) (hdg : decode cc pc = .ok (.invokespecial index, 3)) (cw : CallB R s args own index y bytes maxL none ws rm mc ms n ∧ y.name = "<init>" ∧ (Cond.instanceMethod y).before args s = true) (hst : st0 = As.reverse ++ .ref a :: st) (hn : As.length = n) (hroom : (st.map fun v => v.category).sum ≤ 8) (hf9 : cells + mc ≤ R.cells ∧ slots + ms ≤ R.slots) (kk : ∀ (r : Option Value) (N' : Nat) (f' : Nat → va_E), P r N' f' → N ≤ N' → zW p l e R s m args below meth c D cl b0 nL (cells + mc) (slots + ms) Q N' f' (pc + 3) lv (r.toList ++ st)) : zW p l e R s m args below meth c D cl b0 nL cells slots Q N f pc lv st0 := z_callIw (ret' := ret') (fun _ h => h) X hg hM hdg cw hst hn hroom hf9 kk
theorem z_callINw (hwr : ∀ q, wr q → b0 ≤ q) (X : zX p s m args meth c D cl tys b0 G cc nL own Ts ret) {y : MethodName} {bytes : ByteArray} {maxL n index mc ms : Nat} {ret' : Option FieldType} {ws : List Cond} {rm : Room} {As : List Value} {P : Option Value → Nat → (Nat → va_E) → Prop} {st0 : List Value} (hg : zGok b0 G) {host : String} {a : Nat} (hM : zMw wr l D cl tys b0 G y ws rm mc ms (.ref a :: As) N f P) (hdg : decode cc pc = .ok (.invokespecial index, 3)) (cw : va_CN R s args own index y host bytes maxL none ws rm mc ms n ∧ y.name = "<init>" ∧ (Cond.instanceMethod y).before args s = true) (hst : st0 = As.reverse ++ .ref a :: st) (hn : As.length = n) (hroom : (st.map fun v => v.category).sum ≤ 8) (hf9 : cells + mc ≤ R.cells ∧ slots + ms ≤ R.slots) (kk : ∀ (r : Option Value) (N' : Nat) (f' : Nat → va_E), P r N' f' → N ≤ N' → zWw wr p l e R s m args below meth c D cl b0 nL (cells + mc) (slots + ms) Q N' f' (pc + 3) lv (r.toList ++ st)) : zWw wr p l e R s m args below meth c D cl b0 nL cells slots Q N f pc lv st0 := fun H locs ls hH hS hL => by
  subst hst
  exact z_run X hH hS hL (va_runIN (As := As) (rest := st) ⟨X.1, X.2.1, X.2.2.1, X.2.2.2.1, X.2.2.2.2.1⟩ hM cw ⟨zblind hg, fun U hU hW => z_pre X (As := .ref a :: As) hwr hg hH hS U hU hW⟩ rfl hn hL.1 rfl (lv_room hroom) hdg hf9) kk
theorem z_callIN (X : zX p s m args meth c D cl tys b0 G cc nL own Ts ret) {y : MethodName} {bytes : ByteArray} {maxL n index mc ms : Nat} {ret' : Option FieldType} {ws : List Cond} {rm : Room} {As : List Value} {P : Option Value → Nat → (Nat → va_E) → Prop} {st0 : List Value} (hg : zGok b0 G) {host : String} {a : Nat} (hM : zM l D cl tys b0 G y ws rm mc ms (.ref a :: As) N f P) (hdg : decode cc pc = .ok (.invokespecial index, 3)) (cw : va_CN R s args own index y host bytes maxL none ws rm mc ms n ∧ y.name = "<init>" ∧ (Cond.instanceMethod y).before args s = true) (hst : st0 = As.reverse ++ .ref a :: st) (hn : As.length = n) (hroom : (st.map fun v => v.category).sum ≤ 8) (hf9 : cells + mc ≤ R.cells ∧ slots + ms ≤ R.slots) (kk : ∀ (r : Option Value) (N' : Nat) (f' : Nat → va_E), P r N' f' → N ≤ N' → zW p l e R s m args below meth c D cl b0 nL (cells + mc) (slots + ms) Q N' f' (pc + 3) lv (r.toList ++ st)) : zW p l e R s m args below meth c D cl b0 nL cells slots Q N f pc lv st0 := z_callINw (ret' := ret') (fun _ h => h) X hg hM hdg cw hst hn hroom hf9 kk
theorem z_iret (X : zX p s m args meth c D cl tys b0 G cc nL own Ts (some .int)) {P : Option Value → Nat → (Nat → va_E) → Prop} {v : Int32} (hdg : decode cc pc = .ok (.ireturn, 1)) (hP : P (some (.int v)) N f) : zWw wr p l e R s m args below meth c D cl b0 nL cells slots (MQ below (zQw wr D cl b0 P) args s cells slots wr) N f pc lv [.int v] := fun H locs ls hH hS hL => W.iret X.1 X.2.1 X.2.2.2.2.2.2.2.1 (fun t ht hW => ⟨_, N, f, rfl, by rw [ht]; exact hH, fun q hq hn => by rw [ht]; exact hS.2.1 q hq hn, by rw [← hH.1]; exact hS.1, hP⟩) hS.2.2 hdg X.2.2.2.2.2.2.2.2.1
theorem z_zret (X : zX p s m args meth c D cl tys b0 G cc nL own Ts (some .boolean)) {P : Option Value → Nat → (Nat → va_E) → Prop} {v : Int32} (hdg : decode cc pc = .ok (.ireturn, 1)) (hn : narrow .boolean (.int v) = .int v) (hP : P (some (.int v)) N f) : zWw wr p l e R s m args below meth c D cl b0 nL cells slots (MQ below (zQw wr D cl b0 P) args s cells slots wr) N f pc lv [.int v] := fun H locs ls hH hS hL => W.zret X.1 X.2.1 X.2.2.2.2.2.2.2.1 hn (fun t ht hW => ⟨_, N, f, rfl, by rw [ht]; exact hH, fun q hq hn => by rw [ht]; exact hS.2.1 q hq hn, by rw [← hH.1]; exact hS.1, hP⟩) hS.2.2 hdg X.2.2.2.2.2.2.2.2.1
theorem z_vret (X : zX p s m args meth c D cl tys b0 G cc nL own Ts none) {P : Option Value → Nat → (Nat → va_E) → Prop} (hdg : decode cc pc = .ok (.return_, 1)) (hP : P none N f) : zWw wr p l e R s m args below meth c D cl b0 nL cells slots (MQ below (zQw wr D cl b0 P) args s cells slots wr) N f pc lv [] := fun H locs ls hH hS hL => W.vret X.1 X.2.1 X.2.2.2.2.2.2.2.1 (fun t ht hW => ⟨_, N, f, rfl, by rw [ht]; exact hH, fun q hq hn => by rw [ht]; exact hS.2.1 q hq hn, by rw [← hH.1]; exact hS.1, hP⟩) hS.2.2 hdg X.2.2.2.2.2.2.2.2.1
theorem z_aret {E : String} (X : zX p s m args meth c D cl tys b0 G cc nL own Ts (some (.object E))) {P : Option Value → Nat → (Nat → va_E) → Prop} {v : Value} (hdg : decode cc pc = .ok (.areturn, 1)) (hv : v = .null ∨ ∃ a, v = .ref a) (hP : P (some v) N f) : zWw wr p l e R s m args below meth c D cl b0 nL cells slots (MQ below (zQw wr D cl b0 P) args s cells slots wr) N f pc lv [v] := fun H locs ls hH hS hL => W.aret X.1 X.2.1 X.2.2.2.2.2.2.2.1 (Or.inl ⟨_, rfl⟩) hv (fun t ht hW => ⟨_, N, f, rfl, by rw [ht]; exact hH, fun q hq hn => by rw [ht]; exact hS.2.1 q hq hn, by rw [← hH.1]; exact hS.1, hP⟩) hS.2.2 hdg X.2.2.2.2.2.2.2.2.1
theorem z_aretA {t9 : FieldType} (X : zX p s m args meth c D cl tys b0 G cc nL own Ts (some (.array t9))) {P : Option Value → Nat → (Nat → va_E) → Prop} {v : Value} (hdg : decode cc pc = .ok (.areturn, 1)) (hv : v = .null ∨ ∃ a, v = .ref a) (hP : P (some v) N f) : zWw wr p l e R s m args below meth c D cl b0 nL cells slots (MQ below (zQw wr D cl b0 P) args s cells slots wr) N f pc lv [v] := fun H locs ls hH hS hL => W.aret X.1 X.2.1 X.2.2.2.2.2.2.2.1 (Or.inr ⟨_, rfl⟩) hv (fun t ht hW => ⟨_, N, f, rfl, by rw [ht]; exact hH, fun q hq hn => by rw [ht]; exact hS.2.1 q hq hn, by rw [← hH.1]; exact hS.1, hP⟩) hS.2.2 hdg X.2.2.2.2.2.2.2.2.1
end ZZ
/-- G holds the tables' words -/
def zGw (G : State → Prop) (Ts : List Cond) : Prop := ∀ (s : State) (args : Array Value), G s → ∀ w ∈ Ts, w.before args s = true
/-- a contract out of a walk from the entry -/
theorem zMw.of {wr : Nat → Prop} {l : Launch} {D : va_G} {cl : List vw_C} {tys : List (ClassId × FieldType)} {b0 : Nat} {G : State → Prop} {Ts : List Cond} {y : MethodName} {rm : Room} {mc ms nL : Nat} {cc : ByteArray} {ret : Option FieldType} {As : List Value} {N : Nat} {f : Nat → va_E} {P : Option Value → Nat → (Nat → va_E) → Prop}
    (hgw : zGw G Ts) (hy : plainName y.cls = true) (hl : (lg_sl As).length ≤ nL)
    (body : ∀ (p : Program) (e : Env) (s : State) (m : MethodId) (args : Array Value) (below : List Frame) (meth : Method) (c : Code), zX p s m args meth c D cl tys b0 G cc nL y.cls Ts ret → meth.name = y.name → b0 ≤ N →
      zWw wr p l e rm s m args below meth c D cl b0 nL 0 0 (MQ below (zQw wr D cl b0 P) args s mc ms wr) N f 0 (lv_args 0 As) []) : zMw wr l D cl tys b0 G y [Cond.code y cc nL ret] rm mc ms As N f P := by
  refine Met.ofW (cc := cc) (maxL := nL) (ret := ret) hy rfl ?_
  intro p e s m args below meth c s₁ B hml hv
  obtain ⟨rfl, hG, hK, hH, hb⟩ := hv
  have hown : s.vm.findClass y.cls = some m.cls := findClass_of_methodNamed B.named
  have X : zX p s m As.toArray meth c D cl tys b0 G cc nL y.cls Ts ret := ⟨B.exec, B.bytes, hml, hown, hgw s _ hG, hG, hK, B.returns, B.notSynchronized, by rw [hH.1]; exact hb⟩
  have hL := lv_entry As (n := nL) hl
  rw [lg_entry_eq]
  exact body p e s m As.toArray below meth c X (name_of_methodNamed B.named B.method).1 hb s.heap [] _ hH va_S.rf hL
theorem zM.of {l : Launch} {D : va_G} {cl : List vw_C} {tys : List (ClassId × FieldType)} {b0 : Nat} {G : State → Prop} {Ts : List Cond} {y : MethodName} {rm : Room} {mc ms nL : Nat} {cc : ByteArray} {ret : Option FieldType} {As : List Value} {N : Nat} {f : Nat → va_E} {P : Option Value → Nat → (Nat → va_E) → Prop}
    (hgw : zGw G Ts) (hy : plainName y.cls = true) (hl : (lg_sl As).length ≤ nL)
    (body : ∀ (p : Program) (e : Env) (s : State) (m : MethodId) (args : Array Value) (below : List Frame) (meth : Method) (c : Code), zX p s m args meth c D cl tys b0 G cc nL y.cls Ts ret → meth.name = y.name → b0 ≤ N →
      zW p l e rm s m args below meth c D cl b0 nL 0 0 (MQ below (zQ D cl b0 P) args s mc ms (zA b0)) N f 0 (lv_args 0 As) []) : zM l D cl tys b0 G y [Cond.code y cc nL ret] rm mc ms As N f P := zMw.of (wr := zA b0) hgw hy hl body
/-- a call's words, out of the tables -/
theorem z_cb {R : Room} {s : State} {args : Array Value} {Ts : List Cond} {own : String} {index maxL n mc ms : Nat} {y : MethodName} {bytes : ByteArray} {ret : Option FieldType} {rm : Room} (ht : ∀ w ∈ Ts, w.before args s = true) (h1 : Cond.methodLink own index y ∈ Ts) (h2 : Cond.code y bytes maxL ret ∈ Ts) (h3 : Cond.initialized y.cls ∈ Ts)
    (hd : y.cls ≠ "java/lang/invoke/MethodHandle" ∧ y.cls ≠ "java/lang/invoke/VarHandle" ∧ (parseMethodDescriptor y.desc).map (fun d => d.parameters.length) = some n) (hrc : rm.cells = mc) (hrs : rm.slots = ms) (hR : rm.frames + 1 ≤ R.frames ∧ 8 + (maxL + 11) + rm.locals ≤ R.locals) : CallB R s args own index y bytes maxL ret [Cond.code y bytes maxL ret] rm mc ms n := by
  refine callB_of n ht (fun w hw => ?_) rfl hrc hrs (ht _ h3) (ht _ h1) hd hR
  rcases List.mem_singleton.mp hw with rfl
  exact ⟨h2, Or.inl rfl⟩
theorem z_cbN {R : Room} {s : State} {args : Array Value} {Ts : List Cond} {own host : String} {index maxL n mc ms : Nat} {y : MethodName} {bytes : ByteArray} {ret : Option FieldType} {rm : Room} (ht : ∀ w ∈ Ts, w.before args s = true) (h1 : va_Nw (.methodLinkNest own index y host) s) (h2 : Cond.code y bytes maxL ret ∈ Ts) (h3 : Cond.initialized y.cls ∈ Ts)
    (hd : y.cls ≠ "java/lang/invoke/MethodHandle" ∧ y.cls ≠ "java/lang/invoke/VarHandle" ∧ (parseMethodDescriptor y.desc).map (fun d => d.parameters.length) = some n) (hrc : rm.cells = mc) (hrs : rm.slots = ms) (hR : rm.frames + 1 ≤ R.frames ∧ 8 + (maxL + 11) + rm.locals ≤ R.locals) : va_CN R s args own index y host bytes maxL ret [Cond.code y bytes maxL ret] rm mc ms n := by
  refine va_cnB n ht (fun w hw => ?_) rfl hrc hrs h1 (ht _ h3) hd hR
  rcases List.mem_singleton.mp hw with rfl
  exact ⟨h2, Or.inl rfl⟩
