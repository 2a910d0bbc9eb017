/-! throws -/
/-- a callee's end by a throw, as the machine's states have it: warmer tables, k new cells of n slots in all, nothing else moved but L -/
def zFe (first : State) (o : Outcome) (t : State) (L : List Loc) (k n : Nat) : Prop := (∃ x, o = .threw x) ∧ first.WarmedH t.vm ∧ first.sameButNew ({ t with vm := first.vm } : State) L k n
/-- a callee's end by a throw: a new cell at N, nothing else has moved -/
def zQt (cls : String) (N : Nat) : Array Value → State → Outcome → State → Prop := fun _ u oc t => oc = .threw N ∧ u.heap.size = N ∧ t.heap.size = N + 1 ∧ (∀ q : Nat, q < N → t.heap[q]? = u.heap[q]?) ∧ ∃ ce : Cell, t.heap[N]? = some ce ∧ ce.vm = .none ∧ u.vm.findClass cls = some ce.cls
def zMQt (below : List Frame) (cls : String) (N : Nat) (args : Array Value) (s : State) : State → Prop := fun t => ∃ o, t.status = .running ∧ Ended t below o ∧ zQt cls N args s o t ∧ zFe s o t [] 1 6
def zMt (l : Launch) (D : va_G) (cl : List vw_C) (tys : List (ClassId × FieldType)) (b0 : Nat) (G : State → Prop) (y : MethodName) (ws : List Cond) (rm : Room) (cls : String) (As : List Value) (N : Nat) (f : Nat → va_E) : Prop :=
  MetFree l y (headSpec ws rm) (zPc D cl tys b0 G As N f) (fun _ _ _ _ _ => True) (fun a st o t => zQt cls N a st o t ∧ zFe st o t [] 1 6)
section ZTH
variable {p : Program} {l : Launch} {e : Env} {R : Room} {s : State} {m : MethodId} {args : Array Value} {below : List Frame} {meth : Method} {c : Code} {cells slots : Nat} {Q : State → Prop} {D : va_G} {cl : List vw_C} {tys : List (ClassId × FieldType)} {b0 : Nat} {G : State → Prop} {cc : ByteArray} {nL : Nat} {own : String} {Ts : List Cond} {ret : Option FieldType} {N : Nat} {f : Nat → va_E} {pc : Nat} {lv : List (Nat × Value)} {st : List Value} {wr : Nat → Prop}
theorem z_throw (X : zX p s m args meth c D cl tys b0 G cc nL own Ts ret) (htr : e.platform.stackTraces = false) (hexc : c.exceptionTable.isEmpty = true) {cls tx : String} {names : List String} {inw ic isx q : Nat}
    (hd0 : decode cc pc = .ok (.new inw, 3)) (hd3 : decode cc (pc + 3) = .ok (.dup, 1)) (hd4 : decode cc (pc + 3 + 1) = .ok (.ldc isx, 2)) (hd6 : decode cc (pc + 3 + 1 + 2) = .ok (.invokespecial ic, 3)) (hd9 : decode cc (pc + 3 + 1 + 2 + 3) = .ok (.athrow, 1))
    (hfit : Bundle.fit cls = true) (hnames : ∀ n ∈ names, Bundle.fit n = true) (hat : ∀ a ∈ Bundle.ownAtoms own ic cls names, a.before args s = true)
    (w1 : Cond.classLink own inw cls ∈ Ts) (w2 : Cond.instantiable cls 6 ∈ Ts) (w3 : Cond.initialized cls ∈ Ts) (hZ : vk_R own isx tx q s)
    (hc : 0 + 1 ≤ R.cells) (hsl : 0 + 6 ≤ R.slots) (hfr : names.length + 3 < R.frames) (hlo : 1 + (13 * (names.length + 1) + 42) ≤ R.locals) :
    zWw (fun _ => False) p l e R s m args below meth c D cl b0 nL 0 0 (zMQt below cls N args s) N f pc lv [] := by
  intro H locs ls hH hS hL
  have hnil : locs = [] := List.eq_nil_iff_forall_not_mem.mpr (fun x hx => hS.2.2 x hx)
  subst hnil
  refine W.newc X.1 X.2.1 X.2.2.2.1 (X.2.2.2.2.1 _ w1) (X.2.2.2.2.1 _ w2) (X.2.2.2.2.1 _ w3) rfl hd0 hc hsl fun cC kC h1 h2 h3 h4 => ?_
  refine lv_dup X.1 X.2.1 hd3 rfl ?_
  refine va_ldcS X.1 X.2.1 X.2.2.2.1 hZ hd4 ?_
  intro T hT Y
  have hsz : H.size = s.heap.size := by
    have a1 := Y.same.2.2.1
    have a2 : (T.setVm s.vm).heap.size = H.size + 1 := by
      show T.heap.size = H.size + 1
      rw [hT, Array.size_push]
    rw [a2] at a1
    have := hS.1
    omega
  have hN : H.size = N := hH.1
  obtain ⟨U, hst, hrun, hend, hW, hsame, ce, hce, how⟩ := Y.ctorThrowS X.1 htr X.2.2.2.1 hfit hnames hat (fun x hx => absurd hx List.not_mem_nil) (a := H.size) h1 h2 (by rw [hT, Array.getElem?_push_size]) (by omega) (msg := .ref q) rfl (g := F0 m (pc + 3 + 1 + 2) ls [.ref q, .ref H.size, .ref H.size]) rfl (hL.1.trans X.2.2.1.symm) rfl rfl (rest := []) rfl (by rw [X.2.1]; exact hd6) (by rw [X.2.1]; exact hd9)
    (fun x hx => by
      have hx2 : x ∈ c.exceptionTable := Array.mem_toList_iff.mp hx
      rw [Array.isEmpty_iff.mp hexc] at hx2
      exact absurd hx2 (Array.not_mem_empty x)) hfr (by
        show 2 * (F0 m (pc + 3 + 1 + 2) ls [.ref q, .ref H.size, .ref H.size]).monitorRoom + 1 + _ ≤ _
        rw [show (F0 m (pc + 3 + 1 + 2) ls [.ref q, .ref H.size, .ref H.size]).monitorRoom = 0 from rfl]
        omega) X.2.2.2.2.2.2.2.2.1
  have hlow : ∀ q : Nat, q < H.size → U.heap[q]? = s.heap[q]? := fun q hq => by
    have hc' : s.heap[q]? = some (s.heap[q]'(by omega)) := Array.getElem?_eq_getElem (by omega)
    obtain ⟨c', g1, g2, g3, g4⟩ := hsame.2.2.2.2.2 q _ hc'
    have g5 : c'.slots = (s.heap[q]'(by omega)).slots := Array.ext_getElem? (fun i => g4 i List.not_mem_nil)
    have g6 : U.heap[q]? = some c' := g1
    rw [g6, hc', g2, g5]
  have hus : U.heap.size = H.size + 1 := by
    have a1 : U.heap.size ≤ s.heap.size + (0 + 1) := hsame.2.2.1
    have a2 := (Array.getElem?_eq_some_iff.mp hce).1
    omega
  refine ⟨U, hst, .threw H.size, hrun, hend, ⟨by rw [hN], by omega, by omega, fun q hq => hlow q (by omega), ce, by rw [← hN]; exact hce, how.vm, how.cls⟩, ⟨_, rfl⟩, hW, hsame⟩
end ZTH
theorem zMt.of {l : Launch} {D : va_G} {cl : List vw_C} {tys : List (ClassId × FieldType)} {b0 : Nat} {G : State → Prop} {Ts : List Cond} {y : MethodName} {rm : Room} {nL : Nat} {cc : ByteArray} {ret : Option FieldType} {As : List Value} {N : Nat} {f : Nat → va_E} {cls : String}
    (hgw : zGw G Ts) (hy : plainName y.cls = true) (hl : (lg_sl As).length ≤ nL) (htl : ∀ e, l.admits e → e.platform.stackTraces = false)
    (body : ∀ (p : Program) (e : Env) (s : State) (m : MethodId) (args : Array Value) (below : List Frame) (meth : Method) (c : Code), zX p s m args meth c D cl tys b0 G cc nL y.cls Ts ret → e.platform.stackTraces = false → c.exceptionTable.isEmpty = true → b0 ≤ N →
      zWw (fun _ => False) p l e rm s m args below meth c D cl b0 nL 0 0 (zMQt below cls N args s) N f 0 (lv_args 0 As) []) : zMt l D cl tys b0 G y [Cond.code y cc nL ret] rm cls As N f := by
  refine MetFree.of_bodyS (code := cc) (maxLocals := nL) (ret := ret) hy ?_ ?_
  · intro args s m h hn
    obtain ⟨meth, c, h1, h2, h3, h4, h5, h6, -, -⟩ := Cond.code_spec hn (atoms_spec (ws := [Cond.code y cc nL ret]) h _ List.mem_cons_self)
    exact ⟨meth, c, h1, h2, h3, h4, h5, h6⟩
  · intro p e s m args below meth c s₁ B hml hv _
    obtain ⟨rfl, hG, hK, hH, hb⟩ := hv
    have hown : s.vm.findClass y.cls = some m.cls := findClass_of_methodNamed B.named
    have X : zX p s m As.toArray meth c D cl tys b0 G cc nL y.cls Ts ret := ⟨B.exec, B.bytes, hml, hown, hgw s _ hG, hG, hK, B.returns, B.notSynchronized, by rw [hH.1]; exact hb⟩
    have hL := lv_entry As (n := nL) hl
    have hh0 : s₁.heap = s.heap := by rw [B.state]; rfl
    have hexc : c.exceptionTable.isEmpty = true := B.noHandlers (atoms_spec (ws := [Cond.code y cc nL ret]) B.pre _ List.mem_cons_self)
    obtain ⟨t, a1, o, b1, b2, b3⟩ := body p e s m As.toArray below meth c X (htl e B.admits) hexc hb s.heap [] _ hH va_S.rf hL s₁ hh0 (Stand.of_body B)
    rw [lg_entry_eq]
    exact ⟨t, o, a1, b1, b2, b3⟩
