/-! a callee's throw, caught by the one row of the method's table -/
/-- what the search for a handler gives, and the tables that it leaves -/
def zFt (e : Env) (s : State) (f : JFrame) (a : Addr) (h : Handler) (vm' : Vm) : Prop :=
  ∀ (Q : Handler → Pre) (E : CtlPost) (d : Bool) (acts : List Action), (findHandler f a).wp Q E e d acts s ↔ Q h d acts (s.setVm vm')
theorem zFt_one {e : Env} {s : State} {f : JFrame} {a : Addr} {meth : Method} {code : Code} (hm : s.vm.method? f.method = some meth) (hc : meth.code = some code) {x : ExceptionTableEntry} (htab : code.exceptionTable.toList = [x])
    (hx : covers x f.pc = true) (h0 : x.catchType ≠ 0) {c : ClassId} {cell : Cell} (hl : s.vm.ClassLinks e.platform f.method.cls x.catchType c) (hcell : s.heap[a]? = some cell) (hobj : ∀ k, cell.vm ≠ .statics k)
    (hk : ∃ k, s.vm.classes[cell.cls]? = some k) (hcl : ∃ k, s.vm.classes[c]? = some k) (hfit : s.vm.assignable cell.cls c = true) : zFt e s f a (.found x.handlerPc) (s.vm.noted f.method.cls x.catchType (.cls c)) := by
  intro Q E d acts
  rw [W.findHandler_eq hm hc, htab]
  simp only [covers] at hx
  obtain ⟨ha, ht⟩ := (resolveClass_links e.toSetting hl).op (op := VmOp.resolveClass f.method.cls x.catchType) rfl
  have hal : s.vm.Alike (s.vm.noted f.method.cls x.catchType (.cls c)) := (Vm.Alike.refl s.vm).noted _ _ _
  obtain ⟨k1, hk1⟩ := hk
  obtain ⟨k2, hk2⟩ := hcl
  obtain ⟨k1', hk1', -⟩ := hal.2.2 _ _ hk1
  obtain ⟨k2', hk2', -⟩ := hal.2.2 _ _ hk2
  have hfit' : (s.vm.noted f.method.cls x.catchType (.cls c)).assignable cell.cls c = true := by rw [hal.assignable]; exact hfit
  simp [findHandler.go, hx, h0, ha, ht, hcell, hobj, hk1', hk2', hfit', VmOp.dirties, VmOp.acts]
theorem zFt_steps {tb : Tables} {e : Env} {s target : State} {g : JFrame} {c : Code} {below : List Frame} {a : Addr} (h : At s g.method c below) {pc : Nat} {vm' : Vm}
    (hfind : zFt e ((s.setTop g).pushFrame (.throwing a)) g a (.found pc) vm') (hrest : Steps tb e below ((s.setVm vm').setTop { g with pc := pc, stack := [.ref a] }) target) :
    Steps tb e below ((s.setTop g).pushFrame (.throwing a)) target := by
  obtain ⟨hgo, hw⟩ := h.throwing a
  refine Steps.head hgo hw ?_
  have hIs : ∀ r, (stepThrowing e ((s.setTop g).pushFrame (.throwing a)) a (.java g :: r)).Is ((((s.setTop g).pushFrame (.throwing a)).setVm vm').setFrames (.java { g with pc := pc, stack := [.ref a] } :: r)) [] := by
    intro r
    simp only [stepThrowing, searchFrame, vmDo]
    generalize hr : Sem.go _ e false [] ((s.setTop g).pushFrame (.throwing a)) = res
    obtain ⟨as, rfl, ha⟩ := Sem.eq_ok_of hr (a := Handler.found pc) (s' := ((s.setTop g).pushFrame (.throwing a)).setVm vm') (acts' := []) (by simp [hfind _ _ _ _])
    exact ⟨rfl, ha⟩
  have hsf : ∀ (u : State) (F G : List Frame), ((u.setFrames F).setVm vm').setFrames G = (u.setVm vm').setFrames G := fun u F G => by
    have h1 : (u.setFrames F).setVm vm' = (u.setVm vm').setFrames F := rfl
    rw [h1, State.setFrames_setFrames]
  rw [stepThread_throwing (frames_entered h.top _), (hIs _).1]
  obtain ⟨g₀, hg⟩ := Option.isSome_iff_exists.mp h.top
  obtain ⟨r, hr⟩ := State.topJava?_eq_some.mp hg
  have hr' : (s.setVm vm').frames = .java g₀ :: r := hr
  rw [State.setTop_of_frames _ hr'] at hrest
  rw [hr, List.tail_cons, State.pushFrame, hsf, State.setTop_of_frames _ hr, hsf]
  exact hrest
section ZCA
variable {p : Program} {l : Launch} {e : Env} {R : Room} {s : State} {m : MethodId} {args : Array Value} {below : List Frame} {meth : Method} {c : Code} {cells slots : Nat} {Q : State → Prop} {D : va_G} {cl : List vw_C} {tys : List (ClassId × FieldType)} {b0 : Nat} {G : State → Prop} {cc : ByteArray} {nL : Nat} {own : String} {Ts : List Cond} {ret : Option FieldType} {N : Nat} {f : Nat → va_E} {pc : Nat} {lv : List (Nat × Value)} {st : List Value} {T : State} {locs : List Loc}
theorem z_caught (X : Stand p l e R s m args below meth c T locs cells slots) (a : Addr) {g : JFrame} (hg : g.method = m) {own name : String} (hown : s.vm.findClass own = some m.cls) {x : ExceptionTableEntry} (htab : c.exceptionTable.toList = [x])
    (hx : covers x g.pc = true) (h0 : x.catchType ≠ 0) (hlink : (Cond.classLink own x.catchType name).before args s = true) {cell : Cell} (hcT : s.vm.findClass name = some cell.cls) (hcell : T.heap[a]? = some cell) (hobj : cell.vm.isStatics = false) (hfit : s.vm.assignable cell.cls cell.cls = true) :
    ∃ vm', Stand p l e R s m args below meth c (T.setVm vm') locs cells slots ∧ ∀ target, Steps p.tables e below ((T.setVm vm').setTop { g with pc := x.handlerPc, stack := [.ref a] }) target → Steps p.tables e below ((T.setTop g).pushFrame (.throwing a)) target := by
  have hpl : e.platform.magicAccessors = ({} : Platform).magicAccessors := by rw [X.admits.platform]
  obtain ⟨c', hc', hcl⟩ := Cond.classLink_spec hown hlink e.platform hpl
  cases hcT.symm.trans hc'
  obtain ⟨dk, _, _, kt, hd, _, _, _, _, hkt, _, hopen⟩ := hcl.here
  have hcl₀ := X.warmed.classLinks hcl
  have hW' : s.WarmedH (T.vm.noted m.cls x.catchType (.cls cell.cls)) := X.warmed.noted hd hopen (State.rightAt_cls hcl)
  have hal := X.warmed.alike
  obtain ⟨kt', hkt', -⟩ := hal.2.2 _ _ hkt
  have hfit' : T.vm.assignable cell.cls cell.cls = true := by rw [hal.assignable]; exact hfit
  refine ⟨_, X.noted hW', fun target hrest => ?_⟩
  subst hg
  exact zFt_steps X.here (zFt_one (s := (T.setTop g).pushFrame (.throwing a)) (meth := meth) (code := c) X.method' X.code htab hx h0 (c := cell.cls) (cell := cell) hcl₀ hcell (VmData.ne_statics_of hobj) ⟨kt', hkt'⟩ ⟨kt', hkt'⟩ hfit') hrest
/-- an object of a class that is none of ours: nothing is said of its cell -/
abbrev zjk : va_E := .inr (99, [])
/-- a call of a method that throws, and is caught at hp -/
theorem z_callVT (X : zX p s m args meth c D cl tys b0 G cc nL own Ts ret) {y : MethodName} {bytes : ByteArray} {maxL n index : Nat} {ret' : Option FieldType} {ws : List Cond} {rm : Room} {As : List Value} {st0 : List Value} (hg : zGok b0 G) {C cls : String} {TT : u_T} {k ci a : Nat} {fs : List Value}
    (hM : zMt l D cl tys b0 G y ws rm cls (.ref a :: As) N f) (hdg : decode cc pc = .ok (.invokevirtual index, 3)) (cw : CallW R s args own C index y bytes maxL ret' ws rm 1 6 n) (ha : b0 ≤ a ∧ a < N) (hf : f a = .inr (ci, fs)) (hc : cl[ci]? = some (C, TT, k)) (hst : st0 = As.reverse ++ .ref a :: st) (hn : As.length = n) (hroom : (st.map fun v => v.category).sum ≤ 8) (hf9 : cells + 1 ≤ R.cells ∧ slots + 6 ≤ R.slots)
    {x : ExceptionTableEntry} (htab : c.exceptionTable.toList = [x]) (hx : covers x pc = true) (h0 : x.catchType ≠ 0) (hlink : (Cond.classLink own x.catchType cls).before args s = true) (hjk : zJ cl zjk)
    (kk : zW p l e R s m args below meth c D cl b0 nL (cells + 1) (slots + 6) Q (N + 1) (va_up f N zjk) x.handlerPc lv [.ref N]) : zW p l e R s m args below meth c D cl b0 nL cells slots Q N f pc lv st0 := fun H locs ls hH hS hL => by
  subst hst
  have h1 := hH.use ha hf (zJo hc)
  obtain ⟨cellB, hcB, hoB, hclB⟩ := va_recv X.2.2.2.2.2.2.1 (zP1 h1) hc (q0 := 0) rfl
  obtain ⟨⟨hrc, hrs, hfr, hlo, hws, hcin, hcode, hinit, hy, hlen, hl⟩, hin, hse⟩ := cw
  intro T hT Y
  obtain ⟨mk, methM, hnamed, hmethM, hstM, habM⟩ := Cond.instanceMethod_spec hin
  obtain ⟨methM', cM, hmethM', hcM, -, hlM, -, -, -, hsigM⟩ := Cond.code_spec hnamed hcode
  cases hmethM.symm.trans hmethM'
  obtain ⟨c2, r2, m2, q1, q2, q3, q4, kP, hkP, hkPi⟩ := Cond.selects_spec hse
  cases hclB.symm.trans q1
  cases (State.methodFound?_of_named hnamed hy).symm.trans q2
  cases hnamed.symm.trans q3
  have hselP : selectMethod e.platform s.vm cellB.cls mk = .method mk := by rw [Launch.admits_selectMethod Y.admits]; exact q4
  obtain ⟨vm₁, X₁, hstep₁⟩ := Y.invokevirtual X.1 X.2.2.2.1 hl hnamed hmethM hstM hkP hkPi hy (a := a) (cell := cellB) (by rw [hT]; exact hcB)
    (fun z h => by rw [h] at hoB; cases hoB) hselP hmethM habM hkP hkPi (g := F0 m pc ls (As.reverse ++ .ref a :: st)) rfl (argsL := As) (rest := st) (hn.trans (hlen _ hsigM)) rfl (by rw [X.2.1]; exact hdg)
  obtain ⟨g, hgdef⟩ : ∃ g : JFrame, g = { F0 m pc ls (As.reverse ++ .ref a :: st) with stack := st } := ⟨_, rfl⟩
  rw [← hgdef] at hstep₁
  have hgm : g.method = m := by rw [hgdef]
  have hgpc : g.pc = pc := by rw [hgdef]
  have hgst : g.stack = st := by rw [hgdef]
  have hglo : g.locals = ls := by rw [hgdef]
  have hgmr : g.monitorRoom = 0 := by rw [hgdef]
  -- the callee runs and throws
  obtain ⟨kY, hkY, -⟩ := className_of_methodNamed (X₁.named hnamed)
  have hin1 : (Cond.initialized y.cls).before (Value.ref a :: As).toArray (T.setVm vm₁) = true := by
    exact word_at X₁.warmed (Or.inl (by first | rfl | simp [Cond.onTables, Cond.keeps, Cond.steady])) hinit
  have hinitY : kY.init = .initialized := Cond.initialized_spec (findClass_of_methodNamed (X₁.named hnamed)) hkY hin1
  have hAt : At (T.setVm vm₁) g.method c below := by rw [hgm]; exact X₁.here
  have hmY : (T.setVm vm₁).vm.method? mk = some methM := by rw [X₁.warmed.alike.method?]; exact hmethM
  have happ : (headSpec ws rm).appliesLoose y e.platform ((T.setVm vm₁).calling g mk (Value.ref a :: As).toArray) = true :=
    Spec.appliesLoose_calling (g := g) hAt (by rw [X.2.1, hgpc]; exact hdg) (X₁.named hnamed) hkY hinitY
      (X₁.room_calling (g := g) (R' := rm) (by rw [hglo]; exact hL.1.trans X.2.2.1.symm) hmY hcM hfr (by rw [hlM, hgmr, hgst]; omega) (by rw [hrc]; exact hf9.1) (by rw [hrs]; exact hf9.2))
      (atoms_intro fun w hw => hws w hw _ _ X₁.warmed)
  obtain ⟨mid, hmid⟩ := hAt.above
  have hfr' : ((T.setVm vm₁).setTop g).frames = (.java g :: mid) ++ below := by rw [State.frames_setTop' g hAt.top, hmid]; rfl
  have hPc : zPc D cl tys b0 G (.ref a :: As) N f (Value.ref a :: As).toArray ((T.setVm vm₁).calling g mk (Value.ref a :: As).toArray) :=
    zblind hg _ _ _ _ (z_pre X (As := .ref a :: As) (wr := zA b0) (fun _ h => h) hg hH hS (T.setVm vm₁) hT X₁.warmed)
  obtain ⟨o, s₂, hsteps, -, hend, hq, hfe⟩ := Steps.callFree hM p X₁.admits X₁.cas X₁.clock (acts := []) hfr' happ hPc trivial
  obtain ⟨rfl, u1, u2, u3, ce, u4, u5, u6⟩ := hq
  obtain ⟨-, hWt, hsame⟩ := hfe
  have hend' : Ended s₂ (.java g :: below) (.threw N) := by
    rw [State.frames_setTop' g hAt.top] at hend
    have hb : (T.setVm vm₁).frames.tail = below := by
      obtain ⟨g₀, hr⟩ := X₁.frames_eq
      rw [hr]; rfl
    rw [hb] at hend
    exact hend
  obtain ⟨T', X₂, hW2, hsm2, hs2⟩ := X₁.outOfThrown hgm hend' hWt hsame
  have hheap : T'.heap = s₂.heap := by rw [hs2]; exact (throwing_heap T' g N).symm
  have hcls : s.vm.findClass cls = some ce.cls := by
    have h1 : (T.setVm vm₁).vm.findClass cls = some ce.cls := u6
    rw [← X₁.warmed.alike.findClass]
    exact h1
  have hce : T'.heap[N]? = some ce := by rw [hheap]; exact u4
  have hfit : s.vm.assignable ce.cls ce.cls = true := by
    show s.vm.assignableAux 256 ce.cls ce.cls = true
    rw [Vm.assignableAux]
    simp
  obtain ⟨vm', X₃, hcat⟩ := z_caught X₂ N hgm X.2.2.2.1 htab (by rw [hgpc]; exact hx) h0 hlink hcls hce (by rw [u5]; rfl) hfit
  have hsz : H.size = N := hH.1
  have hcal : ∀ q : Nat, ((T.setVm vm₁).calling g mk (Value.ref a :: As).toArray).heap[q]? = H[q]? := fun q => by
    show T.heap[q]? = H[q]?
    rw [hT]
  have ho : ∀ q : Nat, q < N → T'.heap[q]? = H[q]? := fun q hq => by rw [hheap]; exact (u3 q hq).trans (hcal q)
  have hz : T'.heap.size = N + 1 := by rw [hheap]; exact u2
  have hH' : zH D cl b0 (N + 1) (va_up f N zjk) T'.heap := hH.junk hjk hz ho
  have hS' : va_S (zA b0) s.heap T'.heap locs := zS_push hS hsz hz ho
  obtain ⟨t, ht, hQ⟩ := kk T'.heap (locs ++ []) ls hH' (by rw [List.append_nil]; exact hS') hL (T'.setVm vm') rfl X₃
  refine ⟨t, ?_, hQ⟩
  refine hstep₁ _ fun acts => ?_
  rw [doInvoke_state]
  refine hsteps.trans ?_
  rw [hs2]
  refine hcat t ?_
  have hgF : ({ g with pc := x.handlerPc, stack := [.ref N] } : JFrame) = F0 m x.handlerPc ls [.ref N] := by rw [hgdef]
  rw [hgF]
  exact ht
end ZCA
