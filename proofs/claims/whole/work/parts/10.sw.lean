/-! switches, by their lists of targets; booleans -/
section ZSW
variable {p : Program} {l : Launch} {e : Env} {R : Room} {s : State} {m : MethodId} {args : Array Value} {below : List Frame} {meth : Method} {c : Code} {cells slots : Nat} {Q : State → Prop} {D : va_G} {cl : List vw_C} {tys : List (ClassId × FieldType)} {b0 : Nat} {G : State → Prop} {cc : ByteArray} {nL : Nat} {own : String} {Ts : List Cond} {ret : Option FieldType} {N : Nat} {f : Nat → va_E} {pc : Nat} {lv : List (Nat × Value)} {st : List Value}
theorem zW.topc {pc' : Nat} (h : pc = pc') (kk : zW p l e R s m args below meth c D cl b0 nL cells slots Q N f pc' lv st) : zW p l e R s m args below meth c D cl b0 nL cells slots Q N f pc lv st := h ▸ kk
theorem z_tableL (X : zX p s m args meth c D cl tys b0 G cc nL own Ts ret) {dflt lo hi : Int} {offs : Array Int} {len : Nat} {x : Int32} (dt : Nat) (ts : List Nat) (hdg : decode cc pc = .ok (.tableswitch dflt lo hi offs, len)) (hd : (pc : Int) + dflt = (dt : Int)) (hts : offs.toList.map (fun o => (pc : Int) + o) = ts.map (fun (t : Nat) => (t : Int))) (hsz : hi + 1 = lo + (ts.length : Int))
    (kk : ∀ i : Nat, i < ts.length → x = Int32.ofInt (lo + (i : Int)) → zW p l e R s m args below meth c D cl b0 nL cells slots Q N f (ts.getD i 0) lv st) (kd : (∀ i : Nat, i < ts.length → ¬ x = Int32.ofInt (lo + (i : Int))) → zW p l e R s m args below meth c D cl b0 nL cells slots Q N f dt lv st) (hlo : -2147483648 ≤ lo ∧ hi ≤ 2147483647) : zW p l e R s m args below meth c D cl b0 nL cells slots Q N f pc lv (.int x :: st) := by
  by_cases h : x.toInt < lo ∨ hi < x.toInt
  · refine z_tableOut X dt hdg h hd (kd (fun i hi2 e => ?_))
    have e2 : x.toInt = lo + (i : Int) := by
      rw [e]
      exact Int32.toInt_ofInt_of_le (by omega) (by omega)
    omega
  · have h1 : ¬ x.toInt < lo := fun q => h (Or.inl q)
    have h2 : ¬ hi < x.toInt := fun q => h (Or.inr q)
    obtain ⟨i, hi2⟩ : ∃ i : Nat, (x.toInt - lo).toNat = i := ⟨_, rfl⟩
    have hix : x.toInt = lo + (i : Int) := by omega
    have hl : i < ts.length := by omega
    have hl2 : ts.length = offs.toList.length := by
      have := congrArg List.length hts
      simpa using this.symm
    have ho : offs[i]? = some (offs.toList[i]'(by omega)) := by
      rw [← Array.getElem?_toList]
      exact List.getElem?_eq_getElem (by omega)
    refine z_tableIn X (ts.getD i 0) hdg h1 h2 (off := offs.toList[i]'(by omega)) (by rw [hi2]; exact ho) ?_ (kk i hl ?_)
    · have e1 : (offs.toList.map (fun o => (pc : Int) + o))[i]? = some ((pc : Int) + offs.toList[i]'(by omega)) := by
        rw [List.getElem?_map, List.getElem?_eq_getElem (by omega)]
        rfl
      rw [hts, List.getElem?_map, List.getElem?_eq_getElem hl] at e1
      rw [List.getD_eq_getElem?_getD, List.getElem?_eq_getElem hl]
      exact (Option.some.inj e1).symm
    · rw [← hix]
      exact (Int32.ofInt_toInt x).symm
/-- a lookupswitch, by its pairs -/
theorem z_lookL (X : zX p s m args meth c D cl tys b0 G cc nL own Ts ret) {dflt : Int} {x : Int32} (dt : Nat) : ∀ (qs : List (Int × Int)) (ks : List (Int32 × Nat)), qs.map (fun q => (q.1, (pc : Int) + q.2)) = ks.map (fun k => (k.1.toInt, (k.2 : Int))) → (pc : Int) + dflt = (dt : Int) →
    (∀ i : Nat, i < ks.length → x = (ks.getD i (0, 0)).1 → zW p l e R s m args below meth c D cl b0 nL cells slots Q N f (ks.getD i (0, 0)).2 lv st) → ((∀ i : Nat, i < ks.length → ¬ x = (ks.getD i (0, 0)).1) → zW p l e R s m args below meth c D cl b0 nL cells slots Q N f dt lv st) →
    ∃ (off : Int) (tgt : Nat), Op.lookupswitch.offset qs dflt x.toInt = off ∧ (pc : Int) + off = (tgt : Int) ∧ zW p l e R s m args below meth c D cl b0 nL cells slots Q N f tgt lv st
  | [], [], _, hd, _, kd => ⟨dflt, dt, rfl, hd, kd (fun i h => absurd h (by simp))⟩
  | [], k :: ks, h, _, _, _ => by simp at h
  | q :: qs, [], h, _, _, _ => by simp at h
  | q :: qs, k :: ks, h, hd, kk, kd => by
    rw [List.map_cons, List.map_cons] at h
    obtain ⟨h1, h2⟩ := List.cons.inj h
    have hk1 : q.1 = k.1.toInt := congrArg Prod.fst h1
    have hk2 : (pc : Int) + q.2 = (k.2 : Int) := congrArg Prod.snd h1
    by_cases e : x = k.1
    · refine ⟨q.2, k.2, ?_, hk2, kk 0 (by simp) e⟩
      rw [Op.lookupswitch.offset_cons, if_pos (by rw [hk1, e])]
    · obtain ⟨off, tgt, a1, a2, a3⟩ := z_lookL X (x := x) dt qs ks h2 hd (fun i hi hx => kk (i + 1) (by simpa using hi) (by simpa using hx)) (fun hn => kd (fun i hi => by
        cases i with
        | zero => simpa using e
        | succ i => simpa using hn i (by simpa using hi)))
      refine ⟨off, tgt, ?_, a2, a3⟩
      rw [Op.lookupswitch.offset_cons, if_neg (by rw [hk1]; exact fun z => e (Int32.toInt_inj.mp z.symm) )]
      exact a1
theorem z_lookS (X : zX p s m args meth c D cl tys b0 G cc nL own Ts ret) {dflt : Int} {ps : Array (Int × Int)} {len : Nat} {x : Int32} (dt : Nat) (ks : List (Int32 × Nat)) (hdg : decode cc pc = .ok (.lookupswitch dflt ps, len)) (hp : (ps.toList.zip (ps.toList.drop 1)).all (fun (a, next) => a.1 < next.1) = true) (hks : ps.toList.map (fun q => (q.1, (pc : Int) + q.2)) = ks.map (fun k => (k.1.toInt, (k.2 : Int)))) (hd : (pc : Int) + dflt = (dt : Int))
    (kk : ∀ i : Nat, i < ks.length → x = (ks.getD i (0, 0)).1 → zW p l e R s m args below meth c D cl b0 nL cells slots Q N f (ks.getD i (0, 0)).2 lv st) (kd : (∀ i : Nat, i < ks.length → ¬ x = (ks.getD i (0, 0)).1) → zW p l e R s m args below meth c D cl b0 nL cells slots Q N f dt lv st) : zW p l e R s m args below meth c D cl b0 nL cells slots Q N f pc lv (.int x :: st) := by
  obtain ⟨off, tgt, a1, a2, a3⟩ := z_lookL X (x := x) (dflt := dflt) dt ps.toList ks hks hd kk kd
  exact z_lookup X tgt hdg hp a1 a2 a3
end ZSW
/-- booleans as the machine has them -/
def zb (b : Bool) : Int32 := if b = true then 1 else 0
theorem zb_n (b : Bool) : narrow .boolean (.int (zb b)) = .int (zb b) := by cases b <;> rfl
theorem zb_fit (b : Bool) : fits .boolean (.int (zb b)) = true := by cases b <;> rfl
theorem zb_0 {b : Bool} : zb b = 0 ↔ b = false := by cases b <;> decide
theorem zb_1 {b : Bool} : zb b = 1 ↔ b = true := by cases b <;> decide
theorem zb_i {b b' : Bool} : zb b = zb b' ↔ b = b' := by cases b <;> cases b' <;> decide
theorem zb_v (b : Bool) : vp_nar .boolean (zb b) = zb b := by cases b <;> rfl
