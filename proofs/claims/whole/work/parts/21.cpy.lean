section ZCP
variable {p : Program} {l : Launch} {e : Env} {R : Room} {s : State} {m : MethodId} {args : Array Value} {below : List Frame} {meth : Method} {c : Code} {cells slots : Nat} {Q : State → Prop} {D : va_G} {cl : List vw_C} {tys : List (ClassId × FieldType)} {b0 : Nat} {G : State → Prop} {cc : ByteArray} {nL : Nat} {own : String} {Ts : List Cond} {ret : Option FieldType} {N : Nat} {f : Nat → va_E} {pc : Nat} {lv : List (Nat × Value)} {st : List Value} {wr : Nat → Prop}
theorem arrV_ext {cA : ClassId} {n : Nat} {F F' : Nat → Value} (h : ∀ j, j < n → F j = F' j) : arrV cA n F = arrV cA n F' := by
  have e : (fun j : Fin n => F j.val) = (fun j : Fin n => F' j.val) := funext fun j => h j.val j.isLt
  simp only [arrV, e]
theorem z_clone (X : zX p s m args meth c D cl tys b0 G cc nL own Ts ret) {index a n t0 : Nat} {cA : ClassId} {g : Nat → Int32} (hdg : decode cc pc = .ok (.invokevirtual index, 3)) (w1 : Cond.methodLink own index ⟨"[I", "clone", "()Ljava/lang/Object;"⟩ ∈ Ts) (w2 : Cond.sameMethod "[I" "java/lang/Object" "clone" "()Ljava/lang/Object;" ∈ Ts) (w3 : Cond.native ⟨"java/lang/Object", "clone", "()Ljava/lang/Object;"⟩ ∈ Ts) (w4 : Cond.instanceMethod ⟨"java/lang/Object", "clone", "()Ljava/lang/Object;"⟩ ∈ Ts) (w5 : Cond.selects "[I" ⟨"[I", "clone", "()Ljava/lang/Object;"⟩ ⟨"java/lang/Object", "clone", "()Ljava/lang/Object;"⟩ ∈ Ts) (hcl : va_Nw (.castable "[I" "java/lang/Cloneable") s) (ha : b0 ≤ a ∧ a < N) (hf : f a = .inl (cA, n, .inl g)) (ht : tys[t0]? = some (cA, .int))
    (hfr : 1 ≤ R.frames) (hlo : (st.map fun v => v.category).sum + 14 ≤ R.locals) (hcells : cells + 1 ≤ R.cells) (hslots : slots + n ≤ R.slots) (kk : zW p l e R s m args below meth c D cl b0 nL (cells + 1) (slots + n) Q (N + 1) (va_up f N (.inl (cA, n, .inl g))) (pc + 3) lv (.ref N :: st)) : zW p l e R s m args below meth c D cl b0 nL cells slots Q N f pc lv (.ref a :: st) := fun H locs ls hH hS hL => by
  have hts := X.2.2.2.2.1
  have hK := X.2.2.2.2.2.2.1
  have hnm := va_nm_int (hK.2 t0 _ ht).2
  obtain ⟨c0, c1, f1, f2, f3⟩ := Cond.castable_spec (va_Nw.use (A := args) rfl hcl)
  cases hnm.symm.trans f1
  intro T hT Y
  have hcell : T.heap[a]? = some (vp_cell cA (n, .inl g)) := by
    rw [hT]
    have h9 := hH.use ha hf zJa
    exact h9
  obtain ⟨-, kA, hkA, comp, hkind⟩ := State.isArrayOf_alike Y.warmed.alike ((hK.2 t0 _ ht).1 0 (fun _ => .null))
  obtain ⟨-, kS, hkS, compS, hkindS⟩ := (hK.2 t0 _ ht).1 0 (fun _ => .null)
  obtain ⟨vm', Y', st9⟩ := Y.cloneArray X.1 X.2.2.2.1 (hts _ w1) (hts _ w2) (hts _ w3) (hts _ w4) (hts _ w5) (a := a) (cell := vp_cell cA (n, .inl g)) hcell (fun k h => by cases h) (fun h => by cases h) hnm f2 f3
    (fun i v hv => by
      have hk' : T.vm.classes[cA]? = some kA := hkA
      have h8 : fits FieldType.int v = true := va_fit (fun _ _ => rfl) i v hv
      simpa [State.fitsSlot, State.slotType?, show (vp_cell cA (n, .inl g)).cls = cA from rfl, hk', hkind] using h8)
    (g := F0 m pc ls (.ref a :: st)) rfl (by rw [X.2.2.1]; exact hL.1) rfl (by rw [X.2.1]; exact hdg) hfr (by show 2 * 0 + _ + 14 ≤ _; omega) hcells (by rw [show (vp_cell cA (n, .inl g)).slots.size = n from arrV_size _ _ _]; exact hslots) (hloader := Vm.clonesLoader_of_array hkS hkindS)
  rw [show (vp_cell cA (n, .inl g)).slots.size = n from arrV_size _ _ _, show ({ cls := (vp_cell cA (n, .inl g)).cls, slots := (vp_cell cA (n, .inl g)).slots } : Cell) = vp_cell cA (n, .inl g) from rfl] at Y'
  generalize hH1 : H.push (vp_cell cA (n, .inl g)) = H1
  have z1 : H1.size = N + 1 := by rw [← hH1, Array.size_push, hH.1]
  have e1 : H1[N]? = some (vp_cell cA (n, .inl g)) := by rw [← hH1, ← hH.1, Array.getElem?_push_size]
  have o1 : ∀ q : Nat, q < N → H1[q]? = H[q]? := fun q hq => by rw [← hH1, Array.getElem?_push, if_neg (by rw [hH.1]; exact Nat.ne_of_lt hq)]
  obtain ⟨t, b1, b2⟩ := kk H1 locs ls (hH.push z1 e1 o1) (zS_push hS hH.1 z1 o1) hL ((T.setVm vm').pushCell (vp_cell cA (n, .inl g))) (by rw [← hH1, ← hT]; rfl) Y'
  refine ⟨t, st9 t ?_, b2⟩
  rw [show T.heap.size = N by rw [hT]; exact hH.1]
  exact b1
theorem z_copyi (X : zX p s m args meth c D cl tys b0 G cc nL own Ts ret) {index a0 a n0 n1 t0 t1 : Nat} {c0 c1 : ClassId} {g h h' : Nat → Int32} (hdg : decode cc pc = .ok (.invokestatic index, 3)) (w1 : Cond.methodLink own index arraycopyName ∈ Ts) (w2 : Cond.native arraycopyName ∈ Ts) (w3 : Cond.static arraycopyName ∈ Ts) (w4 : Cond.initialized "java/lang/System" ∈ Ts) (ha0 : b0 ≤ a0 ∧ a0 < N) (hf0 : f a0 = .inl (c0, n0, .inl g)) (ha : b0 ≤ a ∧ a < N) (hf : f a = .inl (c1, n1, .inl h)) (ht0 : tys[t0]? = some (c0, .int)) (ht1 : tys[t1]? = some (c1, .int))
    {sp dp k : Nat} (hk31 : sp < 2 ^ 31 ∧ dp < 2 ^ 31 ∧ k < 2 ^ 31) (h4 : sp + k ≤ n0) (h5 : dp + k ≤ n1) (hfr : 1 ≤ R.frames) (hlo : (st.map fun v => v.category).sum + (nativeFrameWords "java/lang/System" "arraycopy" 5 + 11) ≤ R.locals) (hh : ∀ j, j < n1 → va_cpy g h sp dp k j = h' j) (kk : zW p l e R s m args below meth c D cl b0 nL cells slots Q N (va_up f a (.inl (c1, n1, .inl h'))) (pc + 3) lv st) : zW p l e R s m args below meth c D cl b0 nL cells slots Q N f pc lv (.int (nI k) :: .int (nI dp) :: .ref a :: .int (nI sp) :: .ref a0 :: st) := fun H locs ls hH hS hL => by
  have hts := X.2.2.2.2.1
  have hK := X.2.2.2.2.2.2.1
  intro T hT Y
  have hc0 : H[a0]? = some (vp_cell c0 (n0, .inl g)) := by
    have h9 := hH.use ha0 hf0 zJa
    exact h9
  have hc1 : H[a]? = some (vp_cell c1 (n1, .inl h)) := by
    have h9 := hH.use ha hf zJa
    exact h9
  obtain ⟨-, k0, hk0, cm0, hkk0⟩ := (hK.2 t0 _ ht0).1 n0 (fun j => .int (g j))
  obtain ⟨-, k1, hk1, cm1, hkk1⟩ := (hK.2 t1 _ ht1).1 n1 (fun j => .int (h j))
  obtain ⟨vm', Y', step⟩ := Y.arraycopy X.1 X.2.2.2.1 (hts _ w1) (hts _ w2) (hts _ w3) (hts _ w4) (src := a0) (dst := a) (cs := vp_cell c0 (n0, .inl g)) (cd := vp_cell c1 (n1, .inl h)) (srcPos := nI sp) (destPos := nI dp) (n := nI k) (by rw [hT]; exact hc0) (by rw [hT]; exact hc1)
    (fun _ h => by cases h) (fun _ h => by cases h) (fun h => by cases h) (fun h => by cases h) hk0 hk1 hkk0 hkk1 (by show (refKind FieldType.int != refKind FieldType.int || !refKind FieldType.int && FieldType.int != FieldType.int) = false; decide) (nI_pos hk31.1) (nI_pos hk31.2.1) (nI_pos hk31.2.2)
    (by rw [nI_toInt hk31.1, nI_toInt hk31.2.2]; show ¬ _ > ((arrV c0 n0 (fun j => .int (g j))).slots.size : Int); rw [arrV_size]; omega)
    (by rw [nI_toInt hk31.2.1, nI_toInt hk31.2.2]; show ¬ _ > ((arrV c1 n1 (fun j => .int (h j))).slots.size : Int); rw [arrV_size]; omega)
    (fun vm₁ _ i hi => by
      rw [nI_clamp hk31.2.2] at hi
      rw [nI_clamp hk31.1]
      have e : (vp_cell c0 (n0, .inl g)).slots.getD (sp + i) .null = .int (g (sp + i)) := by
        show (arrV c0 n0 (fun j => .int (g j))).slots.getD _ _ = _
        rw [Array.getD_eq_getD_getElem?, arrV_read _ _ (by omega)]
        rfl
      exact ⟨by rw [e]; rfl, by rw [e]; exact trivial⟩)
    (g := F0 m pc ls (.int (nI k) :: .int (nI dp) :: .ref a :: .int (nI sp) :: .ref a0 :: st)) rfl (by rw [X.2.2.1]; exact hL.1) (rest := st) rfl (by rw [X.2.1]; exact hdg) hfr (by show 2 * 0 + _ + _ ≤ _; omega)
  have e1 : copied (vp_cell c0 (n0, .inl g)) (vp_cell c1 (n1, .inl h)) (nI sp) (nI dp) (nI k) = vp_cell c1 (n1, .inl h') := by
    have e2 : copied (vp_cell c0 (n0, .inl g)) (vp_cell c1 (n1, .inl h)) (nI sp) (nI dp) (nI k) = vp_cell c1 (n1, .inl (va_cpy g h sp dp k)) := by
      have := va_copied (fun z => Value.int z) c0 c1 (n1 := n1) (dp := dp) g h h4
      show (arrV c1 n1 (fun j => .int (h j))).storeRun (nI dp).toNatClampNeg ((arrV c0 n0 (fun j => .int (g j))).stretch (nI sp).toNatClampNeg (nI k).toNatClampNeg) = _
      rw [nI_clamp hk31.1, nI_clamp hk31.2.1, nI_clamp hk31.2.2]
      exact this
    rw [e2]
    rw [vp_cell_i, vp_cell_i]
    exact arrV_ext fun j hj => by rw [hh j hj]
  rw [e1] at Y' step
  have hl : a < H.size := (Array.getElem?_eq_some_iff.mp hc1).1
  have oq : ∀ q : Nat, q ≠ a → (H.setIfInBounds a (vp_cell c1 (n1, .inl h')))[q]? = H[q]? := fun q hq => by simp [Array.getElem?_setIfInBounds, Ne.symm hq]
  obtain ⟨t, b1, b2⟩ := kk (H.setIfInBounds a (vp_cell c1 (n1, .inl h'))) _ ls (hH.set (by simp) (show (H.setIfInBounds a _)[a]? = some _ by simp [Array.getElem?_setIfInBounds, hl]) oq) ⟨by simp; exact hS.1, fun q g1 g2 => by
      rw [oq q (fun e => g2 (by rw [e]; exact ha.1))]
      exact hS.2.1 q g1 g2, fun q hq => by
      rcases List.mem_append.mp hq with h | h
      · exact hS.2.2 q h
      · obtain ⟨z, -, hz⟩ := List.mem_map.mp h
        rw [← hz]
        exact ha.1⟩ hL _ (by rw [← hT]; rfl) Y'
  exact ⟨t, step t b1, b2⟩
theorem z_castA (X : zX p s m args meth c D cl tys b0 G cc nL own Ts ret) {index a n t0 : Nat} {cA : ClassId} {g : Nat → Int32} (hdg : decode cc pc = .ok (.checkcast index, 3)) (w1 : Cond.classLink own index "[I" ∈ Ts) (ha : b0 ≤ a ∧ a < N) (hf : f a = .inl (cA, n, .inl g)) (ht : tys[t0]? = some (cA, .int)) (kk : zW p l e R s m args below meth c D cl b0 nL cells slots Q N f (pc + 3) lv (.ref a :: st)) : zW p l e R s m args below meth c D cl b0 nL cells slots Q N f pc lv (.ref a :: st) := fun H locs ls hH hS hL => by
  have h9 := hH.use ha hf zJa
  exact va_castA (D := D) (cl := cl) X.1 X.2.1 X.2.2.2.1 (X.2.2.2.2.1 _ w1) (ws := [(a, .inl (cA, n, .inl g))]) (zP1 h9) 0 rfl (va_nm_int (X.2.2.2.2.2.2.1.2 t0 _ ht).2) hdg (kk H locs ls hH hS hL)
theorem zW.re {a n : Nat} {cA : ClassId} {g g' : Nat → Int32} (hf : f a = .inl (cA, n, .inl g)) (hg : ∀ j, j < n → g j = g' j) (kk : zW p l e R s m args below meth c D cl b0 nL cells slots Q N (va_up f a (.inl (cA, n, .inl g'))) pc lv st) : zW p l e R s m args below meth c D cl b0 nL cells slots Q N f pc lv st := fun H locs ls hH hS hL => by
  refine kk H locs ls ⟨hH.1, fun q h1 h2 hj => ?_⟩ hS hL
  by_cases hq : q = a
  · subst hq
    rw [va_up_self]
    have h9 := hH.use ⟨h1, h2⟩ hf zJa
    refine Eq.trans h9 ?_
    rw [vp_cell_i, vp_cell_i]
    exact congrArg some (arrV_ext fun j hj => by rw [hg j hj])
  · rw [va_up_ne _ _ hq] at hj ⊢
    exact hH.2 q h1 h2 hj
end ZCP
theorem zF.by2 {b0 N N0 : Nat} {f0 f : Nat → va_E} {as : List Nat} {y : va_E} {ws : va_W} (h : zF N0 f0 f as) (hN : N0 ≤ N) (_ : zP b0 (N + 1) (va_up f N y) ws) : zF N0 f0 (va_up f N y) as := h.push hN y
theorem va_up_up {f : Nat → va_E} {k : Nat} {x y : va_E} : va_up (va_up f k x) k y = va_up f k y := by
  funext j
  by_cases h : j = k
  · subst h; rw [va_up_self, va_up_self]
  · rw [va_up_ne _ _ h, va_up_ne _ _ h, va_up_ne _ _ h]
section
variable {l : Launch} {D : va_G} {ck : Nat → ClassId} {ad : (Nat → Nat) × (Nat → Nat)} {b0 N : Nat} {f : Nat → va_E}
theorem sm_clone : Cond.sameMethod "[I" "java/lang/Object" "clone" "()Ljava/lang/Object;" ∈ zTs := zT_in 730 (by decide +kernel) rfl
theorem nat_clone : Cond.native ⟨"java/lang/Object", "clone", "()Ljava/lang/Object;"⟩ ∈ zTs := zT_in 731 (by decide +kernel) rfl
theorem sel_clone : Cond.selects "[I" ⟨"[I", "clone", "()Ljava/lang/Object;"⟩ ⟨"java/lang/Object", "clone", "()Ljava/lang/Object;"⟩ ∈ zTs := zT_in 733 (by decide +kernel) rfl
theorem nat_arraycopy : Cond.native ⟨"java/lang/System", "arraycopy", "(Ljava/lang/Object;ILjava/lang/Object;II)V"⟩ ∈ zTs := zT_in 739 (by decide +kernel) rfl
theorem d_Arrays_copyOf_0 : decode prog_24_method_123_code 0 = .ok (.iload_n 1, 1) := by decide +kernel
theorem d_Arrays_copyOf_1 : decode prog_24_method_123_code 1 = .ok (.aload_n 0, 1) := by decide +kernel
theorem d_Arrays_copyOf_2 : decode prog_24_method_123_code 2 = .ok (.arraylength, 1) := by decide +kernel
theorem d_Arrays_copyOf_3 : decode prog_24_method_123_code 3 = .ok (.if_icmp .ne 11, 3) := by decide +kernel
theorem d_Arrays_copyOf_6 : decode prog_24_method_123_code 6 = .ok (.aload_n 0, 1) := by decide +kernel
theorem d_Arrays_copyOf_7 : decode prog_24_method_123_code 7 = .ok (.invokevirtual 316, 3) := by decide +kernel
theorem d_Arrays_copyOf_10 : decode prog_24_method_123_code 10 = .ok (.checkcast 317, 3) := by decide +kernel
theorem d_Arrays_copyOf_13 : decode prog_24_method_123_code 13 = .ok (.areturn, 1) := by decide +kernel
theorem d_Arrays_copyOf_14 : decode prog_24_method_123_code 14 = .ok (.iload_n 1, 1) := by decide +kernel
theorem d_Arrays_copyOf_15 : decode prog_24_method_123_code 15 = .ok (.newarray .int, 2) := by decide +kernel
theorem d_Arrays_copyOf_17 : decode prog_24_method_123_code 17 = .ok (.astore_n 2, 1) := by decide +kernel
theorem d_Arrays_copyOf_18 : decode prog_24_method_123_code 18 = .ok (.aload_n 0, 1) := by decide +kernel
theorem d_Arrays_copyOf_19 : decode prog_24_method_123_code 19 = .ok (.iconst 0, 1) := by decide +kernel
theorem d_Arrays_copyOf_20 : decode prog_24_method_123_code 20 = .ok (.aload_n 2, 1) := by decide +kernel
theorem d_Arrays_copyOf_21 : decode prog_24_method_123_code 21 = .ok (.iconst 0, 1) := by decide +kernel
theorem d_Arrays_copyOf_22 : decode prog_24_method_123_code 22 = .ok (.aload_n 0, 1) := by decide +kernel
theorem d_Arrays_copyOf_23 : decode prog_24_method_123_code 23 = .ok (.arraylength, 1) := by decide +kernel
theorem d_Arrays_copyOf_24 : decode prog_24_method_123_code 24 = .ok (.iload_n 1, 1) := by decide +kernel
theorem d_Arrays_copyOf_25 : decode prog_24_method_123_code 25 = .ok (.invokestatic 304, 3) := by decide +kernel
theorem d_Arrays_copyOf_28 : decode prog_24_method_123_code 28 = .ok (.invokestatic 150, 3) := by decide +kernel
theorem d_Arrays_copyOf_31 : decode prog_24_method_123_code 31 = .ok (.aload_n 2, 1) := by decide +kernel
theorem d_Arrays_copyOf_32 : decode prog_24_method_123_code 32 = .ok (.areturn, 1) := by decide +kernel
set_option maxHeartbeats 4000000 in
set_option maxRecDepth 100000 in
theorem c_Arrays_copyOf {a n u : Nat} {g : Nat → Int32} (hP : zP b0 N f [(a, aI ck n g)]) (hun : u ≤ n) (hn : n ≤ 40) : zK l D ck ad b0 y_Arrays_copyOf prog_24_method_123_code 3 ((some (FieldType.array FieldType.int))) 1 1 40 [.ref a, .int (nI u)] N f (fun r N' f' => r = some (.ref N) ∧ N' = N + 1 ∧ f' = va_up f N (aI ck u g)) := by
  refine zM.ofF zG_w (by decide +kernel) (Nat.le_of_ble_eq_true rfl) ?_
  intro zp ze zst zm zar zbe zme zc X hnm hb0
  refine z_iload_n X d_Arrays_copyOf_0 rfl ?_
  refine z_aload_n X d_Arrays_copyOf_1 rfl ?_
  refine z_alen X d_Arrays_copyOf_2 (hP.lo 0 rfl) (hP.at 0 rfl) (t0 := 0) rfl rfl ?_
  refine z_icmp_ne X 14 d_Arrays_copyOf_3 (by decide) (fun h3 => ?_) (fun h3 => ?_)
  · refine z_iload_n X d_Arrays_copyOf_14 rfl ?_
    refine z_newaiP X rfl d_Arrays_copyOf_15 ac_int (t0 := 0) rfl (nI_pos (by omega)) (nI_clamp (n := u) (by omega)) (by show u * 4 ≤ 536870912; omega) (Nat.le_of_ble_eq_true rfl) (by show 0 + u ≤ 40; omega) hP hb0 (fun hP => ?_)
    refine z_astore_n X d_Arrays_copyOf_17 (by decide) rfl ?_
    refine z_aload_n X d_Arrays_copyOf_18 rfl ?_
    refine z_iconst X d_Arrays_copyOf_19 (v := 0) (by decide) ?_
    refine z_aload_n X d_Arrays_copyOf_20 rfl ?_
    refine z_iconst X d_Arrays_copyOf_21 (v := 0) (by decide) ?_
    refine z_aload_n X d_Arrays_copyOf_22 rfl ?_
    refine z_alen X d_Arrays_copyOf_23 (hP.lo 0 rfl) (hP.at 0 rfl) (t0 := 0) rfl rfl ?_
    refine z_iload_n X d_Arrays_copyOf_24 rfl ?_
    refine z_mmin (x := nI n) (y := nI u) X d_Arrays_copyOf_25 ml_Arrays_304 st_Math_min ini_Math mc_lib_min (Nat.le_of_ble_eq_true rfl) (Nat.le_of_ble_eq_true rfl) (Nat.le_of_ble_eq_true rfl) (by show 0 + u ≤ 40; omega) ?_
    have h3 : ¬ nI u = nI n := h3
    have hlt : u < n := by
      rcases Nat.lt_or_ge u n with z | z
      · exact z
      · exact absurd (by rw [show u = n by omega]) h3
    rw [if_pos (nI_lt hlt (by omega))]
    refine z_copyi X (sp := 0) (dp := 0) (k := u) d_Arrays_copyOf_28 ml_Arrays_150 nat_arraycopy st_System_arraycopy ini_System (hP.lo 0 rfl) (hP.at 0 rfl) (hP.lo 1 rfl) (hP.at 1 rfl) (t0 := 0) (t1 := 0) rfl rfl ⟨by omega, by omega, by omega⟩ (by omega) (by omega) (Nat.le_of_ble_eq_true rfl) (Nat.le_of_ble_eq_true rfl) (h' := g) (fun j hj => by rw [va_cpy, if_pos (by omega)]; simp) ?_
    refine z_aload_n X d_Arrays_copyOf_31 rfl ?_
    refine zW.widen (k := 1) (n := 40) (Nat.le_of_ble_eq_true rfl) (by omega) ?_
    exact z_aretA X d_Arrays_copyOf_32 (Or.inr ⟨_, rfl⟩) ⟨rfl, rfl, va_up_up⟩
  · have e9 : u = n := (nI_eq (by omega) (by omega)).mp h3
    subst e9
    refine z_aload_n X d_Arrays_copyOf_6 rfl ?_
    refine z_clone X d_Arrays_copyOf_7 ml_Arrays_316 sm_clone nat_clone im_Object_clone sel_clone (zG_n X.2.2.2.2.2.1 ns_17) (hP.lo 0 rfl) (hP.at 0 rfl) (t0 := 0) rfl (Nat.le_of_ble_eq_true rfl) (Nat.le_of_ble_eq_true rfl) (Nat.le_of_ble_eq_true rfl) (by show 0 + u ≤ 40; omega) ?_
    refine z_castA X d_Arrays_copyOf_10 kl_Arrays_317 ⟨hb0, by omega⟩ (va_up_self _ _ _) (t0 := 0) rfl ?_
    refine zW.widen (k := 1) (n := 40) (Nat.le_of_ble_eq_true rfl) (by omega) ?_
    exact z_aretA X d_Arrays_copyOf_13 (Or.inr ⟨_, rfl⟩) ⟨rfl, rfl, rfl⟩
theorem d_Arrays_fill_0 : decode prog_24_method_103_code 0 = .ok (.iconst 0, 1) := by decide +kernel
theorem d_Arrays_fill_1 : decode prog_24_method_103_code 1 = .ok (.istore_n 2, 1) := by decide +kernel
theorem d_Arrays_fill_2 : decode prog_24_method_103_code 2 = .ok (.aload_n 0, 1) := by decide +kernel
theorem d_Arrays_fill_3 : decode prog_24_method_103_code 3 = .ok (.arraylength, 1) := by decide +kernel
theorem d_Arrays_fill_4 : decode prog_24_method_103_code 4 = .ok (.istore_n 3, 1) := by decide +kernel
theorem d_Arrays_fill_5 : decode prog_24_method_103_code 5 = .ok (.iload_n 2, 1) := by decide +kernel
theorem d_Arrays_fill_6 : decode prog_24_method_103_code 6 = .ok (.iload_n 3, 1) := by decide +kernel
theorem d_Arrays_fill_7 : decode prog_24_method_103_code 7 = .ok (.if_icmp .ge 13, 3) := by decide +kernel
theorem d_Arrays_fill_10 : decode prog_24_method_103_code 10 = .ok (.aload_n 0, 1) := by decide +kernel
theorem d_Arrays_fill_11 : decode prog_24_method_103_code 11 = .ok (.iload_n 2, 1) := by decide +kernel
theorem d_Arrays_fill_12 : decode prog_24_method_103_code 12 = .ok (.iload_n 1, 1) := by decide +kernel
theorem d_Arrays_fill_13 : decode prog_24_method_103_code 13 = .ok (.iastore, 1) := by decide +kernel
theorem d_Arrays_fill_14 : decode prog_24_method_103_code 14 = .ok (.iinc 2 1, 3) := by decide +kernel
theorem d_Arrays_fill_17 : decode prog_24_method_103_code 17 = .ok (.goto (-12), 3) := by decide +kernel
theorem d_Arrays_fill_20 : decode prog_24_method_103_code 20 = .ok (.return_, 1) := by decide +kernel
theorem va_up_id (f : Nat → va_E) (a : Nat) : va_up f a (f a) = f := by
  funext j
  by_cases h : j = a
  · subst h; rw [va_up_self]
  · rw [va_up_ne _ _ h]
set_option maxHeartbeats 4000000 in
set_option maxRecDepth 100000 in
theorem c_Arrays_fill {a n : Nat} {g : Nat → Int32} {x : Int32} (hP : zP b0 N f [(a, aI ck n g)]) (hn : n ≤ 200) : zK l D ck ad b0 y_Arrays_fill prog_24_method_103_code 4 (none) 0 0 0 [.ref a, .int x] N f (fun r N' f' => r = none ∧ N = N' ∧ f' = va_up f a (aI ck n (fun _ => x))) := by
  refine zM.ofF zG_w (by decide +kernel) (Nat.le_of_ble_eq_true rfl) ?_
  intro zp ze zst zm zar zbe zme zc X hnm hb0
  have L5 : ∀ (nn : Nat) (k : Nat) (h : Nat → Int32) (f1 : Nat → va_E), (k ≤ n ∧ k + nn = n + 1) → (∀ j, j < k → h j = x) → f1 = va_up f a (aI ck n h) → zP b0 N f1 [(a, aI ck n h)] → zW zp l ze (zR 0 0 0) zst zm zar zbe zme zc D zcl b0 4 0 0 (MQ zbe (zQ D zcl b0 (fun r N' f' => r = none ∧ N = N' ∧ f' = va_up f a (aI ck n (fun _ => x)))) zar zst 0 0 (zA b0)) N f1 5 [(0, .ref a), (1, .int x), (2, .int (nI k)), (3, .int (nI n))] [] := by
    intro nn
    induction nn with
    | zero =>
      intro k h f1 hk hg hfg hP
      omega
    | succ nn ih =>
      intro k h f1 hk hg hfg hP
      refine z_iload_n X d_Arrays_fill_5 rfl ?_
      refine z_iload_n X d_Arrays_fill_6 rfl ?_
      refine z_icmp_ge X 20 d_Arrays_fill_7 (by decide) (fun h7 => ?_) (fun h7 => ?_)
      · skip
        have hk2 : k = n := by have := (nI_leI (a := n) (b := k) (by omega) (by omega)).mp h7; omega
        subst hk2
        refine zW.re (hP.at 0 rfl) (g' := fun _ => x) (fun j hj => hg j hj) ?_
        exact z_vret X d_Arrays_fill_20 ⟨rfl, rfl, by rw [hfg, va_up_up]⟩
      · skip
        have hk2 : k < n := by
          rcases Nat.lt_or_ge k n with z | z
          · exact z
          · exact absurd (nI_le (a := n) (b := k) z (by omega)) h7
        refine z_aload_n X d_Arrays_fill_10 rfl ?_
        refine z_iload_n X d_Arrays_fill_11 rfl ?_
        refine z_iload_n X d_Arrays_fill_12 rfl ?_
        refine z_iastP X d_Arrays_fill_13 hP 0 rfl (t0 := 0) rfl (vp_in_nI hk2 (by omega)) (fun hP => ?_)
        refine z_iinc X d_Arrays_fill_14 rfl (nI_1 _) (by decide) rfl ?_
        refine z_goto X 5 d_Arrays_fill_17 (by decide) ?_
        refine ih (k + 1) (upd h k x) _ (by omega) (fun j hj => ?_) (by rw [hfg, va_up_up, nI_clamp (by omega)]) (hP.eq (by rw [nI_clamp (n := k) (by omega)]; rfl))
        by_cases e : j = k
        · subst e; exact pk_us
        · rw [pk_un e]; exact hg j (by omega)
  refine z_iconst X d_Arrays_fill_0 (v := 0) (by decide) ?_
  refine z_istore_n X d_Arrays_fill_1 (by decide) rfl ?_
  refine z_aload_n X d_Arrays_fill_2 rfl ?_
  refine z_alen X d_Arrays_fill_3 (hP.lo 0 rfl) (hP.at 0 rfl) (t0 := 0) rfl rfl ?_
  refine z_istore_n X d_Arrays_fill_4 (by decide) rfl ?_
  exact L5 (n + 1) 0 g f (by omega) (fun j hj => absurd hj (Nat.not_lt_zero _)) (by rw [← hP.at 0 rfl]; exact (va_up_id f a).symm) hP
end
