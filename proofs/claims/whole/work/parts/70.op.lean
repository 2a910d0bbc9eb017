/-! the law's state: the class's object, the reference's object, the out cell -/
abbrev Zt : Type := (Nat → Int32) × Nat × RSt × (Nat → Int32) × PSt × Int32 × Int32 × Nat × (Nat → RuS)
def Ldj (b0 T : Nat) (A A' : Nat → Nat) (ob : Nat) : Prop := b0 ≤ ob ∧ ob < T ∧ ob ∉ AL A ∧ ∀ k, (md k).1 ≠ 9 → b0 ≤ A' k ∧ A' k < T ∧ A' k ∉ AL A ∧ A' k ≠ ob
def Lcp (ck : Nat → ClassId) (b0 T : Nat) (A : Nat → Nat) (z : Zt) (N : Nat) (f : Nat → va_E) : Prop := ∃ (B : Nat → Nat) (lb : Int32) (G : Nat → Int32), zC ck b0 N f T A B z.1 z.2.1 z.2.2.1 lb G z.2.2.2.1 z.2.2.2.2.1 z.2.2.2.2.2.1 z.2.2.2.2.2.2.1 z.2.2.2.2.2.2.2.1 z.2.2.2.2.2.2.2.2
def IZ (z : Zt) (μ : MS) : Prop := Inv z.1 z.2.1 z.2.2.1 z.2.2.2.1 z.2.2.2.2.1 z.2.2.2.2.2.1 z.2.2.2.2.2.2.1 z.2.2.2.2.2.2.2.1 z.2.2.2.2.2.2.2.2 μ
def Lhp (ck : Nat → ClassId) (b0 T : Nat) (A A' : Nat → Nat) (ob : Nat) (z : Zt) (μ : MS) (jo : Nat → Int64) (N : Nat) (f : Nat → va_E) : Prop := T ≤ N ∧ f ob = aJ ck jo ∧ Lcp ck b0 T A z N f ∧ zMf ck b0 N A' f f μ
def Lst (ck : Nat → ClassId) (b0 T : Nat) (A A' : Nat → Nat) (ob N : Nat) (f : Nat → va_E) : Prop := ∃ z μ jo, Lhp ck b0 T A A' ob z μ jo N f ∧ IZ z μ
/-- what a call of the class leaves -/
def Lcq (ck : Nat → ClassId) (b0 T : Nat) (A : Nat → Nat) (N : Nat) (f : Nat → va_E) (z : Zt) (N' : Nat) (f' : Nat → va_E) : Prop := N ≤ N' ∧ Lcp ck b0 T A z N' f' ∧ zF T f f' (AL A)
section
variable {ck : Nat → ClassId} {b0 T N N' : Nat} {A A' : Nat → Nat} {ob : Nat} {z z' : Zt} {μ μ' : MS} {jo jo' : Nat → Int64} {f f' f0 : Nat → va_E}
theorem zP.lp {ws : va_W} (h : zP b0 N f ws) (hN : N ≤ N') (hf : ∀ q ∈ ws.map (fun q => q.1), f' q = f q) : zP b0 N' f' ws := by
  refine zP.mk h.1 fun q hq => ?_
  obtain ⟨a1, a2, a3⟩ := h.mem hq
  exact ⟨a1, by omega, (hf q.1 (List.mem_map.mpr ⟨q, hq, rfl⟩)).trans a3⟩
theorem Lcp.tr (h : Lcp ck b0 T A z N f) (hN : N ≤ N') (h1 : ∀ q ∈ AL A, f' q = f q) (h2 : ∀ q, T ≤ q → q < N → f' q = f q) : Lcp ck b0 T A z N' f' := by
  obtain ⟨B, lb, G, p1, p2, p3, p4⟩ := h
  refine ⟨B, lb, G, p1.lp hN h1, p2, fun r hr => ?_, fun r hr q hq => ?_⟩
  · obtain ⟨a1, a2, a3⟩ := p3 r hr
    exact ⟨a1, by omega, a3⟩
  · obtain ⟨a1, a2, a3⟩ := p3 r hr
    have x2 : q.1 ∈ AR (B r) := List.mem_map.mpr ⟨q, hq, rfl⟩
    rw [h2 q.1 (by simp [AR] at x2; omega) (by simp [AR] at x2; omega)]
    exact p4 r hr q hq
theorem zMf.tr (h : zMf ck b0 N A' f0 f μ) (hN : N ≤ N') (hf : ∀ k, (md k).1 ≠ 9 → f' (A' k) = f (A' k)) : zMf ck b0 N' A' f' f' μ := by
  refine ⟨fun k hk => ?_, h.2.1, fun _ _ => rfl⟩
  obtain ⟨a1, a2⟩ := h.1 k hk
  exact ⟨⟨a1.1, by omega⟩, (hf k hk).trans a2⟩
theorem Lcp.same (h : Lcp ck b0 T A z N f) : Lcq ck b0 T A N f z N f := ⟨Nat.le_refl _, h, fun _ _ _ => rfl⟩
theorem Lhp.c (hd : Ldj b0 T A A' ob) (h : Lhp ck b0 T A A' ob z μ jo N f) (hc : Lcq ck b0 T A N f z' N' f') : Lhp ck b0 T A A' ob z' μ jo N' f' :=
  ⟨Nat.le_trans h.1 hc.1, (hc.2.2 ob hd.2.1 hd.2.2.1).trans h.2.1, hc.2.1, h.2.2.2.tr hc.1 fun k hk => hc.2.2 _ (hd.2.2.2 k hk).2.1 (hd.2.2.2 k hk).2.2.1⟩
theorem Lhp.m (hd : Ldj b0 T A A' ob) (h : Lhp ck b0 T A A' ob z μ jo N f) (hm : zMf ck b0 N A' f f' μ') : Lhp ck b0 T A A' ob z μ' jo N f' :=
  ⟨h.1, (hm.2.2 ob fun k hk => Ne.symm (hd.2.2.2 k hk).2.2.2).trans h.2.1, h.2.2.1.tr (Nat.le_refl _) (fun q hq => hm.2.2 q fun k hk e => (hd.2.2.2 k hk).2.2.1 (e ▸ hq)) (fun q hq _ => hm.2.2 q fun k hk e => by have := (hd.2.2.2 k hk).2.1; omega), hm.tr (Nat.le_refl _) fun _ _ => rfl⟩
theorem Lhp.o (hd : Ldj b0 T A A' ob) (h : Lhp ck b0 T A A' ob z μ jo N f) : Lhp ck b0 T A A' ob z μ jo' N (va_up f ob (aJ ck jo')) :=
  ⟨h.1, va_up_self _ _ _, h.2.2.1.tr (Nat.le_refl _) (fun q hq => va_up_ne _ _ fun e => hd.2.2.1 (e ▸ hq)) (fun q hq _ => va_up_ne _ _ fun e => by have := hd.2.1; omega), h.2.2.2.tr (Nat.le_refl _) fun k hk => va_up_ne _ _ (hd.2.2.2 k hk).2.2.2⟩
theorem Lhp.n (hd : Ldj b0 T A A' ob) (h : Lhp ck b0 T A A' ob z μ jo N f) {x : va_E} : Lhp ck b0 T A A' ob z μ jo (N + 1) (va_up f N x) := by
  have hA : ∀ q ∈ AL A, q < N := by
    obtain ⟨B, lb, G, p1, p2, -⟩ := h.2.2.1
    exact fun q hq => Nat.lt_of_lt_of_le (p2 q hq) h.1
  have hT := h.1
  have hob := hd.2.1
  exact ⟨by omega, (va_up_ne _ _ (by omega)).trans h.2.1, h.2.2.1.tr (by omega) (fun q hq => va_up_ne _ _ (by have := hA q hq; omega)) (fun q _ hq => va_up_ne _ _ (by omega)), h.2.2.2.tr (by omega) fun k hk => va_up_ne _ _ (by have := (hd.2.2.2 k hk).2.1; omega)⟩
theorem Lhp.obj (h : Lhp ck b0 T A A' ob z μ jo N f) : (b0 ≤ A' 38 ∧ A' 38 < N) ∧ ∃ fs, f (A' 38) = .inr (8, fs) := ⟨(h.2.2.2.1 38 (by decide)).1, _, (h.2.2.2.1 38 (by decide)).2⟩
theorem Lhp.cobj (h : Lhp ck b0 T A A' ob z μ jo N f) : (b0 ≤ A 0 ∧ A 0 < N) ∧ ∃ fs, f (A 0) = .inr (7, fs) := by
  obtain ⟨B, lb, G, p1, -⟩ := h.2.2.1
  exact ⟨p1.lo 0 rfl, _, p1.at 0 rfl⟩
end
section
variable {l : Launch} {D : va_G} {ck : Nat → ClassId} {ad : (Nat → Nat) × (Nat → Nat)} {b0 T N : Nat} {A A' : Nat → Nat} {ob : Nat} {z z' : Zt} {μ μ' : MS} {jo : Nat → Int64} {f : Nat → va_E}
/-- the class's call, then the reference's: the same answer -/
def Ot2 (l : Launch) (D : va_G) (ck : Nat → ClassId) (ad : (Nat → Nat) × (Nat → Nat)) (b0 T : Nat) (A A' : Nat → Nat) (ob : Nat) (yc : MethodName) (cc : ByteArray) (nc : Nat) (rc : Option FieldType) (dc : Nat) (ym : MethodName) (cm : ByteArray) (nm : Nat) (rm : Option FieldType) (dm : Nat) (As : List Value) (N : Nat) (f : Nat → va_E) : Prop :=
  ∃ (ans : Int32) (P : Nat → (Nat → va_E) → Prop), zK l D ck ad b0 yc cc nc rc dc 0 0 (.ref (A 0) :: As) N f (fun r N' f' => r = some (.int ans) ∧ P N' f') ∧ ∀ N' f', P N' f' → ((b0 ≤ A' 38 ∧ A' 38 < N') ∧ ∃ fs, f' (A' 38) = .inr (8, fs)) ∧ zK l D ck ad b0 ym cm nm rm dm 0 0 (.ref (A' 38) :: As) N' f' (fun r N'' f'' => r = some (.int ans) ∧ Lst ck b0 T A A' ob N'' f'')
theorem Ot2.mk {yc : MethodName} {cc : ByteArray} {nc : Nat} {rc : Option FieldType} {dc : Nat} {ym : MethodName} {cm : ByteArray} {nm : Nat} {rm : Option FieldType} {dm : Nat} {As : List Value} {ans : Int32} (hd : Ldj b0 T A A' ob) (h : Lhp ck b0 T A A' ob z μ jo N f)
    (hc : zK l D ck ad b0 yc cc nc rc dc 0 0 (.ref (A 0) :: As) N f (fun r N' f' => r = some (.int ans) ∧ Lcq ck b0 T A N f z' N' f'))
    (hm : ∀ N' f', zMf ck b0 N' A' f' f' μ → zK l D ck ad b0 ym cm nm rm dm 0 0 (.ref (A' 38) :: As) N' f' (fun r N'' f'' => r = some (.int ans) ∧ N' = N'' ∧ zMf ck b0 N' A' f' f'' μ')) (hi : IZ z' μ') : Ot2 l D ck ad b0 T A A' ob yc cc nc rc dc ym cm nm rm dm As N f := by
  refine ⟨ans, _, hc, fun N' f' hp => ?_⟩
  have h1 := h.c hd hp
  refine ⟨h1.obj, (hm N' f' h1.2.2.2).mono ?_⟩
  intro r N2 f2 hq
  obtain ⟨a1, rfl, a3⟩ := hq
  exact ⟨a1, z', μ', jo, h1.m hd a3, hi⟩
/-- the law's helper, then the reference's call, then what it says of a throw -/
def Ot3 (l : Launch) (D : va_G) (ck : Nat → ClassId) (ad : (Nat → Nat) × (Nat → Nat)) (b0 T : Nat) (A A' : Nat → Nat) (ob : Nat) (yc : MethodName) (cc : ByteArray) (nc : Nat) (hh : List (Nat × Nat × Nat × Nat)) (dc mc ms : Nat) (ym : MethodName) (cm : ByteArray) (nm : Nat) (rm : Option FieldType) (dm : Nat) (As : List Value) (N : Nat) (f : Nat → va_E) : Prop :=
  ∃ (kk ans : Int32) (P P2 : Nat → (Nat → va_E) → Prop), (kk = 0 ∨ kk = 1) ∧ zKW l D ck ad b0 yc cc nc (some .int) hh dc mc ms (.ref (A 0) :: (As ++ [.ref ob])) N f (fun r N' f' => r = some (.int kk) ∧ P N' f') ∧ ∀ N1 f1, P N1 f1 → ((b0 ≤ A' 38 ∧ A' 38 < N1) ∧ ∃ fs, f1 (A' 38) = .inr (8, fs)) ∧ zK l D ck ad b0 ym cm nm rm dm 0 0 (.ref (A' 38) :: As) N1 f1 (fun r N2 f2 => r = some (.int ans) ∧ P2 N2 f2) ∧
    ∀ N2 f2, P2 N2 f2 → ((b0 ≤ A' 38 ∧ A' 38 < N2) ∧ ∃ fs, f2 (A' 38) = .inr (8, fs)) ∧ zK l D ck ad b0 y_Mod_thrown prog_10_method_2_code 1 (some .int) 0 0 0 [.ref (A' 38)] N2 f2 (fun r N3 f3 => r = some (.int kk) ∧ Lst ck b0 T A A' ob N3 f3 ∧ ∃ jo, f3 ob = aJ ck jo ∧ (kk = 0 → jo 0 = ans.toInt64))
theorem Ot3.fin {yc : MethodName} {cc : ByteArray} {nc : Nat} {hh : List (Nat × Nat × Nat × Nat)} {dc mc ms : Nat} {ym : MethodName} {cm : ByteArray} {nm : Nat} {rm : Option FieldType} {dm : Nat} {As : List Value} {kk ans : Int32} {P : Nat → (Nat → va_E) → Prop} (hd : Ldj b0 T A A' ob) (hk : kk = 0 ∨ kk = 1)
    (hc : zKW l D ck ad b0 yc cc nc (some .int) hh dc mc ms (.ref (A 0) :: (As ++ [.ref ob])) N f (fun r N' f' => r = some (.int kk) ∧ P N' f')) (hP : ∀ N1 f1, P N1 f1 → Lhp ck b0 T A A' ob z' μ jo N1 f1) (hjo : kk = 0 → jo 0 = ans.toInt64)
    (hm : ∀ N' f', zMf ck b0 N' A' f' f' μ → zK l D ck ad b0 ym cm nm rm dm 0 0 (.ref (A' 38) :: As) N' f' (fun r N'' f'' => r = some (.int ans) ∧ N' = N'' ∧ zMf ck b0 N' A' f' f'' μ')) (ht : μ'.1 0 = kk) (hi : IZ z' μ') : Ot3 l D ck ad b0 T A A' ob yc cc nc hh dc mc ms ym cm nm rm dm As N f := by
  refine ⟨kk, ans, P, Lhp ck b0 T A A' ob z' μ' jo, hk, hc, fun N1 f1 hp => ?_⟩
  have h1 := hP N1 f1 hp
  refine ⟨h1.obj, (hm N1 f1 h1.2.2.2).mono ?_, fun N2 f2 h2 => ⟨h2.obj, (c_Mod_thrown h2.2.2.2 rfl).mono ?_⟩⟩
  · intro r N2 f2 hq
    obtain ⟨a1, rfl, a3⟩ := hq
    exact ⟨a1, h1.m hd a3⟩
  · intro r N3 f3 hq
    obtain ⟨a1, rfl, a3⟩ := hq
    have h3 := h2.m hd a3
    exact ⟨a1.trans (congrArg (fun x => some (Value.int x)) ht), ⟨z', μ', jo, h3, hi⟩, jo, h3.2.1, hjo⟩
theorem Ot3.y {yc : MethodName} {cc : ByteArray} {nc : Nat} {hh : List (Nat × Nat × Nat × Nat)} {dc mc ms : Nat} {ym : MethodName} {cm : ByteArray} {nm : Nat} {rm : Option FieldType} {dm : Nat} {As : List Value} {ans : Int32} (hd : Ldj b0 T A A' ob) (h : Lhp ck b0 T A A' ob z μ jo N f)
    (hc : zKW l D ck ad b0 yc cc nc (some .int) hh dc mc ms (.ref (A 0) :: (As ++ [.ref ob])) N f (fun r N' f'' => r = some (.int 0) ∧ ∃ f', Lcq ck b0 T A N f z' N' f' ∧ f'' = va_up f' ob (aJ ck (vp_updL jo 0 ans.toInt64))))
    (hm : ∀ N' f', zMf ck b0 N' A' f' f' μ → zK l D ck ad b0 ym cm nm rm dm 0 0 (.ref (A' 38) :: As) N' f' (fun r N'' f'' => r = some (.int ans) ∧ N' = N'' ∧ zMf ck b0 N' A' f' f'' μ')) (ht : μ'.1 0 = 0) (hi : IZ z' μ') : Ot3 l D ck ad b0 T A A' ob yc cc nc hh dc mc ms ym cm nm rm dm As N f := by
  refine Ot3.fin (jo := vp_updL jo 0 ans.toInt64) hd (Or.inl rfl) hc (fun N1 f1 hp => ?_) (fun _ => ?_) hm ht hi
  · obtain ⟨f', hcp, rfl⟩ := hp
    exact (h.c hd hcp).o hd
  · rw [vp_updL, if_pos rfl]
theorem Ot3.t {yc : MethodName} {cc : ByteArray} {nc : Nat} {hh : List (Nat × Nat × Nat × Nat)} {dc mc ms : Nat} {ym : MethodName} {cm : ByteArray} {nm : Nat} {rm : Option FieldType} {dm : Nat} {As : List Value} {ans : Int32} (hd : Ldj b0 T A A' ob) (h : Lhp ck b0 T A A' ob z μ jo N f)
    (hc : zKW l D ck ad b0 yc cc nc (some .int) hh dc mc ms (.ref (A 0) :: (As ++ [.ref ob])) N f (fun r N' f'' => r = some (.int 1) ∧ N' = N + 1 ∧ f'' = va_up f N zjk))
    (hm : ∀ N' f', zMf ck b0 N' A' f' f' μ → zK l D ck ad b0 ym cm nm rm dm 0 0 (.ref (A' 38) :: As) N' f' (fun r N'' f'' => r = some (.int ans) ∧ N' = N'' ∧ zMf ck b0 N' A' f' f'' μ')) (ht : μ'.1 0 = 1) (hi : IZ z μ') : Ot3 l D ck ad b0 T A A' ob yc cc nc hh dc mc ms ym cm nm rm dm As N f := by
  refine Ot3.fin (z' := z) (jo := jo) hd (Or.inr rfl) hc (fun N1 f1 hp => ?_) (fun e => absurd e (by decide)) hm ht hi
  obtain ⟨rfl, rfl⟩ := hp
  exact h.n hd
theorem Lhp.ho (hd : Ldj b0 T A A' ob) (h : Lhp ck b0 T A A' ob z μ jo N f) : ∀ N' f', Lcq ck b0 T A N f z' N' f' → (b0 ≤ ob ∧ ob < N') ∧ f' ob = aJ ck jo := fun N' f' hc => by
  have h1 := h.c hd hc
  have hob := hd.2.1
  exact ⟨⟨hd.1, by have := h1.1; omega⟩, h1.2.1⟩
theorem cp_s {ans : Int32} {r : Option Value} {N' : Nat} {f' : Nat → va_E} (hp : Lcp ck b0 T A z N f) (h : r = some (.int ans) ∧ N = N' ∧ f = f') : r = some (.int ans) ∧ Lcq ck b0 T A N f z N' f' := by
  obtain ⟨h1, rfl, rfl⟩ := h
  exact ⟨h1, hp.same⟩
theorem i5_ok {rc : Nat} {ρ : Nat → RuS} (h : I5 rc ρ μ) : ∀ k, k < rc → tOk (ρ k).1 := fun k hk => trr_ok (h.1 k hk).1
theorem i5_u {rc : Nat} {ρ : Nat → RuS} (h : I5 rc ρ μ) : ∀ k, k < rc → (ρ k).1.2.2.2 ≤ 40 := fun k hk => by
  obtain ⟨X, n, -, -, -, -, h6, -⟩ := (h.1 k hk).1
  exact h6
end
section
variable {l : Launch} {D : va_G} {ck : Nat → ClassId} {ad : (Nat → Nat) × (Nat → Nat)} {b0 T N : Nat} {A A' : Nat → Nat} {ob : Nat} {f : Nat → va_E}
set_option maxHeartbeats 1000000 in
theorem o_sign {x : Int32} (hd : Ldj b0 T A A' ob) (h : Lst ck b0 T A A' ob N f) : Ot2 l D ck ad b0 T A A' ob y_Cls_sign prog_1_method_2_code 2 (some FieldType.boolean) 1 y_Mod_sign prog_10_method_5_code 2 (some FieldType.boolean) 1 [.int x] N f := by
  obtain ⟨⟨g, len, st, v, ps, cc, td, rc, ρ⟩, μ, jo, h, hi⟩ := h
  obtain ⟨B, lb, G, hC⟩ := h.2.2.1
  have hrc : rc ≤ 20 := hi.2.1.1
  by_cases hx : ¬ x < 32 ∧ ¬ 126 < x ∧ len < 200
  · obtain ⟨μ', e1, -, e3⟩ := (i_sign hi x).1 hx
    refine Ot2.mk hd h ((c_Cls_sign hC hi.1.1 h.1).mono ?_) (fun _ _ hM => c_Mod_sign hM e1) (z' := (upd g len x, len + 1, st, v, ps, cc, td, rc, ρ)) e3
    intro r N' f' hp
    rw [if_pos hx] at hp
    obtain ⟨a1, rfl, a3, a4⟩ := hp
    exact ⟨a1, Nat.le_refl _, ⟨_, _, _, a3⟩, a4⟩
  · obtain ⟨μ', e1, -, e3⟩ := (i_sign hi x).2 hx
    refine Ot2.mk hd h ((c_Cls_sign hC hi.1.1 h.1).mono ?_) (fun _ _ hM => c_Mod_sign hM e1) (z' := (g, len, st, v, ps, cc, td, rc, ρ)) e3
    intro r N' f' hp
    rw [if_neg hx] at hp
    exact cp_s h.2.2.1 hp
set_option maxHeartbeats 1000000 in
theorem o_order {i gp : Int32} {hb : Bool} (hd : Ldj b0 T A A' ob) (h : Lst ck b0 T A A' ob N f) : Ot2 l D ck ad b0 T A A' ob y_Cls_order prog_1_method_4_code 5 (some FieldType.boolean) 1 y_Mod_order prog_10_method_25_code 4 (some FieldType.boolean) 1 [.int i, .int gp, .int (zb hb)] N f := by
  obtain ⟨⟨g, len, st, v, ps, cc, td, rc, ρ⟩, μ, jo, h, hi⟩ := h
  obtain ⟨B, lb, G, hC⟩ := h.2.2.1
  have hrc : rc ≤ 20 := hi.2.1.1
  rcases isR_cases hrc i with ho | ⟨k, hk, rfl⟩
  · obtain ⟨μ', e1, -, e3⟩ := i_order_n hi (gp := gp) (hb := zb hb) ho
    exact Ot2.mk hd h ((c_Cls_order_n hC hrc ho).mono fun _ _ _ hp => cp_s h.2.2.1 hp) (fun _ _ hM => c_Mod_order hM e1) (z' := (g, len, st, v, ps, cc, td, rc, ρ)) e3
  · by_cases hx : ¬ gp < 0 ∧ gp < 10
    · obtain ⟨μ', e1, -, e3⟩ := (i_order_y hi hk (gp := gp) (hb := hb)).1 hx
      refine Ot2.mk hd h ((c_Cls_order_y hC hk hrc).mono ?_) (fun _ _ hM => c_Mod_order hM e1) (z' := (g, len, st, v, ps, cc, td, rc, va_up ρ k ((ρ k).1, gp, hb, (ρ k).2.2.2))) e3
      intro r N' f' hp
      rw [if_pos hx] at hp
      obtain ⟨a1, rfl, a3, a4⟩ := hp
      exact ⟨a1, Nat.le_refl _, ⟨_, _, _, a3⟩, a4⟩
    · obtain ⟨μ', e1, -, e3⟩ := (i_order_y hi hk (gp := gp) (hb := hb)).2 hx
      refine Ot2.mk hd h ((c_Cls_order_y hC hk hrc).mono ?_) (fun _ _ hM => c_Mod_order hM e1) (z' := (g, len, st, v, ps, cc, td, rc, ρ)) e3
      intro r N' f' hp
      rw [if_neg hx] at hp
      exact cp_s h.2.2.1 hp
set_option maxHeartbeats 1000000 in
theorem o_edition {i d : Int32} (hd : Ldj b0 T A A' ob) (h : Lst ck b0 T A A' ob N f) : Ot2 l D ck ad b0 T A A' ob y_Cls_edition prog_1_method_5_code 4 (some FieldType.boolean) 1 y_Mod_edition prog_10_method_26_code 3 (some FieldType.boolean) 1 [.int i, .int d] N f := by
  obtain ⟨⟨g, len, st, v, ps, cc, td, rc, ρ⟩, μ, jo, h, hi⟩ := h
  obtain ⟨B, lb, G, hC⟩ := h.2.2.1
  have hrc : rc ≤ 20 := hi.2.1.1
  rcases isR_cases hrc i with ho | ⟨k, hk, rfl⟩
  · obtain ⟨μ', e1, -, e3⟩ := i_edition_n hi (d := d) ho
    exact Ot2.mk hd h ((c_Cls_edition_n hC hrc ho).mono fun _ _ _ hp => cp_s h.2.2.1 hp) (fun _ _ hM => c_Mod_edition hM e1) (z' := (g, len, st, v, ps, cc, td, rc, ρ)) e3
  · by_cases hx : zday d = true
    · obtain ⟨μ', e1, -, e3⟩ := (i_edition_y hi hk (d := d)).1 hx
      refine Ot2.mk hd h ((c_Cls_edition_y hC hk hrc).mono ?_) (fun _ _ hM => c_Mod_edition hM e1) (z' := (g, len, st, v, ps, cc, td, rc, va_up ρ k ((ρ k).1, (ρ k).2.1, (ρ k).2.2.1, d, (ρ k).2.2.2.2))) e3
      intro r N' f' hp
      rw [if_pos hx] at hp
      obtain ⟨a1, rfl, a3, a4⟩ := hp
      exact ⟨a1, Nat.le_refl _, ⟨_, _, _, a3⟩, a4⟩
    · obtain ⟨μ', e1, -, e3⟩ := (i_edition_y hi hk (d := d)).2 hx
      refine Ot2.mk hd h ((c_Cls_edition_y hC hk hrc).mono ?_) (fun _ _ hM => c_Mod_edition hM e1) (z' := (g, len, st, v, ps, cc, td, rc, ρ)) e3
      intro r N' f' hp
      rw [if_neg hx] at hp
      exact cp_s h.2.2.1 hp
set_option maxHeartbeats 1000000 in
theorem o_day {d : Int32} (hd : Ldj b0 T A A' ob) (h : Lst ck b0 T A A' ob N f) : Ot2 l D ck ad b0 T A A' ob y_Cls_day prog_1_method_6_code 2 (some FieldType.boolean) 1 y_Mod_day prog_10_method_27_code 2 (some FieldType.boolean) 1 [.int d] N f := by
  obtain ⟨⟨g, len, st, v, ps, cc, td, rc, ρ⟩, μ, jo, h, hi⟩ := h
  obtain ⟨B, lb, G, hC⟩ := h.2.2.1
  have hrc : rc ≤ 20 := hi.2.1.1
  by_cases hx : zday d = true
  · obtain ⟨μ', e1, -, e3⟩ := (i_day hi (d := d)).1 hx
    refine Ot2.mk hd h ((c_Cls_day hC h.1).mono ?_) (fun _ _ hM => c_Mod_day hM e1) (z' := (g, len, st, v, ps, cc, d, rc, ρ)) e3
    intro r N' f' hp
    rw [if_pos hx] at hp
    obtain ⟨a1, rfl, a3, a4⟩ := hp
    exact ⟨a1, Nat.le_refl _, ⟨_, _, _, a3⟩, a4⟩
  · obtain ⟨μ', e1, -, e3⟩ := (i_day hi (d := d)).2 hx
    refine Ot2.mk hd h ((c_Cls_day hC h.1).mono ?_) (fun _ _ hM => c_Mod_day hM e1) (z' := (g, len, st, v, ps, cc, td, rc, ρ)) e3
    intro r N' f' hp
    rw [if_neg hx] at hp
    exact cp_s h.2.2.1 hp
set_option maxHeartbeats 1000000 in
theorem o_field {fd ln x : Int32} (hd : Ldj b0 T A A' ob) (h : Lst ck b0 T A A' ob N f) : Ot2 l D ck ad b0 T A A' ob y_Cls_field prog_1_method_7_code 4 (some FieldType.boolean) 2 y_Mod_field2 prog_10_method_28_code 4 (some FieldType.boolean) 1 [.int fd, .int ln, .int x] N f := by
  obtain ⟨⟨g, len, st, v, ps, cc, td, rc, ρ⟩, μ, jo, h, hi⟩ := h
  obtain ⟨B, lb, G, hC⟩ := h.2.2.1
  have hrc : rc ≤ 20 := hi.2.1.1
  by_cases hx : ¬ dsl fd ln < 0 ∧ ¬ x < -1000000 ∧ x ≤ 1000000
  · obtain ⟨μ', e1, -, e3⟩ := (i_field hi (fd := fd) (ln := ln) (x := x)).1 hx
    refine Ot2.mk hd h ((c_Cls_field hC h.1).mono ?_) (fun _ _ hM => c_Mod_field2 hM e1) (z' := (g, len, st, upd v (dsl fd ln).toNatClampNeg x, ps, cc, td, rc, ρ)) e3
    intro r N' f' hp
    rw [if_pos hx] at hp
    obtain ⟨a1, rfl, a3, a4⟩ := hp
    exact ⟨a1, Nat.le_refl _, ⟨_, _, _, a3⟩, a4⟩
  · obtain ⟨μ', e1, -, e3⟩ := (i_field hi (fd := fd) (ln := ln) (x := x)).2 hx
    refine Ot2.mk hd h ((c_Cls_field hC h.1).mono ?_) (fun _ _ hM => c_Mod_field2 hM e1) (z' := (g, len, st, v, ps, cc, td, rc, ρ)) e3
    intro r N' f' hp
    rw [if_neg hx] at hp
    exact cp_s h.2.2.1 hp
set_option maxHeartbeats 1000000 in
theorem o_without {fd ln : Int32} (hd : Ldj b0 T A A' ob) (h : Lst ck b0 T A A' ob N f) : Ot2 l D ck ad b0 T A A' ob y_Cls_without prog_1_method_8_code 3 (some FieldType.boolean) 2 y_Mod_without prog_10_method_29_code 3 (some FieldType.boolean) 1 [.int fd, .int ln] N f := by
  obtain ⟨⟨g, len, st, v, ps, cc, td, rc, ρ⟩, μ, jo, h, hi⟩ := h
  obtain ⟨B, lb, G, hC⟩ := h.2.2.1
  have hrc : rc ≤ 20 := hi.2.1.1
  by_cases hx : ¬ dsl fd ln < 0 ∧ ¬ dval v fd ln = -2147483648
  · obtain ⟨μ', e1, -, e3⟩ := (i_without hi (fd := fd) (ln := ln)).1 hx
    refine Ot2.mk hd h ((c_Cls_without hC h.1).mono ?_) (fun _ _ hM => c_Mod_without hM e1) (z' := (g, len, st, upd v (dsl fd ln).toNatClampNeg (-2147483648), ps, cc, td, rc, ρ)) e3
    intro r N' f' hp
    rw [if_pos hx] at hp
    obtain ⟨a1, rfl, a3, a4⟩ := hp
    exact ⟨a1, Nat.le_refl _, ⟨_, _, _, a3⟩, a4⟩
  · obtain ⟨μ', e1, -, e3⟩ := (i_without hi (fd := fd) (ln := ln)).2 hx
    refine Ot2.mk hd h ((c_Cls_without hC h.1).mono ?_) (fun _ _ hM => c_Mod_without hM e1) (z' := (g, len, st, v, ps, cc, td, rc, ρ)) e3
    intro r N' f' hp
    rw [if_neg hx] at hp
    exact cp_s h.2.2.1 hp
set_option maxHeartbeats 1000000 in
theorem o_answer {i : Int32} (hd : Ldj b0 T A A' ob) (h : Lst ck b0 T A A' ob N f) : Ot2 l D ck ad b0 T A A' ob y_Cls_answer prog_1_method_13_code 3 (some FieldType.boolean) 1 y_Mod_answer prog_10_method_44_code 2 (some FieldType.boolean) 1 [.int i] N f := by
  obtain ⟨⟨g, len, st, v, ps, cc, td, rc, ρ⟩, μ, jo, h, hi⟩ := h
  obtain ⟨B, lb, G, hC⟩ := h.2.2.1
  have hrc : rc ≤ 20 := hi.2.1.1
  rcases isR_cases hrc i with ho | ⟨k, hk, rfl⟩
  · obtain ⟨μ', e1, -, e3⟩ := i_answer_n hi ho
    exact Ot2.mk hd h ((c_Cls_answer_n hC hrc ho).mono fun _ _ _ hp => cp_s h.2.2.1 hp) (fun _ _ hM => c_Mod_answer hM e1) (z' := (g, len, st, v, ps, cc, td, rc, ρ)) e3
  · by_cases hx : rH (ρ k) = false ∧ ¬ rL (ρ k) = -1 ∧ ¬ rL (ρ k) = 1
    · obtain ⟨μ', e1, -, e3⟩ := (i_answer_y hi hk).1 hx
      refine Ot2.mk hd h ((c_Cls_answer_y hC hk hrc).mono ?_) (fun _ _ hM => c_Mod_answer hM e1) (z' := (g, len, st, v, ps, cc, td, rc, va_up ρ k ((ρ k).1, (ρ k).2.1, (ρ k).2.2.1, (ρ k).2.2.2.1, (ρ k).2.2.2.2.1, (ρ k).2.2.2.2.2.1, true, (ρ k).2.2.2.2.2.2.2))) e3
      intro r N' f' hp
      rw [if_pos hx] at hp
      obtain ⟨a1, rfl, a3, a4⟩ := hp
      exact ⟨a1, Nat.le_refl _, ⟨_, _, _, a3⟩, a4⟩
    · obtain ⟨μ', e1, -, e3⟩ := (i_answer_y hi hk).2 hx
      refine Ot2.mk hd h ((c_Cls_answer_y hC hk hrc).mono ?_) (fun _ _ hM => c_Mod_answer hM e1) (z' := (g, len, st, v, ps, cc, td, rc, ρ)) e3
      intro r N' f' hp
      rw [if_neg hx] at hp
      exact cp_s h.2.2.1 hp
set_option maxHeartbeats 1000000 in
theorem o_check (hd : Ldj b0 T A A' ob) (h : Lst ck b0 T A A' ob N f) : Ot2 l D ck ad b0 T A A' ob y_Cls_check prog_1_method_9_code 2 (some FieldType.int) 6 y_Mod_check prog_10_method_39_code 4 (some FieldType.int) 5 [] N f := by
  obtain ⟨⟨g, len, st, v, ps, cc, td, rc, ρ⟩, μ, jo, h, hi⟩ := h
  obtain ⟨B, lb, G, hC⟩ := h.2.2.1
  have hrc : rc ≤ 20 := hi.2.1.1
  obtain ⟨μ', e1, -, e3⟩ := i_check hi lb G
  refine Ot2.mk hd h ((c_Cls_check hC hrc h.1 (i5_ok hi.2.2.2.2.1)).mono ?_) (fun _ _ hM => c_Mod_check hM e1) (z' := (g, len, st, v, ps, cc + 1, td, rc, (ckS v td lb G ρ rc).2.2)) e3
  intro r N' f' hp
  obtain ⟨a1, rfl, a3, a4⟩ := hp
  exact ⟨a1, Nat.le_refl _, ⟨_, _, _, a3⟩, a4⟩
set_option maxHeartbeats 1000000 in
theorem o_bad {i : Int32} {hb : Bool} (hd : Ldj b0 T A A' ob) (h : Lst ck b0 T A A' ob N f) : Ot2 l D ck ad b0 T A A' ob y_Cls_bad prog_1_method_10_code 3 (some FieldType.int) 2 y_Mod_bad prog_10_method_41_code 3 (some FieldType.int) 1 [.int i, .int (zb hb)] N f := by
  obtain ⟨⟨g, len, st, v, ps, cc, td, rc, ρ⟩, μ, jo, h, hi⟩ := h
  obtain ⟨B, lb, G, hC⟩ := h.2.2.1
  have hrc : rc ≤ 20 := hi.2.1.1
  obtain ⟨μ', e1, -, e3⟩ := i_bad hi (i0 := i) (hd := hb)
  exact Ot2.mk hd h ((c_Cls_bad hC hrc).mono fun _ _ _ hp => cp_s h.2.2.1 hp) (fun _ _ hM => c_Mod_bad hM e1) (z' := (g, len, st, v, ps, cc, td, rc, ρ)) e3
set_option maxHeartbeats 1000000 in
theorem o_never {i : Int32} (hd : Ldj b0 T A A' ob) (h : Lst ck b0 T A A' ob N f) : Ot2 l D ck ad b0 T A A' ob y_Cls_never prog_1_method_15_code 5 (some FieldType.int) 1 y_Mod_never prog_10_method_46_code 5 (some FieldType.int) 0 [.int i] N f := by
  obtain ⟨⟨g, len, st, v, ps, cc, td, rc, ρ⟩, μ, jo, h, hi⟩ := h
  obtain ⟨B, lb, G, hC⟩ := h.2.2.1
  have hrc : rc ≤ 20 := hi.2.1.1
  obtain ⟨μ', e1, -, e3⟩ := i_never hi (i0 := i)
  exact Ot2.mk hd h ((c_Cls_never hC hrc).mono fun _ _ _ hp => cp_s h.2.2.1 hp) (fun _ _ hM => c_Mod_never hM e1) (z' := (g, len, st, v, ps, cc, td, rc, ρ)) e3
set_option maxHeartbeats 1000000 in
theorem o_count {w : Int32} (hd : Ldj b0 T A A' ob) (h : Lst ck b0 T A A' ob N f) : Ot2 l D ck ad b0 T A A' ob y_Cls_count prog_1_method_19_code 2 (some FieldType.int) 3 y_Mod_count prog_10_method_54_code 6 (some FieldType.int) 1 [.int w] N f := by
  obtain ⟨⟨g, len, st, v, ps, cc, td, rc, ρ⟩, μ, jo, h, hi⟩ := h
  obtain ⟨B, lb, G, hC⟩ := h.2.2.1
  have hrc : rc ≤ 20 := hi.2.1.1
  obtain ⟨μ', e1, -, e3⟩ := i_count hi (w := w)
  exact Ot2.mk hd h ((c_Cls_count hC hrc hi.1.1).mono fun _ _ _ hp => cp_s h.2.2.1 hp) (fun _ _ hM => c_Mod_count hM e1) (z' := (g, len, st, v, ps, cc, td, rc, ρ)) e3
set_option maxHeartbeats 1000000 in
theorem o_was {i : Int32} (htl : ∀ e, l.admits e → e.platform.stackTraces = false) (hd : Ldj b0 T A A' ob) (h : Lst ck b0 T A A' ob N f) : Ot3 l D ck ad b0 T A A' ob y_Law_was method_4_code 4 [(0, 9, 12, 19)] 11 1 6 y_Mod_was prog_10_method_42_code 2 (some FieldType.int) 1 [.int i] N f := by
  obtain ⟨⟨g, len, st, v, ps, cc, td, rc, ρ⟩, μ, jo, h, hi⟩ := h
  obtain ⟨B, lb, G, hC⟩ := h.2.2.1
  have hrc : rc ≤ 20 := hi.2.1.1
  obtain ⟨hco, fs, hcf⟩ := h.cobj
  rcases isR_cases hrc i with ho | ⟨k, hk, rfl⟩
  · obtain ⟨μ', e1, e2, e3⟩ := i_was_n hi ho
    exact Ot3.t hd h (c_Law_was_t hco hcf (c_Cls_was_t hC hrc ho htl)) (fun _ _ hM => c_Mod_was hM e1) e2 e3
  · obtain ⟨μ', e1, e2, e3⟩ := i_was_y hi hk
    exact Ot3.y hd h (c_Law_was_y (Pp := Lcq ck b0 T A N f (g, len, st, v, ps, cc, td, rc, ρ)) hco hcf ((c_Cls_was_y hC hk hrc).mono fun _ _ _ hp => cp_s h.2.2.1 hp) (h.ho hd)) (fun _ _ hM => c_Mod_was hM e1) e2 e3
set_option maxHeartbeats 1000000 in
theorem o_is {i : Int32} (htl : ∀ e, l.admits e → e.platform.stackTraces = false) (hd : Ldj b0 T A A' ob) (h : Lst ck b0 T A A' ob N f) : Ot3 l D ck ad b0 T A A' ob y_Law_is method_5_code 4 [(0, 9, 12, 19)] 11 1 6 y_Mod_is prog_10_method_43_code 2 (some FieldType.int) 5 [.int i] N f := by
  obtain ⟨⟨g, len, st, v, ps, cc, td, rc, ρ⟩, μ, jo, h, hi⟩ := h
  obtain ⟨B, lb, G, hC⟩ := h.2.2.1
  have hrc : rc ≤ 20 := hi.2.1.1
  obtain ⟨hco, fs, hcf⟩ := h.cobj
  rcases isR_cases hrc i with ho | ⟨k, hk, rfl⟩
  · obtain ⟨μ', e1, e2, e3⟩ := i_is_n hi ho
    exact Ot3.t hd h (c_Law_is_t hco hcf (c_Cls_is_t hC hrc ho htl)) (fun _ _ hM => c_Mod_is hM e1) e2 e3
  · obtain ⟨μ', e1, e2, e3⟩ := i_is_y hi hk G
    refine Ot3.y hd h (c_Law_is_y (Pp := Lcq ck b0 T A N f (g, len, st, v, ps, cc, td, rc, ρ)) hco hcf ((c_Cls_is_y hC hk hrc (i5_ok hi.2.2.2.2.1 k hk) rfl rfl).mono ?_) (h.ho hd)) (fun _ _ hM => c_Mod_is hM e1) e2 e3
    intro r N' f' hp
    obtain ⟨a1, rfl, a3, a4⟩ := hp
    exact ⟨a1, Nat.le_refl _, ⟨_, _, _, a3⟩, a4⟩
set_option maxHeartbeats 1000000 in
theorem o_print {i : Int32} (htl : ∀ e, l.admits e → e.platform.stackTraces = false) (hd : Ldj b0 T A A' ob) (h : Lst ck b0 T A A' ob N f) : Ot3 l D ck ad b0 T A A' ob y_Law_print method_8_code 4 [(0, 9, 12, 19)] 89 1 6 y_Mod_print prog_10_method_52_code 5 (some FieldType.int) 3 [.int i] N f := by
  obtain ⟨⟨g, len, st, v, ps, cc, td, rc, ρ⟩, μ, jo, h, hi⟩ := h
  obtain ⟨B, lb, G, hC⟩ := h.2.2.1
  have hrc : rc ≤ 20 := hi.2.1.1
  obtain ⟨hco, fs, hcf⟩ := h.cobj
  rcases isR_cases hrc i with ho | ⟨k, hk, rfl⟩
  · obtain ⟨μ', e1, e2, e3⟩ := i_print_n hi ho
    exact Ot3.t hd h (c_Law_print_t hco hcf (c_Cls_print_t hC hrc ho htl)) (fun _ _ hM => c_Mod_print hM e1) e2 e3
  · obtain ⟨μ', e1, e2, e3⟩ := i_print_y hi hk
    refine Ot3.y hd h (c_Law_print_y (Pp := Lcq ck b0 T A N f (g, len, st, v, pPut (pTxt (ρ k).1.1 (ρ k).1.2.1 (ρ k).1.2.2.1 (ρ k).1.2.2.2 40 0) (ps.1, 0), cc, td, rc, ρ)) hco hcf ((c_Cls_print_y hC hk hrc (i5_u hi.2.2.2.2.1 k hk) hi.2.2.2.1.1).mono ?_) (h.ho hd)) (fun _ _ hM => c_Mod_print hM e1) e2 e3
    intro r N' f' hp
    obtain ⟨a1, rfl, a3, a4⟩ := hp
    exact ⟨a1, Nat.le_refl _, ⟨_, _, _, a3⟩, a4⟩
set_option maxHeartbeats 1000000 in
theorem o_at {i : Int32} (htl : ∀ e, l.admits e → e.platform.stackTraces = false) (hd : Ldj b0 T A A' ob) (h : Lst ck b0 T A A' ob N f) : Ot3 l D ck ad b0 T A A' ob y_Law_at method_9_code 4 [(0, 9, 12, 31)] 11 1 6 y_Mod_at prog_10_method_53_code 2 (some FieldType.int) 0 [.int i] N f := by
  obtain ⟨⟨g, len, st, v, ps, cc, td, rc, ρ⟩, μ, jo, h, hi⟩ := h
  obtain ⟨B, lb, G, hC⟩ := h.2.2.1
  have hrc : rc ≤ 20 := hi.2.1.1
  obtain ⟨hco, fs, hcf⟩ := h.cobj
  by_cases hx : sgv ps.1 ps.2 i = -1
  · obtain ⟨μ', e1, e2, e3⟩ := i_at_n hi hx
    exact Ot3.t hd h (c_Law_at_t hco hcf (c_Cls_at_t hC hi.2.2.2.1.1 hx htl)) (fun _ _ hM => c_Mod_at hM e1) e2 e3
  · obtain ⟨μ', e1, e2, e3⟩ := i_at_y hi hx
    exact Ot3.y hd h (c_Law_at_y (Pp := Lcq ck b0 T A N f (g, len, st, v, ps, cc, td, rc, ρ)) hco hcf ((c_Cls_at_y hC hi.2.2.2.1.1 hx).mono fun _ _ _ hp => cp_s h.2.2.1 hp) (h.ho hd)) (fun _ _ hM => c_Mod_at hM e1) e2 e3
set_option maxHeartbeats 1000000 in
theorem o_touch {i : Int32} (htl : ∀ e, l.admits e → e.platform.stackTraces = false) (hd : Ldj b0 T A A' ob) (h : Lst ck b0 T A A' ob N f) : Ot3 l D ck ad b0 T A A' ob y_Law_touch method_6_code 4 [(0, 9, 12, 19)] 11 1 6 y_Mod_touch prog_10_method_45_code 6 (some FieldType.int) 1 [.int i] N f := by
  obtain ⟨⟨g, len, st, v, ps, cc, td, rc, ρ⟩, μ, jo, h, hi⟩ := h
  obtain ⟨B, lb, G, hC⟩ := h.2.2.1
  have hrc : rc ≤ 20 := hi.2.1.1
  obtain ⟨hco, fs, hcf⟩ := h.cobj
  by_cases hx : i < 0 ∨ 20 ≤ i
  · obtain ⟨μ', e1, e2, e3⟩ := i_touch_n hi hx
    exact Ot3.t hd h (c_Law_touch_t hco hcf (c_Cls_touch_t hx htl)) (fun _ _ hM => c_Mod_touch hM e1) e2 e3
  · have h0 : ¬ i < 0 := fun e => hx (Or.inl e)
    have h20 : i < 20 := Int32.not_le.mp fun e => hx (Or.inr e)
    obtain ⟨μ', e1, e2, e3⟩ := i_touch_y hi h0 h20
    exact Ot3.y hd h (c_Law_touch_y (Pp := Lcq ck b0 T A N f (g, len, st, v, ps, cc, td, rc, ρ)) hco hcf ((c_Cls_touch_y hC hrc (i5_ok hi.2.2.2.2.1) h0 h20).mono fun _ _ _ hp => cp_s h.2.2.1 hp) (h.ho hd)) (fun _ _ hM => c_Mod_touch hM e1) e2 e3
set_option maxHeartbeats 1000000 in
theorem o_node {i i1 w : Int32} (htl : ∀ e, l.admits e → e.platform.stackTraces = false) (hd : Ldj b0 T A A' ob) (h : Lst ck b0 T A A' ob N f) : Ot3 l D ck ad b0 T A A' ob y_Law_node method_7_code 6 [(0, 12, 15, 31)] 11 1 6 y_Mod_node2 prog_10_method_47_code 5 (some FieldType.int) 1 [.int i, .int i1, .int w] N f := by
  obtain ⟨⟨g, len, st, v, ps, cc, td, rc, ρ⟩, μ, jo, h, hi⟩ := h
  obtain ⟨B, lb, G, hC⟩ := h.2.2.1
  have hrc : rc ≤ 20 := hi.2.1.1
  obtain ⟨hco, fs, hcf⟩ := h.cobj
  rcases isR_cases hrc i with ho | ⟨k, hk, rfl⟩
  · obtain ⟨μ', e1, e2, e3⟩ := i_node_n hi (i1 := i1) (w := w) ho
    exact Ot3.t hd h (c_Law_node_t hco hcf (c_Cls_node_t hC hrc ho htl)) (fun _ _ hM => c_Mod_node2 hM e1) e2 e3
  · by_cases hx : i1 < 0 ∨ nI (ρ k).1.2.2.2 ≤ i1 ∨ w < 0 ∨ 3 < w
    · obtain ⟨μ', e1, e2, e3⟩ := i_node_n2 hi hk hx
      exact Ot3.t hd h (c_Law_node_t hco hcf (c_Cls_node_t2 hC hk hrc hx htl)) (fun _ _ hM => c_Mod_node2 hM e1) e2 e3
    · have h0 : ¬ i1 < 0 := fun e => hx (Or.inl e)
      have h1 : ¬ nI (ρ k).1.2.2.2 ≤ i1 := fun e => hx (Or.inr (Or.inl e))
      have h2 : ¬ w < 0 := fun e => hx (Or.inr (Or.inr (Or.inl e)))
      have h3 : w ≤ 3 := Int32.not_lt.mp fun e => hx (Or.inr (Or.inr (Or.inr e)))
      obtain ⟨μ', e1, e2, e3⟩ := i_node_y hi hk h0 h1 h2 h3
      exact Ot3.y hd h (c_Law_node_y (Pp := Lcq ck b0 T A N f (g, len, st, v, ps, cc, td, rc, ρ)) hco hcf ((c_Cls_node_y hC hk hrc (i5_u hi.2.2.2.2.1 k hk) h0 h1 h2 h3).mono fun _ _ _ hp => cp_s h.2.2.1 hp) (h.ho hd)) (fun _ _ hM => c_Mod_node2 hM e1) e2 e3
set_option maxHeartbeats 1000000 in
theorem o_rule (htl : ∀ e, l.admits e → e.platform.stackTraces = false) (hd : Ldj b0 T A A' ob) (h : Lst ck b0 T A A' ob N f) : Ot3 l D ck ad b0 T A A' ob y_Law_rule method_3_code 3 [(0, 8, 11, 13)] 11 5 132 y_Mod_rule prog_10_method_24_code 2 (some FieldType.int) 8 [] N f := by
  obtain ⟨⟨g, len, st, v, ps, cc, td, rc, ρ⟩, μ, jo, h, hi⟩ := h
  obtain ⟨B, lb, G, hC⟩ := h.2.2.1
  have hrc : rc ≤ 20 := hi.2.1.1
  obtain ⟨hco, fs, hcf⟩ := h.cobj
  by_cases hx : rc = 20
  · obtain ⟨μ', e1, e2, e3⟩ := i_rule_t hi hx
    exact Ot3.t hd h (c_Law_rule_t hco hcf (c_Cls_rule_t hC hx htl)) (fun _ _ hM => c_Mod_rule hM e1) e2 e3
  · have hr : rc < 20 := by omega
    generalize hbt : bText g len st = bt
    by_cases hb : bt.1 = -1
    · obtain ⟨μ', e1, e2, e3⟩ := (i_rule hi hr hbt).1 hb
      refine Ot3.y hd h (c_Law_rule_y (Pp := Lcq ck b0 T A N f (g, 0, bt.2, v, ps, cc, td, rc + 1, va_up ρ rc (bt.2.2.1, 0, true, 0, -1, false, false, false))) hco hcf ((c_Cls_rule_y hC hr h.1 hi.1.1 hi.2.2.2.2.2 hbt).mono ?_) (h.ho hd)) (fun _ _ hM => c_Mod_rule hM e1) e2 e3
      intro r N' f' hp
      rw [if_pos hb] at hp
      obtain ⟨a1, rfl, a3, a4⟩ := hp
      exact ⟨a1, Nat.le_add_right _ _, ⟨_, _, _, a3⟩, a4⟩
    · obtain ⟨μ', e1, e2, e3⟩ := (i_rule hi hr hbt).2 hb
      refine Ot3.y hd h (c_Law_rule_y (Pp := Lcq ck b0 T A N f (g, 0, bt.2, v, ps, cc, td, rc, ρ)) hco hcf ((c_Cls_rule_y hC hr h.1 hi.1.1 hi.2.2.2.2.2 hbt).mono ?_) (h.ho hd)) (fun _ _ hM => c_Mod_rule hM e1) e2 e3
      intro r N' f' hp
      rw [if_neg hb] at hp
      obtain ⟨a1, rfl, a3, a4⟩ := hp
      exact ⟨a1, Nat.le_refl _, ⟨_, _, _, a3⟩, a4⟩
end
