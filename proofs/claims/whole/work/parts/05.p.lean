/-! pictures of a part of the heap: cells at addresses that are apart; frames -/
def zP (b0 N : Nat) (f : Nat → va_E) (ws : va_W) : Prop := (ws.map (fun q => q.1)).Nodup ∧ ∀ (k : Nat) (q : Nat × va_E), ws[k]? = some q → b0 ≤ q.1 ∧ q.1 < N ∧ f q.1 = q.2
/-- what lies below N0 and is none of as is as it was -/
def zF (N0 : Nat) (f f' : Nat → va_E) (as : List Nat) : Prop := ∀ q : Nat, q < N0 → q ∉ as → f' q = f q
theorem zP.lo {b0 N : Nat} {f : Nat → va_E} {ws : va_W} (h : zP b0 N f ws) (k : Nat) {a : Nat} {x : va_E} (hk : ws[k]? = some (a, x)) : b0 ≤ a ∧ a < N := ⟨(h.2 k _ hk).1, (h.2 k _ hk).2.1⟩
theorem zP.at {b0 N : Nat} {f : Nat → va_E} {ws : va_W} (h : zP b0 N f ws) (k : Nat) {a : Nat} {x : va_E} (hk : ws[k]? = some (a, x)) : f a = x := (h.2 k _ hk).2.2
theorem zP.inj {b0 N : Nat} {f : Nat → va_E} {ws : va_W} (h : zP b0 N f ws) {i j : Nat} {p q : Nat × va_E} (hi : ws[i]? = some p) (hj : ws[j]? = some q) (e : p.1 = q.1) : i = j := by
  have li : i < (ws.map (fun q => q.1)).length := by rw [List.length_map]; exact (List.getElem?_eq_some_iff.mp hi).1
  have e1 : (ws.map (fun q => q.1))[i]? = some p.1 := by rw [List.getElem?_map, hi]; rfl
  have e2 : (ws.map (fun q => q.1))[j]? = some q.1 := by rw [List.getElem?_map, hj]; rfl
  exact (List.getElem?_inj li h.1).mp (by rw [e1, e2, e])
theorem zP.put {b0 N : Nat} {f : Nat → va_E} {ws : va_W} (h : zP b0 N f ws) (k : Nat) {a : Nat} {x : va_E} (hk : ws[k]? = some (a, x)) (y : va_E) : zP b0 N (va_up f a y) (ws.set k (a, y)) := by
  have hl := (List.getElem?_eq_some_iff.mp hk).1
  have hg := (List.getElem?_eq_some_iff.mp hk).2
  refine ⟨?_, fun j q hj => ?_⟩
  · have e : (ws.set k (a, y)).map (fun q => q.1) = ws.map (fun q => q.1) := by
      rw [List.map_set]
      apply List.ext_getElem?
      intro i
      by_cases hi : i = k
      · subst hi
        rw [List.getElem?_set_self (by rw [List.length_map]; exact hl), List.getElem?_map, hk]
        rfl
      · rw [List.getElem?_set_ne (Ne.symm hi)]
    rw [e]
    exact h.1
  · by_cases hjk : j = k
    · subst hjk
      rw [List.getElem?_set_self hl] at hj
      cases hj
      obtain ⟨h1, h2, -⟩ := h.2 j _ hk
      exact ⟨h1, h2, va_up_self _ _ _⟩
    · rw [List.getElem?_set_ne (Ne.symm hjk)] at hj
      obtain ⟨h1, h2, h3⟩ := h.2 j q hj
      refine ⟨h1, h2, ?_⟩
      rw [va_up_ne _ _ (fun e => hjk (h.inj hj hk e))]
      exact h3
theorem zP.pick {ws wc : va_W} {is : List Nat} (hs : is.map (fun i => ws[i]?) = wc.map some) (k : Nat) (q : Nat × va_E) (hk : wc[k]? = some q) : ∃ i, is[k]? = some i ∧ ws[i]? = some q := by
  have h1 : (is.map (fun i => ws[i]?))[k]? = some (some q) := by rw [hs, List.getElem?_map, hk]; rfl
  rw [List.getElem?_map] at h1
  cases hi : is[k]? with
  | none => rw [hi] at h1; cases h1
  | some i => rw [hi] at h1; exact ⟨i, rfl, Option.some.inj h1⟩
theorem zP.sub {b0 N : Nat} {f : Nat → va_E} {ws wc : va_W} (h : zP b0 N f ws) (is : List Nat) (hn : va_nd is = true) (hs : is.map (fun i => ws[i]?) = wc.map some) : zP b0 N f wc := by
  refine ⟨?_, fun k q hk => ?_⟩
  · rw [List.Nodup, List.pairwise_iff_getElem]
    intro i j hi0 hj0 hij e
    have hi : i < wc.length := by rw [List.length_map] at hi0; exact hi0
    have hj : j < wc.length := by rw [List.length_map] at hj0; exact hj0
    have e1 : (wc[i]).1 = (wc[j]).1 := by rw [List.getElem_map, List.getElem_map] at e; exact e
    obtain ⟨i', a1, a2⟩ := zP.pick hs i _ (List.getElem?_eq_getElem hi)
    obtain ⟨j', b1, b2⟩ := zP.pick hs j _ (List.getElem?_eq_getElem hj)
    have := h.inj a2 b2 e1
    subst this
    have := va_nd_inj is hn i j i' a1 b1
    omega
  · obtain ⟨i, -, hi⟩ := zP.pick hs k q hk
    exact h.2 i q hi
theorem zP.push {b0 N : Nat} {f : Nat → va_E} {ws : va_W} (h : zP b0 N f ws) (hb : b0 ≤ N) (y : va_E) : zP b0 (N + 1) (va_up f N y) (ws ++ [(N, y)]) := by
  refine ⟨?_, fun k q hk => ?_⟩
  · rw [List.map_append, List.nodup_append]
    refine ⟨h.1, by simp, fun a ha b hb2 => ?_⟩
    obtain ⟨q, hq, rfl⟩ := List.mem_map.mp ha
    obtain ⟨i, hi⟩ := List.getElem?_of_mem hq
    have := (h.2 i q hi).2.1
    simp at hb2
    omega
  · by_cases hl : k < ws.length
    · rw [List.getElem?_append_left hl] at hk
      obtain ⟨h1, h2, h3⟩ := h.2 k q hk
      exact ⟨h1, by omega, by rw [va_up_ne _ _ (by omega)]; exact h3⟩
    · rw [List.getElem?_append_right (by omega)] at hk
      have hz : k - ws.length < 1 := (List.getElem?_eq_some_iff.mp hk).1
      rw [show k - ws.length = 0 by omega] at hk
      cases hk
      exact ⟨hb, by omega, va_up_self _ _ _⟩
theorem zF.rf {N0 : Nat} {f : Nat → va_E} {as : List Nat} : zF N0 f f as := fun _ _ _ => rfl
theorem zF.put {N0 a : Nat} {f0 f : Nat → va_E} {as : List Nat} (h : zF N0 f0 f as) (ha : a ∈ as) (y : va_E) : zF N0 f0 (va_up f a y) as := fun q h1 h2 => by
  rw [va_up_ne _ _ (fun e => h2 (by rw [e]; exact ha))]
  exact h q h1 h2
theorem zF.push {N0 N : Nat} {f0 f : Nat → va_E} {as : List Nat} (h : zF N0 f0 f as) (hN : N0 ≤ N) (y : va_E) : zF N0 f0 (va_up f N y) as := fun q h1 h2 => by
  rw [va_up_ne _ _ (by omega)]
  exact h q h1 h2
theorem zF.join {N0 N : Nat} {f0 f f' : Nat → va_E} {as bs : List Nat} (h : zF N0 f0 f as) (h1 : zF N f f' bs) (hN : N0 ≤ N) (hs : ∀ b ∈ bs, b ∈ as ∨ N0 ≤ b) : zF N0 f0 f' as := fun q h2 h3 => by
  rw [h1 q (by omega) (fun hb => by rcases hs q hb with h | h; exact h3 h; omega)]
  exact h q h2 h3
theorem zF.mono {N0 N : Nat} {f0 f : Nat → va_E} {as bs : List Nat} (h : zF N f0 f as) (hN : N0 ≤ N) (hs : ∀ b ∈ as, b ∈ bs ∨ N0 ≤ b) : zF N0 f0 f bs := fun q h2 h3 => h q (by omega) (fun hb => by rcases hs q hb with h | h; exact h3 h; omega)
theorem zP.frame {b0 N N' : Nat} {f f' : Nat → va_E} {ws : va_W} {as : List Nat} (h : zP b0 N f ws) (hF : zF N f f' as) (hN : N ≤ N') (hd : ∀ a ∈ as, a ∉ ws.map (fun q => q.1)) : zP b0 N' f' ws := by
  refine ⟨h.1, fun k q hk => ?_⟩
  obtain ⟨h1, h2, h3⟩ := h.2 k q hk
  refine ⟨h1, by omega, ?_⟩
  rw [hF q.1 h2 (fun ha => hd q.1 ha (List.mem_map.mpr ⟨q, List.mem_of_getElem? hk, rfl⟩))]
  exact h3
/-- behind a call: the rest beside what the callee leaves -/
theorem zP.join {b0 N N' : Nat} {f f' : Nat → va_E} {ws wc wr w1 : va_W} (h : zP b0 N f ws) (isC isR : List Nat) (hC : isC.map (fun i => ws[i]?) = wc.map some) (hR : isR.map (fun i => ws[i]?) = wr.map some) (hn : va_nd isR = true) (hdis : ∀ i ∈ isR, i ∉ isC)
    (hF : zF N f f' (wc.map (fun q => q.1))) (hN : N ≤ N') (h1 : zP b0 N' f' w1) (hsub : ∀ a ∈ w1.map (fun q => q.1), a ∈ wc.map (fun q => q.1) ∨ N ≤ a) : zP b0 N' f' (wr ++ w1) := by
  have hr : zP b0 N f wr := h.sub isR hn hR
  have apart : ∀ a ∈ wr.map (fun q => q.1), a ∉ wc.map (fun q => q.1) := by
    intro a ha hc
    obtain ⟨p, hp, rfl⟩ := List.mem_map.mp ha
    obtain ⟨q, hq, e⟩ := List.mem_map.mp hc
    obtain ⟨i, hi⟩ := List.getElem?_of_mem hp
    obtain ⟨j, hj⟩ := List.getElem?_of_mem hq
    obtain ⟨i', a1, a2⟩ := zP.pick hR i p hi
    obtain ⟨j', b1, b2⟩ := zP.pick hC j q hj
    have := h.inj a2 b2 e.symm
    subst this
    exact hdis i' (List.mem_of_getElem? a1) (List.mem_of_getElem? b1)
  have hr' : zP b0 N' f' wr := hr.frame hF hN (fun a h1 h2 => apart a h2 h1)
  refine ⟨?_, fun k q hk => ?_⟩
  · rw [List.map_append, List.nodup_append]
    refine ⟨hr.1, h1.1, fun a ha b hb e => ?_⟩
    subst e
    rcases hsub a hb with h | h
    · exact apart a ha h
    · obtain ⟨p, hp, rfl⟩ := List.mem_map.mp ha
      obtain ⟨i, hi⟩ := List.getElem?_of_mem hp
      have := (hr.2 i p hi).2.1
      omega
  · by_cases hl : k < wr.length
    · rw [List.getElem?_append_left hl] at hk
      exact hr'.2 k q hk
    · rw [List.getElem?_append_right (by omega)] at hk
      exact h1.2 _ q hk
