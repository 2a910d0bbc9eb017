/-! what the readers of the reference leave as it is -/
def Fr (μ μ' : MS) : Prop := (∀ j, j < 24 ∨ 30 < j → μ'.1 j = μ.1 j) ∧ (∀ j, j < 20 ∨ 30 < j → μ'.2.1 j = μ.2.1 j) ∧ μ'.2.2 = μ.2.2
theorem Fr.rf {μ : MS} : Fr μ μ := ⟨fun _ _ => rfl, fun _ _ => rfl, rfl⟩
theorem Fr.tr {x y z : MS} (h : Fr x y) (h2 : Fr y z) : Fr x z := ⟨fun j a => (h2.1 j a).trans (h.1 j a), fun j a => (h2.2.1 j a).trans (h.2.1 j a), h2.2.2.trans h.2.2⟩
theorem Fr.I {μ μ' : MS} {k : Nat} {v : Int32} (h : Fr μ μ') (h1 : 24 ≤ k) (h2 : k ≤ 30) : Fr μ (sI k v μ') := ⟨fun j a => by rw [sI_ne (by omega)]; exact h.1 j a, fun j a => h.2.1 j a, h.2.2⟩
theorem Fr.A {μ μ' : MS} {k i : Nat} {v : Int32} (h : Fr μ μ') (h1 : 20 ≤ k) (h2 : k ≤ 30) : Fr μ (sA k i v μ') := ⟨fun j a => h.1 j a, fun j a => by rw [sA_ne (by omega)]; exact h.2.1 j a, h.2.2⟩
/-- the state that is answered, by p -/
def FrP {β : Type} (p : β → MS) (μ : MS) (o : Option β) : Prop := ∀ r, o = some r → Fr μ (p r)
section FRP
variable {β γ : Type} {p : β → MS} {q : γ → MS} {μ μ' : MS}
theorem FrP.no : FrP p μ none := fun r h => by cases h
theorem FrP.so {r : β} (h : Fr μ (p r)) : FrP p μ (some r) := fun r' e => by cases e; exact h
theorem FrP.it {C : Prop} {dc : Decidable C} {a b : Option β} (h1 : C → FrP p μ a) (h2 : ¬ C → FrP p μ b) : FrP p μ (@ite _ C dc a b) := by
  by_cases c : C
  · rw [if_pos c]; exact h1 c
  · rw [if_neg c]; exact h2 c
theorem FrP.up {o : Option β} (h : Fr μ μ') (h2 : FrP p μ' o) : FrP p μ o := fun r e => h.tr (h2 r e)
theorem FrP.bd {o : Option γ} {k : γ → Option β} (h : FrP q μ o) (hk : ∀ r, Fr μ (q r) → FrP p μ (k r)) : FrP p μ (o.bind k) := by
  cases o with
  | none => exact FrP.no
  | some r => exact hk r (h r rfl)
theorem FrP.b0 {o : Option γ} {k : γ → Option β} (hk : ∀ r, FrP p μ (k r)) : FrP p μ (o.bind k) := by
  cases o with
  | none => exact FrP.no
  | some r => exact hk r
end FRP
theorem look_B_fr : ∀ (n : Nat) (b : Nat) (μ : MS), FrP Prod.snd μ (m_look_B n b μ)
  | 0, _, _ => by
    rw [m_look_B]
    exact FrP.no
  | n + 1, b, μ => by
    rw [m_look_B]
    exact (FrP.it (fun _ => (FrP.so Fr.rf)) (fun _ => (FrP.it (fun _ => (FrP.it (fun _ => (FrP.up (Fr.I Fr.rf (k := 25) (by decide) (by decide)) (look_B_fr n _ _))) (fun _ => (FrP.so Fr.rf)))) (fun _ => FrP.no))))
theorem look_fr (μ : MS) : FrP Prod.snd μ (m_look μ) := by
  rw [m_look]
  exact (FrP.up Fr.rf (look_B_fr _ _ _))
theorem word_B_fr : ∀ (n : Nat) (b : Nat) (x1 : Int32) (x2 : Int64) (μ : MS), FrP Prod.snd μ (m_word_B n b x1 x2 μ)
  | 0, _, _, _, _ => by
    rw [m_word_B]
    exact FrP.no
  | n + 1, b, x1, x2, μ => by
    rw [m_word_B]
    exact (FrP.it (fun _ => (FrP.it (fun _ => (FrP.so Fr.rf)) (fun _ => (FrP.it (fun _ => (FrP.so Fr.rf)) (fun _ => (FrP.it (fun _ => (FrP.so Fr.rf)) (fun _ => (FrP.it (fun _ => (FrP.so Fr.rf)) (fun _ => (FrP.it (fun _ => (FrP.so Fr.rf)) (fun _ => (FrP.so Fr.rf)))))))))))) (fun _ => (FrP.it (fun _ => (FrP.b0 (fun p28 => (FrP.it (fun _ => (FrP.it (fun _ => (FrP.so Fr.rf)) (fun _ => (FrP.it (fun _ => (FrP.so Fr.rf)) (fun _ => (FrP.it (fun _ => (FrP.so Fr.rf)) (fun _ => (FrP.it (fun _ => (FrP.so Fr.rf)) (fun _ => (FrP.it (fun _ => (FrP.so Fr.rf)) (fun _ => (FrP.so Fr.rf)))))))))))) (fun _ => (FrP.it (fun _ => (FrP.up Fr.rf (word_B_fr n _ _ _ _))) (fun _ => (FrP.up Fr.rf (word_B_fr n _ _ _ _))))))))) (fun _ => FrP.no))))
theorem word_fr (μ : MS) : FrP Prod.snd μ (m_word μ) := by
  rw [m_word]
  exact (FrP.up Fr.rf (word_B_fr _ _ _ _ _))
theorem fail_fr (x1 : Int32) (μ : MS) : FrP id μ (m_fail x1 μ) := by
  rw [m_fail]
  exact (FrP.it (fun _ => (FrP.so (Fr.I Fr.rf (k := 27) (by decide) (by decide)))) (fun _ => (FrP.so (Fr.I Fr.rf (k := 27) (by decide) (by decide)))))
theorem node_fr (x1 : Int32) (x2 : Int32) (μ : MS) : FrP Prod.snd μ (m_node x1 x2 μ) := by
  rw [m_node]
  exact (FrP.it (fun _ => (FrP.bd (FrP.up Fr.rf (fail_fr _ _)) (fun p11 hp11 => (FrP.so hp11)))) (fun _ => (FrP.it (fun _ => (FrP.so (Fr.I (Fr.A (Fr.A (Fr.A (Fr.A Fr.rf (k := 20) (by decide) (by decide)) (k := 21) (by decide) (by decide)) (k := 22) (by decide) (by decide)) (k := 23) (by decide) (by decide)) (k := 24) (by decide) (by decide)))) (fun _ => FrP.no))))
theorem push_fr (x1 : Int32) (x2 : Int32) (μ : MS) : FrP id μ (m_push x1 x2 μ) := by
  rw [m_push]
  exact (FrP.it (fun _ => (FrP.so (Fr.I (Fr.A (Fr.A Fr.rf (k := 28) (by decide) (by decide)) (k := 29) (by decide) (by decide)) (k := 30) (by decide) (by decide)))) (fun _ => FrP.no))
theorem enter_fr (x1 : Int32) (μ : MS) : FrP id μ (m_enter x1 μ) := by
  rw [m_enter]
  exact (FrP.it (fun _ => (FrP.bd (FrP.up Fr.rf (fail_fr _ _)) (fun p11 hp11 => (FrP.so (Fr.I hp11 (k := 26) (by decide) (by decide)))))) (fun _ => (FrP.so (Fr.I Fr.rf (k := 26) (by decide) (by decide)))))
theorem digits_B_fr : ∀ (n : Nat) (b : Nat) (x1 : Int32) (x2 : Int32) (x3 : Int32) (x4 : Int32) (μ : MS), FrP Prod.snd μ (m_digits_B n b x1 x2 x3 x4 μ)
  | 0, _, _, _, _, _, _ => by
    rw [m_digits_B]
    exact FrP.no
  | n + 1, b, x1, x2, x3, x4, μ => by
    rw [m_digits_B]
    exact (FrP.it (fun _ => (FrP.it (fun _ => (FrP.bd (FrP.up Fr.rf (fail_fr _ _)) (fun p83 hp83 => (FrP.so hp83)))) (fun _ => (FrP.it (fun _ => (FrP.so Fr.rf)) (fun _ => (FrP.bd (FrP.up Fr.rf (fail_fr _ _)) (fun p83 hp83 => (FrP.so hp83)))))))) (fun _ => (FrP.it (fun _ => (FrP.b0 (fun p25 => (FrP.it (fun _ => (FrP.it (fun _ => (FrP.bd (FrP.up Fr.rf (fail_fr _ _)) (fun p83 hp83 => (FrP.so hp83)))) (fun _ => (FrP.it (fun _ => (FrP.so Fr.rf)) (fun _ => (FrP.bd (FrP.up Fr.rf (fail_fr _ _)) (fun p83 hp83 => (FrP.so hp83)))))))) (fun _ => (FrP.it (fun _ => (FrP.it (fun _ => (FrP.bd (FrP.up Fr.rf (fail_fr _ _)) (fun p83 hp83 => (FrP.so hp83)))) (fun _ => (FrP.it (fun _ => (FrP.so Fr.rf)) (fun _ => (FrP.bd (FrP.up Fr.rf (fail_fr _ _)) (fun p83 hp83 => (FrP.so hp83)))))))) (fun _ => (FrP.up (Fr.I Fr.rf (k := 25) (by decide) (by decide)) (digits_B_fr n _ _ _ _ _ _))))))))) (fun _ => FrP.no))))
theorem digits_fr (x1 : Int32) (x2 : Int32) (μ : MS) : FrP Prod.snd μ (m_digits x1 x2 μ) := by
  rw [m_digits]
  exact (FrP.up Fr.rf (digits_B_fr _ _ _ _ _ _ _))
theorem field_fr (μ : MS) : FrP Prod.snd μ (m_field μ) := by
  rw [m_field]
  exact (FrP.bd (FrP.up Fr.rf (look_fr _)) (fun p1 hp1 => (FrP.it (fun _ => (FrP.bd (FrP.up hp1 (word_fr _)) (fun p17 hp17 => (FrP.it (fun _ => (FrP.bd (FrP.up (Fr.I hp17 (k := 25) (by decide) (by decide)) (digits_fr _ _ _)) (fun p44 hp44 => (FrP.it (fun _ => (FrP.so hp44)) (fun _ => (FrP.bd (FrP.up hp44 (fail_fr _ _)) (fun p56 hp56 => (FrP.so hp56)))))))) (fun _ => (FrP.bd (FrP.up hp17 (fail_fr _ _)) (fun p26 hp26 => (FrP.so hp26)))))))) (fun _ => (FrP.bd (FrP.up hp1 (fail_fr _ _)) (fun p26 hp26 => (FrP.so hp26)))))))
theorem term_fr (μ : MS) : FrP Prod.snd μ (m_term μ) := by
  rw [m_term]
  exact (FrP.bd (FrP.up Fr.rf (look_fr _)) (fun p1 hp1 => (FrP.it (fun _ => (FrP.b0 (fun p25 => (FrP.it (fun _ => (FrP.bd (FrP.up hp1 (fail_fr _ _)) (fun p127 hp127 => (FrP.so hp127)))) (fun _ => (FrP.bd (FrP.up hp1 (digits_fr _ _ _)) (fun p35 hp35 => (FrP.it (fun _ => (FrP.it (fun _ => (FrP.so (Fr.A hp35 (k := 21) (by decide) (by decide)))) (fun _ => FrP.no))) (fun _ => (FrP.bd (FrP.up hp35 (node_fr _ _ _)) (fun p51 hp51 => (FrP.it (fun _ => (FrP.so (Fr.A hp51 (k := 21) (by decide) (by decide)))) (fun _ => FrP.no))))))))))))) (fun _ => (FrP.bd (FrP.up hp1 (word_fr _)) (fun p20 hp20 => (FrP.b0 (fun p25 => (FrP.it (fun _ => (FrP.it (fun _ => (FrP.bd (FrP.up hp20 (field_fr _)) (fun p78 hp78 => (FrP.it (fun _ => (FrP.it (fun _ => (FrP.so (Fr.A hp78 (k := 21) (by decide) (by decide)))) (fun _ => FrP.no))) (fun _ => (FrP.bd (FrP.up hp78 (node_fr _ _ _)) (fun p94 hp94 => (FrP.it (fun _ => (FrP.so (Fr.A hp94 (k := 21) (by decide) (by decide)))) (fun _ => FrP.no))))))))) (fun _ => (FrP.it (fun _ => (FrP.bd (FrP.up hp20 (node_fr _ _ _)) (fun p138 hp138 => (FrP.it (fun _ => (FrP.it (fun _ => (FrP.so (Fr.A (Fr.I hp138 (k := 25) (by decide) (by decide)) (k := 21) (by decide) (by decide)))) (fun _ => FrP.no))) (fun _ => (FrP.bd (FrP.up (Fr.I hp138 (k := 25) (by decide) (by decide)) (field_fr _)) (fun p170 hp170 => (FrP.it (fun _ => (FrP.so (Fr.A hp170 (k := 21) (by decide) (by decide)))) (fun _ => FrP.no))))))))) (fun _ => (FrP.it (fun _ => (FrP.bd (FrP.up hp20 (node_fr _ _ _)) (fun p138 hp138 => (FrP.it (fun _ => (FrP.it (fun _ => (FrP.so (Fr.A (Fr.I hp138 (k := 25) (by decide) (by decide)) (k := 21) (by decide) (by decide)))) (fun _ => FrP.no))) (fun _ => (FrP.bd (FrP.up (Fr.I hp138 (k := 25) (by decide) (by decide)) (field_fr _)) (fun p170 hp170 => (FrP.it (fun _ => (FrP.so (Fr.A hp170 (k := 21) (by decide) (by decide)))) (fun _ => FrP.no))))))))) (fun _ => (FrP.bd (FrP.up hp20 (fail_fr _ _)) (fun p127 hp127 => (FrP.so hp127)))))))))) (fun _ => (FrP.bd (FrP.up hp20 (digits_fr _ _ _)) (fun p35 hp35 => (FrP.it (fun _ => (FrP.it (fun _ => (FrP.so (Fr.A hp35 (k := 21) (by decide) (by decide)))) (fun _ => FrP.no))) (fun _ => (FrP.bd (FrP.up hp35 (node_fr _ _ _)) (fun p51 hp51 => (FrP.it (fun _ => (FrP.so (Fr.A hp51 (k := 21) (by decide) (by decide)))) (fun _ => FrP.no))))))))))))))))))
theorem sum_B_fr : ∀ (n : Nat) (b : Nat) (x1 : Int32) (x2 : Int32) (y0 : Int32) (μ : MS), FrP Prod.snd μ (m_sum_B n b x1 x2 y0 μ)
  | 0, _, _, _, _, _ => by
    rw [m_sum_B]
    exact FrP.no
  | n + 1, b, x1, x2, y0, μ => by
    rw [m_sum_B]
    exact (FrP.it (fun _ => (FrP.it (fun _ => (FrP.up Fr.rf (sum_B_fr n _ _ _ _ _))) (fun _ => (FrP.bd (FrP.up Fr.rf (look_fr _)) (fun p13 hp13 => (FrP.it (fun _ => (FrP.up hp13 (sum_B_fr n _ _ _ _ _))) (fun _ => (FrP.bd (FrP.up hp13 (look_fr _)) (fun p22 hp22 => (FrP.it (fun _ => (FrP.up hp22 (sum_B_fr n _ _ _ _ _))) (fun _ => (FrP.up hp22 (sum_B_fr n _ _ _ _ _))))))))))))) (fun _ => (FrP.it (fun _ => (FrP.it (fun _ => (FrP.it (fun _ => (FrP.up Fr.rf (sum_B_fr n _ _ _ _ _))) (fun _ => (FrP.up Fr.rf (sum_B_fr n _ _ _ _ _))))) (fun _ => FrP.no))) (fun _ => (FrP.it (fun _ => (FrP.bd (FrP.up Fr.rf (node_fr _ _ _)) (fun p56 hp56 => (FrP.it (fun _ => (FrP.up (Fr.I hp56 (k := 25) (by decide) (by decide)) (sum_B_fr n _ _ _ _ _))) (fun _ => (FrP.bd (FrP.up (Fr.I hp56 (k := 25) (by decide) (by decide)) (term_fr _)) (fun p78 hp78 => (FrP.up hp78 (sum_B_fr n _ _ _ _ _))))))))) (fun _ => (FrP.it (fun _ => (FrP.it (fun _ => (FrP.up Fr.rf (sum_B_fr n _ _ _ _ _))) (fun _ => (FrP.it (fun _ => (FrP.up (Fr.A (Fr.A Fr.rf (k := 22) (by decide) (by decide)) (k := 23) (by decide) (by decide)) (sum_B_fr n _ _ _ _ _))) (fun _ => FrP.no))))) (fun _ => (FrP.it (fun _ => (FrP.up Fr.rf (sum_B_fr n _ _ _ _ _))) (fun _ => (FrP.so Fr.rf)))))))))))
theorem sum_fr (μ : MS) : FrP Prod.snd μ (m_sum μ) := by
  rw [m_sum]
  exact (FrP.bd (FrP.up Fr.rf (term_fr _)) (fun p1 hp1 => (FrP.up hp1 (sum_B_fr _ _ _ _ _ _))))
theorem comparison_B_fr : ∀ (n : Nat) (b : Nat) (x1 : Int32) (x4 : Int32) (y0 : Int32) (μ : MS), FrP Prod.snd μ (m_comparison_B n b x1 x4 y0 μ)
  | 0, _, _, _, _, _ => by
    rw [m_comparison_B]
    exact FrP.no
  | n + 1, b, x1, x4, y0, μ => by
    rw [m_comparison_B]
    exact (FrP.it (fun _ => (FrP.it (fun _ => (FrP.bd (FrP.up Fr.rf (node_fr _ _ _)) (fun p84 hp84 => (FrP.it (fun _ => (FrP.up (Fr.I hp84 (k := 25) (by decide) (by decide)) (comparison_B_fr n _ _ _ _ _))) (fun _ => (FrP.bd (FrP.up (Fr.I hp84 (k := 25) (by decide) (by decide)) (sum_fr _)) (fun p107 hp107 => (FrP.up hp107 (comparison_B_fr n _ _ _ _ _))))))))) (fun _ => (FrP.bd (FrP.up Fr.rf (fail_fr _ _)) (fun p73 hp73 => (FrP.so hp73)))))) (fun _ => (FrP.it (fun _ => (FrP.it (fun _ => (FrP.up Fr.rf (comparison_B_fr n _ _ _ _ _))) (fun _ => (FrP.it (fun _ => (FrP.up (Fr.A (Fr.A Fr.rf (k := 22) (by decide) (by decide)) (k := 23) (by decide) (by decide)) (comparison_B_fr n _ _ _ _ _))) (fun _ => FrP.no))))) (fun _ => (FrP.so Fr.rf)))))
theorem comparison_fr (μ : MS) : FrP Prod.snd μ (m_comparison μ) := by
  rw [m_comparison]
  exact (FrP.bd (FrP.up Fr.rf (sum_fr _)) (fun p1 hp1 => (FrP.it (fun _ => (FrP.bd (FrP.up hp1 (look_fr _)) (fun p15 hp15 => (FrP.it (fun _ => (FrP.up hp15 (comparison_B_fr _ _ _ _ _ _))) (fun _ => (FrP.it (fun _ => (FrP.up hp15 (comparison_B_fr _ _ _ _ _ _))) (fun _ => (FrP.it (fun _ => (FrP.up hp15 (comparison_B_fr _ _ _ _ _ _))) (fun _ => (FrP.it (fun _ => (FrP.up hp15 (comparison_B_fr _ _ _ _ _ _))) (fun _ => (FrP.up hp15 (comparison_B_fr _ _ _ _ _ _))))))))))))) (fun _ => (FrP.so hp1)))))
theorem begins_fr (μ : MS) : FrP Prod.snd μ (m_begins μ) := by
  rw [m_begins]
  exact (FrP.bd (FrP.up Fr.rf (look_fr _)) (fun p1 hp1 => (FrP.it (fun _ => (FrP.it (fun _ => (FrP.bd (FrP.up hp1 (node_fr _ _ _)) (fun p31 hp31 => (FrP.bd (FrP.up hp31 (enter_fr _ _)) (fun p40 hp40 => (FrP.bd (FrP.up hp40 (push_fr _ _ _)) (fun p46 hp46 => (FrP.so (Fr.I hp46 (k := 25) (by decide) (by decide)))))))))) (fun _ => (FrP.it (fun _ => (FrP.bd (FrP.up hp1 (enter_fr _ _)) (fun p151 hp151 => (FrP.bd (FrP.up hp151 (push_fr _ _ _)) (fun p157 hp157 => (FrP.so (Fr.I hp157 (k := 25) (by decide) (by decide)))))))) (fun _ => (FrP.so hp1)))))) (fun _ => (FrP.bd (FrP.up hp1 (word_fr _)) (fun p15 hp15 => (FrP.it (fun _ => (FrP.bd (FrP.up hp15 (node_fr _ _ _)) (fun p31 hp31 => (FrP.bd (FrP.up hp31 (enter_fr _ _)) (fun p40 hp40 => (FrP.bd (FrP.up hp40 (push_fr _ _ _)) (fun p46 hp46 => (FrP.so (Fr.I hp46 (k := 25) (by decide) (by decide)))))))))) (fun _ => (FrP.it (fun _ => (FrP.it (fun _ => (FrP.bd (FrP.up hp15 (enter_fr _ _)) (fun p151 hp151 => (FrP.bd (FrP.up hp151 (push_fr _ _ _)) (fun p157 hp157 => (FrP.so (Fr.I hp157 (k := 25) (by decide) (by decide)))))))) (fun _ => (FrP.so hp15)))) (fun _ => (FrP.bd (FrP.up hp15 (node_fr _ _ _)) (fun p74 hp74 => (FrP.bd (FrP.up hp74 (enter_fr _ _)) (fun p83 hp83 => (FrP.bd (FrP.up hp83 (push_fr _ _ _)) (fun p89 hp89 => (FrP.it (fun _ => (FrP.so (Fr.I (Fr.I hp89 (k := 25) (by decide) (by decide)) (k := 25) (by decide) (by decide)))) (fun _ => (FrP.bd (FrP.up (Fr.I hp89 (k := 25) (by decide) (by decide)) (look_fr _)) (fun p110 hp110 => (FrP.it (fun _ => (FrP.so (Fr.I hp110 (k := 25) (by decide) (by decide)))) (fun _ => (FrP.bd (FrP.up hp110 (fail_fr _ _)) (fun p123 hp123 => (FrP.so (Fr.I hp123 (k := 25) (by decide) (by decide)))))))))))))))))))))))))))
theorem taken_B_fr : ∀ (n : Nat) (b : Nat) (x2 : Int32) (μ : MS), FrP Prod.snd μ (m_taken_B n b x2 μ)
  | 0, _, _, _ => by
    rw [m_taken_B]
    exact FrP.no
  | n + 1, b, x2, μ => by
    rw [m_taken_B]
    exact (FrP.it (fun _ => (FrP.so Fr.rf)) (fun _ => (FrP.it (fun _ => (FrP.it (fun _ => (FrP.it (fun _ => (FrP.up (Fr.I (Fr.A (Fr.I Fr.rf (k := 30) (by decide) (by decide)) (k := 22) (by decide) (by decide)) (k := 26) (by decide) (by decide)) (taken_B_fr n _ _ _))) (fun _ => FrP.no))) (fun _ => (FrP.it (fun _ => (FrP.it (fun _ => (FrP.up (Fr.A (Fr.I Fr.rf (k := 30) (by decide) (by decide)) (k := 23) (by decide) (by decide)) (taken_B_fr n _ _ _))) (fun _ => FrP.no))) (fun _ => (FrP.so Fr.rf)))))) (fun _ => FrP.no))))
theorem taken_fr (x1 : Int32) (μ : MS) : FrP Prod.snd μ (m_taken x1 μ) := by
  rw [m_taken]
  exact (FrP.up Fr.rf (taken_B_fr _ _ _ _))
theorem or_fr (x1 : Int32) (μ : MS) : FrP Prod.snd μ (m_or x1 μ) := by
  rw [m_or]
  exact (FrP.it (fun _ => (FrP.so Fr.rf)) (fun _ => (FrP.it (fun _ => (FrP.it (fun _ => (FrP.it (fun _ => (FrP.so (Fr.A (Fr.I Fr.rf (k := 30) (by decide) (by decide)) (k := 23) (by decide) (by decide)))) (fun _ => FrP.no))) (fun _ => (FrP.so Fr.rf)))) (fun _ => FrP.no))))
theorem read_B_fr : ∀ (n : Nat) (b : Nat) (x1 : Int32) (x2 : Int32) (x3 : Int32) (x5 : Int32) (μ : MS), FrP Prod.snd μ (m_read_B n b x1 x2 x3 x5 μ)
  | 0, _, _, _, _, _, _ => by
    rw [m_read_B]
    exact FrP.no
  | n + 1, b, x1, x2, x3, x5, μ => by
    rw [m_read_B]
    exact (FrP.it (fun _ => (FrP.it (fun _ => (FrP.so Fr.rf)) (fun _ => (FrP.up Fr.rf (read_B_fr n _ _ _ _ _ _))))) (fun _ => (FrP.it (fun _ => (FrP.it (fun _ => (FrP.up Fr.rf (read_B_fr n _ _ _ _ _ _))) (fun _ => (FrP.bd (FrP.up Fr.rf (begins_fr _)) (fun p40 hp40 => (FrP.it (fun _ => (FrP.bd (FrP.up hp40 (look_fr _)) (fun p47 hp47 => (FrP.up hp47 (read_B_fr n _ _ _ _ _ _))))) (fun _ => (FrP.up hp40 (read_B_fr n _ _ _ _ _ _))))))))) (fun _ => (FrP.it (fun _ => (FrP.it (fun _ => (FrP.up Fr.rf (read_B_fr n _ _ _ _ _ _))) (fun _ => (FrP.bd (FrP.up Fr.rf (comparison_fr _)) (fun p63 hp63 => (FrP.bd (FrP.up hp63 (taken_fr _ _)) (fun p66 hp66 => (FrP.it (fun _ => (FrP.up hp66 (read_B_fr n _ _ _ _ _ _))) (fun _ => (FrP.up hp66 (read_B_fr n _ _ _ _ _ _))))))))))) (fun _ => (FrP.it (fun _ => (FrP.it (fun _ => (FrP.up Fr.rf (read_B_fr n _ _ _ _ _ _))) (fun _ => (FrP.bd (FrP.up Fr.rf (look_fr _)) (fun p92 hp92 => (FrP.it (fun _ => (FrP.bd (FrP.up hp92 (or_fr _ _)) (fun p102 hp102 => (FrP.it (fun _ => (FrP.bd (FrP.up hp102 (fail_fr _ _)) (fun p128 hp128 => (FrP.up hp128 (read_B_fr n _ _ _ _ _ _))))) (fun _ => (FrP.up hp102 (read_B_fr n _ _ _ _ _ _))))))) (fun _ => (FrP.up hp92 (read_B_fr n _ _ _ _ _ _))))))))) (fun _ => (FrP.it (fun _ => (FrP.it (fun _ => (FrP.up Fr.rf (read_B_fr n _ _ _ _ _ _))) (fun _ => (FrP.it (fun _ => (FrP.it (fun _ => (FrP.it (fun _ => (FrP.up (Fr.A (Fr.I (Fr.I (Fr.I Fr.rf (k := 30) (by decide) (by decide)) (k := 26) (by decide) (by decide)) (k := 25) (by decide) (by decide)) (k := 22) (by decide) (by decide)) (read_B_fr n _ _ _ _ _ _))) (fun _ => FrP.no))) (fun _ => (FrP.up (Fr.I (Fr.I (Fr.I Fr.rf (k := 30) (by decide) (by decide)) (k := 26) (by decide) (by decide)) (k := 25) (by decide) (by decide)) (read_B_fr n _ _ _ _ _ _))))) (fun _ => FrP.no))))) (fun _ => (FrP.it (fun _ => (FrP.it (fun _ => (FrP.it (fun _ => (FrP.bd (FrP.up Fr.rf (taken_fr _ _)) (fun p225 hp225 => (FrP.up hp225 (read_B_fr n _ _ _ _ _ _))))) (fun _ => (FrP.bd (FrP.up Fr.rf (taken_fr _ _)) (fun p225 hp225 => (FrP.up hp225 (read_B_fr n _ _ _ _ _ _))))))) (fun _ => FrP.no))) (fun _ => (FrP.it (fun _ => (FrP.it (fun _ => (FrP.bd (FrP.up Fr.rf (look_fr _)) (fun p242 hp242 => (FrP.it (fun _ => (FrP.up hp242 (read_B_fr n _ _ _ _ _ _))) (fun _ => (FrP.it (fun _ => (FrP.up hp242 (read_B_fr n _ _ _ _ _ _))) (fun _ => (FrP.bd (FrP.up hp242 (or_fr _ _)) (fun p344 hp344 => (FrP.it (fun _ => (FrP.it (fun _ => (FrP.up hp344 (read_B_fr n _ _ _ _ _ _))) (fun _ => (FrP.up hp344 (read_B_fr n _ _ _ _ _ _))))) (fun _ => (FrP.up hp344 (read_B_fr n _ _ _ _ _ _))))))))))))) (fun _ => (FrP.so Fr.rf)))) (fun _ => (FrP.it (fun _ => (FrP.it (fun _ => (FrP.bd (FrP.up Fr.rf (or_fr _ _)) (fun p266 hp266 => (FrP.bd (FrP.up hp266 (node_fr _ _ _)) (fun p291 hp291 => (FrP.it (fun _ => (FrP.up hp291 (read_B_fr n _ _ _ _ _ _))) (fun _ => (FrP.it (fun _ => (FrP.up (Fr.A hp291 (k := 22) (by decide) (by decide)) (read_B_fr n _ _ _ _ _ _))) (fun _ => FrP.no))))))))) (fun _ => (FrP.bd (FrP.up Fr.rf (node_fr _ _ _)) (fun p291 hp291 => (FrP.it (fun _ => (FrP.up hp291 (read_B_fr n _ _ _ _ _ _))) (fun _ => (FrP.it (fun _ => (FrP.up (Fr.A hp291 (k := 22) (by decide) (by decide)) (read_B_fr n _ _ _ _ _ _))) (fun _ => FrP.no))))))))) (fun _ => (FrP.it (fun _ => (FrP.it (fun _ => (FrP.bd (FrP.up Fr.rf (push_fr _ _ _)) (fun p326 hp326 => (FrP.up (Fr.I hp326 (k := 25) (by decide) (by decide)) (read_B_fr n _ _ _ _ _ _))))) (fun _ => (FrP.bd (FrP.up Fr.rf (push_fr _ _ _)) (fun p326 hp326 => (FrP.up (Fr.I hp326 (k := 25) (by decide) (by decide)) (read_B_fr n _ _ _ _ _ _))))))) (fun _ => (FrP.it (fun _ => (FrP.bd (FrP.up Fr.rf (fail_fr _ _)) (fun p365 hp365 => (FrP.up hp365 (read_B_fr n _ _ _ _ _ _))))) (fun _ => (FrP.it (fun _ => (FrP.it (fun _ => (FrP.up Fr.rf (read_B_fr n _ _ _ _ _ _))) (fun _ => (FrP.so Fr.rf)))) (fun _ => (FrP.up Fr.rf (read_B_fr n _ _ _ _ _ _))))))))))))))))))))))))
theorem read_fr (μ : MS) : FrP Prod.snd μ (m_read μ) := by
  rw [m_read]
  exact (FrP.up (Fr.I (Fr.I (Fr.I (Fr.I (Fr.I Fr.rf (k := 25) (by decide) (by decide)) (k := 24) (by decide) (by decide)) (k := 26) (by decide) (by decide)) (k := 30) (by decide) (by decide)) (k := 27) (by decide) (by decide)) (read_B_fr _ _ _ _ _ _ _))
