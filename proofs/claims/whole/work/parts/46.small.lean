/-! the reference's small steps -/
theorem nIl {u c : Nat} (h : u ≠ c) (hu : u < 2 ^ 31) (hc : c < 2 ^ 31) : ¬ nI u = nI c := fun z => h ((nI_eq hu hc).mp z)
theorem sA_at {k i : Nat} {v : Int32} {μ : MS} : (sA k i v μ).2.1 k = upd (μ.2.1 k) i v := by
  show va_up μ.2.1 k (upd (μ.2.1 k) i v) k = _
  rw [va_up_self]
theorem sA_ne {k i j : Nat} {v : Int32} {μ : MS} (h : j ≠ k) : (sA k i v μ).2.1 j = μ.2.1 j := by
  show va_up μ.2.1 k (upd (μ.2.1 k) i v) j = _
  rw [va_up_ne _ _ h]
theorem sA_1 {k i j : Nat} {v : Int32} {μ : MS} : (sA k i v μ).1 j = μ.1 j := rfl
theorem sI_2 {k j : Nat} {v : Int32} {μ : MS} : (sI k v μ).2.1 j = μ.2.1 j := rfl
theorem mFail_2 {w : Int32} {j : Nat} {μ : MS} : (mFail w μ).2.1 j = μ.2.1 j := rfl
theorem mFail_1 {w : Int32} {j : Nat} {μ : MS} (h : j ≠ 27) : (mFail w μ).1 j = μ.1 j := sI_ne h
theorem mFail_w {w : Int32} {μ : MS} : (mFail w μ).1 27 = if 0 ≤ μ.1 27 then μ.1 27 else w := sI_at
def nodeS (k : Int32) (u : Nat) (μ : MS) : MS := sI 24 (nI (u + 1)) (sA 23 u (-1) (sA 22 u (-1) (sA 21 u (-1) (sA 20 u k μ))))
theorem node_full {k w : Int32} {μ : MS} (h : μ.1 24 = nI 40) : m_node k w μ = some (0, mFail w μ) := by
  rw [m_node, h, if_pos (show nI 40 = 40 from rfl), fail_eq]
  rfl
theorem node_ok {k w : Int32} {u : Nat} {μ : MS} (h : μ.1 24 = nI u) (hu : u < 40) : m_node k w μ = some (nI u, nodeS k u μ) := by
  rw [m_node, h, if_neg (show ¬ nI u = 40 from nIl (c := 40) (by omega) (by omega) (by decide)), if_pos (inb_nI hu (by decide)), nI_clamp (by omega), nI_1, nI_pred, nodeS]
theorem push_eq {k n : Int32} {o : Nat} {μ : MS} (h : μ.1 30 = nI o) (ho : o < 64) : m_push k n μ = some (sI 30 (nI (o + 1)) (sA 29 o n (sA 28 o k μ))) := by
  rw [m_push, h, if_pos (inb_nI ho (by decide)), nI_clamp (by omega), nI_1]
theorem enter_ok {w : Int32} {d : Nat} {μ : MS} (h : μ.1 26 = nI d) (hd : d < 10) : m_enter w μ = some (sI 26 (nI (d + 1)) μ) := by
  rw [m_enter, h, if_neg (show ¬ nI d = 10 from nIl (c := 10) (by omega) (by omega) (by decide)), nI_1]
theorem enter_no {w : Int32} {μ : MS} (h : μ.1 26 = nI 10) : m_enter w μ = some (sI 26 (nI 11) (mFail w μ)) := by
  rw [m_enter, h, if_pos (show nI 10 = 10 from rfl), fail_eq]
  show some (sI 26 ((mFail w μ).1 26 + 1) (mFail w μ)) = _
  rw [mFail_1 (by decide), h, nI_1]
theorem mFail_2x {w : Nat} {μ : MS} (hw : w < 2 ^ 31) : mFail (nI w) (mFail (nI w) μ) = mFail (nI w) μ := by
  have h : 0 ≤ (mFail (nI w) μ).1 27 := by
    rw [mFail_w]
    by_cases q : 0 ≤ μ.1 27
    · rw [if_pos q]; exact q
    · rw [if_neg q]; exact nI_pos' hw
  have e : mFail (nI w) (mFail (nI w) μ) = sI 27 ((mFail (nI w) μ).1 27) (mFail (nI w) μ) := by
    show sI 27 (if 0 ≤ (mFail (nI w) μ).1 27 then (mFail (nI w) μ).1 27 else nI w) (mFail (nI w) μ) = _
    rw [if_pos h]
  rw [e, sI_id rfl]
