/-! What is sure of a world behind law. Printed by wip/whole. -/
theorem okW.law {k : Nat} {w : wv} (h : okW k w) : okW (k + 1) (a_law w).2 := by
  have ht := h.tx
  have h8 : eN (wE w) ≤ 8 := h.1.1.2.2.2.2.1
  unfold a_law
  by_cases c : rlF (wX w) = 0
  · rw [if_pos c]
    obtain ⟨a, b, x, d, e, f, g, i⟩ := ht
    exact ⟨a, b, x, by show (lwL w (eN (wE w))).length ≤ 37; rw [lwL_n]; omega, e, f, g, i⟩
  · rw [if_neg c]; exact ht

