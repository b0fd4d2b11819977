/-! What is sure of a world behind sheet. Printed by wip/whole. -/
theorem okW.stS {k : Nat} {w : wv} {S : Nat → Nat} (h : okW k w) (hS : ∀ i, i < 8 → S i ≤ 9) : okW k (stS w S) := by
  obtain ⟨a, b, x, d, e, f, g, i⟩ := h
  exact ⟨⟨a.1, fun j hj => ⟨(a.2.1 j hj).1, hS j hj⟩, a.2.2.1, a.2.2.2⟩, b, x, d, e, f, g, i⟩
theorem shN_9 {w : wv} {n : Nat} {kind f s : Int32} (h : okE (wE w)) : ∀ i, i < 8 → shN w n kind f s i ≤ 9 := fun i hi => by
  unfold shN
  by_cases c : i < eN (wE w)
  · rw [if_pos c]
    have := X_sv_b n kind f s i
    show (X_sv n kind f s i).toInt.toNat ≤ 9
    omega
  · rw [if_neg c]; exact (h.2.1 i hi).2
theorem okW.sheet {k : Nat} {w : wv} {a n f s : Int32} (h : okW k w) : okW (k + 1) (a_sheet w a n f s).2 := by
  have hu := h.up
  unfold a_sheet
  cases rgN a 0 3 with
  | none => exact hu
  | some kk =>
    cases rgN n 0 8 with
    | some N =>
      dsimp only
      by_cases c : kk = 3
      · rw [if_pos c]; exact hu.stS (shN_9 h.1)
      · rw [if_neg c]; exact hu.stS (shN_9 h.1)
    | none =>
      dsimp only
      by_cases c8 : 8 < n.toInt
      · rw [if_pos c8]; exact hu
      · rw [if_neg c8]
        by_cases c : kk = 3
        · rw [if_pos c]; exact hu.stS (shN_9 h.1)
        · rw [if_neg c]; exact hu
