/-! What each call asks, out of okW; what holds between two calls. Printed by wip/whole. -/
section
variable {σ τ : xs} {w : wv} {c k : Nat}
theorem okW.gS (h : okW k w) : okG (wS w) := by
  have h36 : eR (wE w) * eC (wE w) ≤ 36 := Nat.mul_le_mul h.1.1.2.1 h.1.1.2.2.2.1
  obtain ⟨a, b, x, d, e, f, ⟨g1, g2⟩, i⟩ := h
  exact ⟨g1, fun j hj => ⟨(g2 j hj).1, by have := (g2 j hj).2.1; omega, (g2 j hj).2.2⟩⟩
theorem okW.hU (h : okW k w) : (wU w).length ≤ 15 := h.2.2.2.2.1.1
theorem okW.hD (h : okW k w) : (wD w).1 ≤ 37 := h.2.2.2.1
theorem okW.hX (h : okW k w) : (wX w).1 ≤ 80 := h.2.2.1.1
theorem okW.hS (h : okW k w) : (wS w).1 ≤ 10 := h.gS.1
theorem okW.hH (h : okW k w) (hk : k ≤ 512) : wV w 0 4 + 1000 < 2 ^ 29 := by have := h.2.1.2.1; omega
theorem okW.hP (h : okW k w) (hk : k ≤ 512) : ptN (wE w) (wV w) + 100 < 999 := by have := (okS_pt.mp h.2.1).2.2; omega
/-- what holds between two calls: of a run of k calls -/
def IV (k : Nat) (w : wv) (c : Nat) (σ : xs) : Prop := XW σ w ∧ YW σ c w ∧ okW k w ∧ c ≤ k
theorem IV.up {w2 : wv} {c2 : Nat} {σ1 σ2 : xs} (h : IV k w c σ) (hx : XW σ1 w2) (hxf : XF σ σ1) (hy : YW σ2 c2 w2) (hyf : YF σ1 σ2) (ho : okW (k + 1) w2) (hc : c2 ≤ c + 1) : IV (k + 1) w2 c2 σ2 := ⟨hx.y hyf, hy, ho, by have := h.2.2.2; omega⟩
end

