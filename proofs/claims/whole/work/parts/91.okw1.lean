/-! What is sure of a world, behind one more call. Printed by wip/whole. -/
theorem okS.up {e : xe} {k n : Nat} {v : sv} (h : okS e k n v) : okS e (k + 1) n v := ⟨h.1, by have := h.2.1; omega, by have := h.2.2; omega⟩
theorem okS.txt {e : xe} {k n m : Nat} {v : sv} (h : okS e k n v) (hm : m ≤ n + 4) : okS e (k + 1) m v := ⟨h.1, by have := h.2.1; omega, by have := h.2.2; omega⟩
theorem okW.up {k : Nat} {w : wv} (h : okW k w) : okW (k + 1) w := by
  obtain ⟨a, b, c, d, ⟨e1, e2⟩, f, g, i⟩ := h
  exact ⟨a, b.up, c, d, ⟨e1, fun j hj => (e2 j hj).up⟩, fun j hj v hv => (f j hj v hv).up, g, i⟩
theorem okW.told {k : Nat} {w : wv} {t : Option (List Int64)} (h : okW k w) (ht : ∀ l, t = some l → l.length ≤ 37) : okW (k + 1) (stD w t) := by
  cases t with
  | none => exact h.up
  | some l =>
    obtain ⟨a, b, c, d, e, f, g, i⟩ := h.up
    exact ⟨a, b, c, ht l rfl, e, f, g, i⟩
theorem okW.forget {k : Nat} {w : wv} (h : okW k w) : okW (k + 1) (a_forget w).2 := by
  obtain ⟨a, b, c, d, e, f, g, i⟩ := h.up
  exact ⟨a, b, c, d, e, f, ⟨Nat.zero_le _, fun j hj => absurd hj (Nat.not_lt_zero j)⟩, i⟩
theorem okW.undo {k : Nat} {w : wv} (h : okW k w) : okW (k + 1) (a_undo w).2 := by
  have hu := h.up
  unfold a_undo
  rcases hU : wU w with _ | ⟨v, u⟩
  · exact hu
  · obtain ⟨a, b, c, d, ⟨e1, e2⟩, f, g, i⟩ := hu
    rw [hU] at e1 e2
    have e1' : u.length + 1 ≤ 15 := e1
    refine ⟨a, e2 0 (by show 0 < u.length + 1; omega), c, d, ⟨by show u.length ≤ 15; omega, fun j hj => ?_⟩, f, g, i⟩
    have hj' : j < u.length := hj
    exact e2 (j + 1) (by show j + 1 < u.length + 1; omega)
theorem okW.keep {k : Nat} {w : wv} {n : Int32} (h : okW k w) : okW (k + 1) (a_keep w n).2 := by
  have hu := h.up
  unfold a_keep
  cases inN n 3 with
  | none => exact hu
  | some q =>
    obtain ⟨a, b, c, d, e, f, g, i⟩ := hu
    refine ⟨a, b, c, d, e, fun j hj v hv => ?_, g, i⟩
    have hv' : (if j = q then some (wV w) else wK w j) = some v := hv
    by_cases z : j = q
    · rw [if_pos z] at hv'
      obtain rfl : wV w = v := Option.some.inj hv'
      exact b
    · rw [if_neg z] at hv'
      exact f j hj v hv'
theorem okW.again {k : Nat} {w : wv} {n : Int32} (h : okW k w) : okW (k + 1) (a_again w n).2 := by
  have hu := h.up
  unfold a_again
  rcases inN_c n 3 with ⟨m, hm, rfl, hq⟩ | ⟨hq, hb⟩
  · rw [hq]
    dsimp only
    rcases hK : wK w m with _ | v
    · exact hu
    · obtain ⟨a, b, c, d, e, f, g, i⟩ := hu
      exact ⟨a, f m hm v hK, c, d, ⟨Nat.zero_le _, fun j hj => absurd hj (Nat.not_lt_zero j)⟩, f, g, i⟩
  · rw [hq]
    exact hu
theorem okW.end_ {k : Nat} {w : wv} {n : Int32} (h : okW k w) : okW (k + 1) (a_end w n).2 := by
  unfold a_end
  rcases rgN_c n 0 (wX w).1 with ⟨m, hm1, hm2, hm3, rfl, hq⟩ | ⟨hq, hb⟩
  · rw [hq]
    obtain ⟨a, b, ⟨c1, c2⟩, d, ⟨e1, e2⟩, f, g, i⟩ := h
    exact ⟨a, b.txt (by show m ≤ _; omega), ⟨by show m ≤ 80; omega, fun j hj => c2 j (by have : j < m := hj; omega)⟩, d, ⟨e1, fun j hj => (e2 j hj).txt (by show m ≤ _; omega)⟩, fun j hj v hv => (f j hj v hv).txt (by show m ≤ _; omega), g, i⟩
  · rw [hq]
    exact h.up
theorem okW.sign {k : Nat} {w : wv} {v : Int32} (h : okW k w) : okW (k + 1) (a_sign w v).2 := by
  unfold a_sign
  by_cases c9 : 76 < (wX w).1
  · rw [if_pos c9]
    exact h.up
  · rw [if_neg c9]
    obtain ⟨a, b, ⟨c1, c2⟩, d, ⟨e1, e2⟩, f, g, i⟩ := h
    refine ⟨a, b.txt (Nat.le_refl _), ⟨by show (wX w).1 + 4 ≤ 80; omega, fun j hj => ?_⟩, d, ⟨e1, fun j hj => (e2 j hj).txt (Nat.le_refl _)⟩, fun j hj u hu => (f j hj u hu).txt (Nat.le_refl _), g, i⟩
    show sgT (wX w) v j < 256
    unfold sgT
    by_cases c : j < (wX w).1
    · rw [if_pos c]; exact c2 j c
    · rw [if_neg c]; exact byN_lt _ _
theorem okW.seen {k : Nat} {w : wv} {n f s : Int32} (h : okW k w) : okW (k + 1) (a_seen w n f s).2 := by
  have hu := h.up
  unfold a_seen
  rcases rgN_c n 0 20 with ⟨a, ha1, ha2, ha3, rfl, hq1⟩ | ⟨hq1, hb1⟩
  · rcases inN_c f (eR (wE w) * eC (wE w)) with ⟨m, hm, rfl, hq2⟩ | ⟨hq2, hb⟩
    · rcases rgN_c s 0 1 with ⟨z, hz1, hz2, hz3, rfl, hq3⟩ | ⟨hq3, hb3⟩
      · rw [hq1, hq2, hq3]
        dsimp only
        by_cases c9 : (wS w).1 < 10
        · rw [if_pos c9]
          obtain ⟨q1, q2, q3, q4, q5, q6, ⟨g1, g2⟩, q8⟩ := hu
          refine ⟨q1, q2, q3, q4, q5, q6, ⟨by show (wS w).1 + 1 ≤ 10; omega, fun j hj => ?_⟩, q8⟩
          have hj' : j < (wS w).1 + 1 := hj
          show uqN (wS w).2.1 (wS w).1 a j ≤ 20 ∧ uqN (wS w).2.2.1 (wS w).1 m j < eR (wE w) * eC (wE w) ∧ uqN (wS w).2.2.2 (wS w).1 z j ≤ 1
          unfold uqN
          by_cases c : j = (wS w).1
          · rw [if_pos c, if_pos c, if_pos c]; exact ⟨ha2, hm, hz2⟩
          · rw [if_neg c, if_neg c, if_neg c]; exact g2 j (by omega)
        · rw [if_neg c9]; exact hu
      · rw [hq1, hq2, hq3]; exact hu
    · rw [hq1, hq2]; exact hu
  · rw [hq1]; exact hu
