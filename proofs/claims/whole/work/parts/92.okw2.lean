/-! What is sure of a world behind an act. Printed by wip/whole. -/
theorem okW.act {k : Nat} {w : wv} {c : Int32 × sv} (h : okW k w) (hc : okS (wE w) (k + 1) (wX w).1 c.2) : okW (k + 1) (a_act w c).2 := by
  obtain ⟨a, b, x, d, ⟨e1, e2⟩, f, g, i⟩ := h.up
  unfold a_act
  dsimp only
  by_cases z : c.1 < 0
  · rw [if_pos z]
    exact ⟨a, hc, x, d, ⟨e1, e2⟩, f, g, i⟩
  · rw [if_neg z]
    refine ⟨a, hc, x, d, ⟨?_, fun j hj => ?_⟩, f, g, i⟩
    · show ((wV w :: wU w).take 15).length ≤ 15
      rw [tk_len]; omega
    · have hj' : j < ((wV w :: wU w).take 15).length := hj
      show okS (wE w) (k + 1) (wX w).1 (((wV w :: wU w).take 15).getD j v0)
      rw [tk_len] at hj'
      rw [tk_get (by omega)]
      cases j with
      | zero => exact b
      | succ j => exact e2 j (by omega)
theorem okW.buys {k : Nat} {w : wv} {n : Int32} (h : okW k w) : okW (k + 1) (a_act w (c_buys w n)).2 := by
  refine h.act ?_
  have hs := h.2.1.up
  unfold c_buys
  cases rgN n 1 99 with
  | none => exact hs
  | some m =>
    dsimp only
    by_cases z : wV w 0 1 + m ≤ 99
    · rw [if_pos z]
      exact okS_pt.mpr ⟨ok_01 hs.1 z, hs.2.1, by show ptN (wE w) (upv (wV w) 0 1 (wV w 0 1 + m)) + _ ≤ _; rw [pt_n (by decide) (by decide) (by decide)]; exact (okS_pt.mp hs).2.2⟩
    · rw [if_neg z]; exact hs
theorem okW.lets {k : Nat} {w : wv} {n : Int32} (h : okW k w) : okW (k + 1) (a_act w (c_lets w n)).2 := by
  refine h.act ?_
  have hs := h.2.1.up
  have h8 := h.1.1.2.2.2.2.1
  unfold c_lets
  rcases inN_c n (eN (wE w)) with ⟨m, hm, rfl, hq⟩ | ⟨hq, hb⟩
  · rw [hq]
    exact okS_pt.mpr ⟨ok_05 hs.1 (hx_lt hs.1.2.2.2.2.2.1 (by omega)), hs.2.1, by show ptN (wE w) (upv (wV w) 0 5 (wV w 0 5 ^^^ 2 ^ m)) + _ ≤ _; rw [pt_n (by decide) (by decide) (by decide)]; exact (okS_pt.mp hs).2.2⟩
  · rw [hq]; exact hs
theorem okW.hours {k : Nat} {w : wv} {n : Int32} (h : okW k w) (hk : k ≤ 512) : okW (k + 1) (a_hours w n).2 := by
  have ho := h.q hk
  unfold a_hours
  rcases rgN_c n 0 60 with ⟨m, hm1, hm2, hm3, rfl, hq⟩ | ⟨hq, hb⟩
  · rw [hq]
    have hs := h.2.1
    have h5 : okV (wE w) (z5V (wV w)) := ok_5 (ok_5 (ok_5 (ok_5 (ok_5 ho.2.1))))
    have hv := ok_hrs (v := z5V (wV w)) ho.1 h5 m (by show wV w 0 4 + m < 2 ^ 30; have := ho.2.2; omega)
    have hp := pt_hrs (e := wE w) (v := z5V (wV w)) m
    have hz : ptN (wE w) (z5V (wV w)) = ptN (wE w) (wV w) := (pt_n (by decide) (by decide) (by decide)).trans ((pt_n (by decide) (by decide) (by decide)).trans ((pt_n (by decide) (by decide) (by decide)).trans ((pt_n (by decide) (by decide) (by decide)).trans (pt_n (by decide) (by decide) (by decide)))))
    have hc : okS (wE w) (k + 1) (wX w).1 (hvV w m) := okS_pt.mpr ⟨hv.1, by have h4 : hvV w m 0 4 = wV w 0 4 + m := hv.2; have := hs.2.1; omega, by have := (okS_pt.mp hs).2.2; have : ptN (wE w) (hvV w m) ≤ ptN (wE w) (wV w) := hz ▸ hp; omega⟩
    have hb : ¬ nI (hvV w m 0 0) < 0 := (nI_m1 (by have := hv.1.1; have := ho.fb; show hvV w m 0 0 < _; unfold hvV; omega)).2
    have y := h.act (c := (nI (hvV w m 0 0), hvV w m)) hc
    unfold a_act at y
    dsimp only at y
    rw [if_neg hb] at y
    obtain ⟨a, b, x, d, e, f, g, i⟩ := y
    exact ⟨a, b, x, by show 3 ≤ 37; decide, e, f, g, i⟩
  · rw [hq]
    exact h.up
theorem pt_3 {e : xe} {v : sv} {j x : Nat} : ptN e (upv v 3 j x) ≤ ptN e v + 1 := by
  have := (gl_up (v := v) (j := j) (x := x) (eN e)).1
  have e2 : (upv v 3 j x) 0 2 = v 0 2 := rfl
  have e3 : (upv v 3 j x) 0 3 = v 0 3 := rfl
  unfold ptN
  omega
theorem okW.takes {k : Nat} {w : wv} {n : Int32} (h : okW k w) : okW (k + 1) (a_act w (c_takes w n)).2 := by
  refine h.act ?_
  have hs := h.2.1
  unfold c_takes
  rcases inN_c n (eN (wE w)) with ⟨m, hm, rfl, hq⟩ | ⟨hq, hb⟩
  · rw [hq]
    dsimp only
    have h9 := (hs.1.2.2.2.2.2.2 m hm).2.1
    by_cases z : wV w 3 m = 0
    · rw [if_pos z]; exact hs.up
    · rw [if_neg z]
      refine okS_pt.mpr ⟨ok_2 (ok_3 hs.1 (Nat.zero_le _)) (by omega), hs.up.2.1, ?_⟩
      have h1 := (okS_pt.mp hs).2.2
      have h2 : ptN (wE w) (upv (upv (wV w) 3 m 0) 2 m (wV w 2 m - 3)) = ptN (wE w) (upv (wV w) 3 m 0) := pt_n (by decide) (by omega) (by omega)
      have h3 := pt_3 (e := wE w) (v := wV w) (j := m) (x := 0)
      show ptN (wE w) (upv (upv (wV w) 3 m 0) 2 m (wV w 2 m - 3)) + _ ≤ _
      omega
  · rw [hq]; exact hs.up
theorem okW.prom {k : Nat} {w : wv} {a f n : Int32} (h : okW k w) : okW (k + 1) (a_act w (c_prom w a f n)).2 := by
  refine h.act ?_
  have hs := h.2.1
  have hu := hs.up
  unfold c_prom
  rcases inN_c a (eN (wE w)) with ⟨m, hm, rfl, hq1⟩ | ⟨hq1, hb1⟩
  · rcases inN_c f (eR (wE w) * eC (wE w)) with ⟨g, hg, rfl, hq2⟩ | ⟨hq2, hb2⟩
    · rcases rgN_c n 0 9 with ⟨z, hz1, hz2, hz3, rfl, hq3⟩ | ⟨hq3, hb3⟩
      · rw [hq1, hq2, hq3]
        dsimp only
        by_cases c1 : eK (wE w) m = 2
        · rw [if_pos c1]; exact hu
        · rw [if_neg c1]
          by_cases c2 : wV w 2 m = 0
          · rw [if_pos c2]; exact hu
          · rw [if_neg c2]
            refine okS_pt.mpr ⟨ok_4 (ok_3 hs.1 (by omega)) hz2, hu.2.1, ?_⟩
            have h1 := (okS_pt.mp hs).2.2
            have h2 : ptN (wE w) (pvV (wV w) m g z) = ptN (wE w) (upv (wV w) 3 m (g + 1)) := pt_n (by decide) (by omega) (by omega)
            have h3 := pt_3 (e := wE w) (v := wV w) (j := m) (x := g + 1)
            show ptN (wE w) (pvV (wV w) m g z) + _ ≤ _
            omega
      · rw [hq1, hq2, hq3]; exact hu
    · rw [hq1, hq2]; exact hu
  · rw [hq1]; exact hu
