/-! day: faults; the class. Printed by wip/whole. -/
/-- the fault in a text of a day, from place q on -/
def dyF (x : Nat × (Nat → Nat)) : Nat → Nat → Nat
  | 0, _ => 0
  | k + 1, q => if x.1 ≤ q then 0 else if 60 ≤ q ∨ akN x q = 0 then q + 1 else if 60 ≤ q + 1 ∨ dgN x (q + 1) < (if akN x q = 4 then 2 else 1) then q + 2 else if ¬ akN x q = 5 then dyF x k (q + 2) else if 60 ≤ q + 2 ∨ dgN x (q + 2) = 0 then q + 3 else if 60 ≤ q + 3 ∨ dgN x (q + 3) = 0 then q + 4 else if 60 ≤ q + 4 ∨ dgN x (q + 4) = 0 then q + 5 else dyF x k (q + 5)
section
variable {x : Nat × (Nat → Nat)} {k q : Nat}
theorem dy_1 (h : x.1 ≤ q) : dyF x (k + 1) q = 0 := if_pos h
theorem dy_2 (h : ¬ x.1 ≤ q) (h2 : 60 ≤ q ∨ akN x q = 0) : dyF x (k + 1) q = q + 1 := (if_neg h).trans (if_pos h2)
theorem dy_3 (h : ¬ x.1 ≤ q) (h2 : ¬ (60 ≤ q ∨ akN x q = 0)) (h3 : 60 ≤ q + 1 ∨ dgN x (q + 1) < (if akN x q = 4 then 2 else 1)) : dyF x (k + 1) q = q + 2 := (if_neg h).trans ((if_neg h2).trans (if_pos h3))
theorem dy_4 (h : ¬ x.1 ≤ q) (h2 : ¬ (60 ≤ q ∨ akN x q = 0)) (h3 : ¬ (60 ≤ q + 1 ∨ dgN x (q + 1) < (if akN x q = 4 then 2 else 1))) (h4 : ¬ akN x q = 5) : dyF x (k + 1) q = dyF x k (q + 2) := (if_neg h).trans ((if_neg h2).trans ((if_neg h3).trans (if_pos h4)))
theorem dy_5 (h : ¬ x.1 ≤ q) (h2 : ¬ (60 ≤ q ∨ akN x q = 0)) (h3 : ¬ (60 ≤ q + 1 ∨ dgN x (q + 1) < (if akN x q = 4 then 2 else 1))) (h4 : akN x q = 5) (h5 : 60 ≤ q + 2 ∨ dgN x (q + 2) = 0) : dyF x (k + 1) q = q + 3 := (if_neg h).trans ((if_neg h2).trans ((if_neg h3).trans ((if_neg (nnN h4)).trans (if_pos h5))))
theorem dy_6 (h : ¬ x.1 ≤ q) (h2 : ¬ (60 ≤ q ∨ akN x q = 0)) (h3 : ¬ (60 ≤ q + 1 ∨ dgN x (q + 1) < (if akN x q = 4 then 2 else 1))) (h4 : akN x q = 5) (h5 : ¬ (60 ≤ q + 2 ∨ dgN x (q + 2) = 0)) (h6 : 60 ≤ q + 3 ∨ dgN x (q + 3) = 0) : dyF x (k + 1) q = q + 4 := (if_neg h).trans ((if_neg h2).trans ((if_neg h3).trans ((if_neg (nnN h4)).trans ((if_neg h5).trans (if_pos h6)))))
theorem dy_7 (h : ¬ x.1 ≤ q) (h2 : ¬ (60 ≤ q ∨ akN x q = 0)) (h3 : ¬ (60 ≤ q + 1 ∨ dgN x (q + 1) < (if akN x q = 4 then 2 else 1))) (h4 : akN x q = 5) (h5 : ¬ (60 ≤ q + 2 ∨ dgN x (q + 2) = 0)) (h6 : ¬ (60 ≤ q + 3 ∨ dgN x (q + 3) = 0)) (h7 : 60 ≤ q + 4 ∨ dgN x (q + 4) = 0) : dyF x (k + 1) q = q + 5 := (if_neg h).trans ((if_neg h2).trans ((if_neg h3).trans ((if_neg (nnN h4)).trans ((if_neg h5).trans ((if_neg h6).trans (if_pos h7))))))
theorem dy_8 (h : ¬ x.1 ≤ q) (h2 : ¬ (60 ≤ q ∨ akN x q = 0)) (h3 : ¬ (60 ≤ q + 1 ∨ dgN x (q + 1) < (if akN x q = 4 then 2 else 1))) (h4 : akN x q = 5) (h5 : ¬ (60 ≤ q + 2 ∨ dgN x (q + 2) = 0)) (h6 : ¬ (60 ≤ q + 3 ∨ dgN x (q + 3) = 0)) (h7 : ¬ (60 ≤ q + 4 ∨ dgN x (q + 4) = 0)) : dyF x (k + 1) q = dyF x k (q + 5) := (if_neg h).trans ((if_neg h2).trans ((if_neg h3).trans ((if_neg (nnN h4)).trans ((if_neg h5).trans ((if_neg h6).trans (if_neg h7))))))
/-- where act j begins, if the first begins at q -/
def pqN (x : Nat × (Nat → Nat)) (q : Nat) : Nat → Nat
  | 0 => q
  | j + 1 => pqN x q j + alN (akN x (pqN x q j))
theorem pq_s : ∀ j, pqN x q (j + 1) = pqN x (q + alN (akN x q)) j
  | 0 => rfl
  | j + 1 => by
    show pqN x q (j + 1) + alN (akN x (pqN x q (j + 1))) = pqN x (q + alN (akN x q)) j + alN (akN x (pqN x (q + alN (akN x q)) j))
    rw [pq_s j]
theorem pq_ge : ∀ j, q + 2 * j ≤ pqN x q j
  | 0 => Nat.le_refl _
  | j + 1 => by
    have := pq_ge j
    show _ ≤ pqN x q j + alN (akN x (pqN x q j))
    unfold alN
    split <;> omega
theorem dy_0 : ∀ k q, q ≤ x.1 → x.1 + 1 ≤ q + k → dyF x k q = 0 → ∃ J, pqN x q J = x.1 ∧ (∀ j, j < J → pqN x q j < x.1 ∧ acG x (pqN x q j)) ∧ (0 < J → x.1 ≤ 60)
  | 0, q, h1, h2, _ => by omega
  | k + 1, q, h1, h2, h => by
    by_cases c1 : x.1 ≤ q
    · exact ⟨0, by show q = x.1; omega, fun j hj => absurd hj (Nat.not_lt_zero j), fun hj => absurd hj (Nat.lt_irrefl 0)⟩
    · by_cases c2 : 60 ≤ q ∨ akN x q = 0
      · rw [dy_2 c1 c2] at h; omega
      · by_cases c3 : 60 ≤ q + 1 ∨ dgN x (q + 1) < (if akN x q = 4 then 2 else 1)
        · rw [dy_3 c1 c2 c3] at h; omega
        · have key : ∀ a, alN (akN x q) = a → acG x q → q + a ≤ 60 → q + a ≤ x.1 → dyF x k (q + a) = 0 → 2 ≤ a → ∃ J, pqN x q J = x.1 ∧ (∀ j, j < J → pqN x q j < x.1 ∧ acG x (pqN x q j)) ∧ (0 < J → x.1 ≤ 60) := by
            intro a ha hG h60 hx hd ha2
            obtain ⟨J, a1, a2, a3⟩ := dy_0 k (q + a) hx (by omega) hd
            refine ⟨J + 1, by rw [pq_s, ha]; exact a1, fun j hj => ?_, fun _ => ?_⟩
            · cases j with
              | zero => exact ⟨by show q < x.1; omega, hG⟩
              | succ j => rw [pq_s, ha]; exact a2 j (by omega)
            · cases J with
              | zero => have : q + a = x.1 := a1; omega
              | succ J => exact a3 (by omega)
          have g1 : (if akN x q = 4 then 2 else 1) ≤ dgN x (q + 1) := by omega
          have g1' : 1 ≤ dgN x (q + 1) := by split at g1 <;> omega
          by_cases c4 : akN x q = 5
          · by_cases c5 : 60 ≤ q + 2 ∨ dgN x (q + 2) = 0
            · rw [dy_5 c1 c2 c3 c4 c5] at h; omega
            · by_cases c6 : 60 ≤ q + 3 ∨ dgN x (q + 3) = 0
              · rw [dy_6 c1 c2 c3 c4 c5 c6] at h; omega
              · by_cases c7 : 60 ≤ q + 4 ∨ dgN x (q + 4) = 0
                · rw [dy_7 c1 c2 c3 c4 c5 c6 c7] at h; omega
                · rw [dy_8 c1 c2 c3 c4 c5 c6 c7] at h
                  have hl := (dg_le (x := x) (j := q + 4)).2.1 (by omega)
                  exact key 5 (if_pos c4) ⟨by omega, g1, fun _ => ⟨by omega, by omega, by omega⟩⟩ (by omega) (by omega) h (by omega)
          · rw [dy_4 c1 c2 c3 c4] at h
            have hl := (dg_le (x := x) (j := q + 1)).2.1 (by omega)
            exact key 2 (if_neg c4) ⟨by omega, g1, fun z => absurd z c4⟩ (by omega) (by omega) h (by omega)
theorem dy_le : ∀ k q, dyF x k q ≤ q + 5 * k + 5
  | 0, q => by show 0 ≤ _; omega
  | k + 1, q => by
    have i1 := dy_le k (q + 2)
    have i2 := dy_le k (q + 5)
    by_cases c1 : x.1 ≤ q
    · rw [dy_1 c1]; omega
    · by_cases c2 : 60 ≤ q ∨ akN x q = 0
      · rw [dy_2 c1 c2]; omega
      · by_cases c3 : 60 ≤ q + 1 ∨ dgN x (q + 1) < (if akN x q = 4 then 2 else 1)
        · rw [dy_3 c1 c2 c3]; omega
        · by_cases c4 : akN x q = 5
          · by_cases c5 : 60 ≤ q + 2 ∨ dgN x (q + 2) = 0
            · rw [dy_5 c1 c2 c3 c4 c5]; omega
            · by_cases c6 : 60 ≤ q + 3 ∨ dgN x (q + 3) = 0
              · rw [dy_6 c1 c2 c3 c4 c5 c6]; omega
              · by_cases c7 : 60 ≤ q + 4 ∨ dgN x (q + 4) = 0
                · rw [dy_7 c1 c2 c3 c4 c5 c6 c7]; omega
                · rw [dy_8 c1 c2 c3 c4 c5 c6 c7]; omega
          · rw [dy_4 c1 c2 c3 c4]; omega
end
def dyA (x : Nat × (Nat → Nat)) : Nat := dyF x 81 0
def opJ : Option Nat → Nat
  | none => 0
  | some j => j
/-- how many acts -/
def dyJ (x : Nat × (Nat → Nat)) : Nat := opJ (fstN (fun j => decide (pqN x 0 j = x.1)) 61 0)
theorem dyJ_c {x : Nat × (Nat → Nat)} (hX : okX x) (h : dyA x = 0) : pqN x 0 (dyJ x) = x.1 ∧ (∀ j, j < dyJ x → pqN x 0 j < x.1 ∧ acG x (pqN x 0 j)) ∧ (0 < dyJ x → x.1 ≤ 60) ∧ dyJ x ≤ 40 := by
  have hx := hX.1
  obtain ⟨J, a1, a2, a3⟩ := dy_0 81 0 (Nat.zero_le _) (by omega) h
  have hg := pq_ge (x := x) (q := 0) J
  have e : dyJ x = J := by
    unfold dyJ
    rw [fst_is 61 0 J (Nat.zero_le _) (by omega) (decide_eq_true a1) (fun j _ hj q => by have := (a2 j hj).1; have := of_decide_eq_true q; omega)]
    rfl
  rw [e]
  exact ⟨a1, a2, a3, by omega⟩
/-- the state behind j acts, and how many of them were done -/
def dyV (w : wv) : Nat → sv × Nat
  | 0 => (wV w, 0)
  | j + 1 => if (dyV w j).2 = j then ((acC (stV w (dyV w j).1) (wX w) (pqN (wX w) 0 j)).2, if (acC (stV w (dyV w j).1) (wX w) (pqN (wX w) 0 j)).1 < 0 then j else j + 1) else dyV w j
theorem dyV_y {w : wv} {j : Nat} (h : (dyV w j).2 = j) : dyV w (j + 1) = ((acC (stV w (dyV w j).1) (wX w) (pqN (wX w) 0 j)).2, if (acC (stV w (dyV w j).1) (wX w) (pqN (wX w) 0 j)).1 < 0 then j else j + 1) := if_pos h
theorem dyV_n {w : wv} {j : Nat} (h : ¬ (dyV w j).2 = j) : dyV w (j + 1) = dyV w j := if_neg h
theorem dyV_le {w : wv} : ∀ j, (dyV w j).2 ≤ j
  | 0 => Nat.le_refl _
  | j + 1 => by
    have := dyV_le (w := w) j
    by_cases c : (dyV w j).2 = j
    · rw [dyV_y c]; dsimp only; split <;> omega
    · rw [dyV_n c]; omega
/-- behind a refusal nothing is done -/
theorem dyV_st {w : wv} {j : Nat} (h : (dyV w j).2 < j) : ∀ k, dyV w (j + k) = dyV w j
  | 0 => rfl
  | k + 1 => by
    have ih := dyV_st h k
    show dyV w (j + k + 1) = _
    rw [dyV_n (by rw [ih]; omega), ih]
/-- what is sure behind an act -/
theorem ok_ac {w : wv} {x : Nat × (Nat → Nat)} {q : Nat} (ho : okQ w) (hG : acG x q) : okV (wE w) (acC w x q).2 ∧ (acC w x q).2 0 4 ≤ wV w 0 4 + 9 ∧ ptN (wE w) (acC w x q).2 ≤ ptN (wE w) (wV w) + (if akN x q = 5 then 1 else 0) := by
  have hv := ho.2.1
  have h8 := ho.n8
  have hh := ho.2.2
  have same : okV (wE w) (wV w) ∧ wV w 0 4 ≤ wV w 0 4 + 9 ∧ ptN (wE w) (wV w) ≤ ptN (wE w) (wV w) + (if akN x q = 5 then 1 else 0) := ⟨hv, by omega, by omega⟩
  have d1 := (dg_le (x := x) (j := q + 1)).1
  have hkl := ac_le (atN x q)
  have hk0 := hG.1
  rcases (show akN x q = 1 ∨ akN x q = 2 ∨ akN x q = 3 ∨ akN x q = 4 ∨ akN x q = 5 by unfold akN at hk0 ⊢; omega) with hk | hk | hk | hk | hk
  · rw [acC_1 hk]
    have h5 : okV (wE w) (z5V (wV w)) := ok_5 (ok_5 (ok_5 (ok_5 (ok_5 hv))))
    have h6 := ok_hrs (v := z5V (wV w)) ho.1 h5 (dgN x (q + 1) - 1) (by show wV w 0 4 + _ < 2 ^ 30; omega)
    have hp := pt_hrs (e := wE w) (v := z5V (wV w)) (dgN x (q + 1) - 1)
    have hz : ptN (wE w) (z5V (wV w)) = ptN (wE w) (wV w) := pt_e5 z5_e5
    refine ⟨h6.1, ?_, ?_⟩
    · have : hvV w (dgN x (q + 1) - 1) 0 4 = wV w 0 4 + (dgN x (q + 1) - 1) := h6.2
      show hvV w (dgN x (q + 1) - 1) 0 4 ≤ _
      omega
    · show ptN (wE w) (hvV w (dgN x (q + 1) - 1)) ≤ _
      have : ptN (wE w) (hvV w (dgN x (q + 1) - 1)) ≤ ptN (wE w) (z5V (wV w)) := hp
      omega
  · rw [acC_2 hk]
    unfold c_takes
    rcases inN_c (nI (dgN x (q + 1) - 1)) (eN (wE w)) with ⟨m, hm, _, hq⟩ | ⟨hq, hb⟩
    · rw [hq]
      dsimp only
      by_cases z : wV w 3 m = 0
      · rw [if_pos z]; exact same
      · rw [if_neg z]
        have h9 := (hv.2.2.2.2.2.2 m hm).2.1
        refine ⟨ok_2 (ok_3 hv (Nat.zero_le _)) (by omega), by show wV w 0 4 ≤ _; omega, ?_⟩
        have h2 : ptN (wE w) (upv (upv (wV w) 3 m 0) 2 m (wV w 2 m - 3)) = ptN (wE w) (upv (wV w) 3 m 0) := pt_n (by decide) (by omega) (by omega)
        have h3 := gl_0 (v := wV w) (j := m) (eN (wE w)) hm z
        show ptN (wE w) (upv (upv (wV w) 3 m 0) 2 m (wV w 2 m - 3)) ≤ _
        rw [h2]
        have h4 : ptN (wE w) (upv (wV w) 3 m 0) = wV w 0 2 + wV w 0 3 + glN (upv (wV w) 3 m 0) (eN (wE w)) := rfl
        have h5 : ptN (wE w) (wV w) = wV w 0 2 + wV w 0 3 + glN (wV w) (eN (wE w)) := rfl
        omega
    · rw [hq]; exact same
  · rw [acC_3 hk]
    unfold c_lets
    rcases inN_c (nI (dgN x (q + 1) - 1)) (eN (wE w)) with ⟨m, hm, _, hq⟩ | ⟨hq, hb⟩
    · rw [hq]
      refine ⟨ok_05 hv (hx_lt hv.2.2.2.2.2.1 (by omega)), by show wV w 0 4 ≤ _; omega, ?_⟩
      show ptN (wE w) (upv (wV w) 0 5 (wV w 0 5 ^^^ 2 ^ m)) ≤ _
      rw [pt_n (by decide) (by decide) (by decide)]; omega
    · rw [hq]; exact same
  · rw [acC_4 hk]
    unfold c_buys
    cases rgN (nI (dgN x (q + 1) - 1)) 1 99 with
    | none => exact same
    | some m =>
      dsimp only
      by_cases z : wV w 0 1 + m ≤ 99
      · rw [if_pos z]
        refine ⟨ok_01 hv z, by show wV w 0 4 ≤ _; omega, ?_⟩
        show ptN (wE w) (upv (wV w) 0 1 (wV w 0 1 + m)) ≤ _
        rw [pt_n (by decide) (by decide) (by decide)]; omega
      · rw [if_neg z]; exact same
  · rw [acC_5 hk, if_pos hk]
    rw [if_pos hk] at same
    unfold acP
    split
    · unfold c_prom
      rcases inN_c (nI (dgN x (q + 1) - 1)) (eN (wE w)) with ⟨m, hm, _, hq1⟩ | ⟨hq1, hb1⟩
      · rcases inN_c (nI ((dgN x (q + 2) - 1) * eC (wE w) + (dgN x (q + 3) - 1))) (eR (wE w) * eC (wE w)) with ⟨g, hg, _, hq2⟩ | ⟨hq2, hb2⟩
        · rcases rgN_c (nI (dgN x (q + 4) - 1)) 0 9 with ⟨z, hz1, hz2, hz3, _, hq3⟩ | ⟨hq3, hb3⟩
          · rw [hq1, hq2, hq3]
            dsimp only
            by_cases c1 : eK (wE w) m = 2
            · rw [if_pos c1]; exact same
            · rw [if_neg c1]
              by_cases c2 : wV w 2 m = 0
              · rw [if_pos c2]; exact same
              · rw [if_neg c2]
                refine ⟨ok_4 (ok_3 hv (by omega)) hz2, by show wV w 0 4 ≤ _; omega, ?_⟩
                have h2 : ptN (wE w) (pvV (wV w) m g z) = ptN (wE w) (upv (wV w) 3 m (g + 1)) := pt_n (by decide) (by omega) (by omega)
                have h3 := pt_3 (e := wE w) (v := wV w) (j := m) (x := g + 1)
                show ptN (wE w) (pvV (wV w) m g z) ≤ _
                omega
          · rw [hq1, hq2, hq3]; exact same
        · rw [hq1, hq2]; exact same
      · rw [hq1]; exact same
    · exact same
/-- what is sure behind some acts -/
theorem ok_dyV {w : wv} (ho : okQ w) (hh : wV w 0 4 + 1000 < 2 ^ 29) (hX : okX (wX w)) (hA : dyA (wX w) = 0) : ∀ j, j ≤ dyJ (wX w) → okQ (stV w (dyV w j).1) ∧ (dyV w j).1 0 4 ≤ wV w 0 4 + 9 * j ∧ 5 * ptN (wE w) (dyV w j).1 ≤ 5 * ptN (wE w) (wV w) + pqN (wX w) 0 j
  | 0, _ => ⟨ho, Nat.le_refl _, by show 5 * ptN (wE w) (wV w) ≤ _; omega⟩
  | j + 1, hj => by
    obtain ⟨b1, b2, b3, b4⟩ := dyJ_c hX hA
    obtain ⟨h1, h2, h3⟩ := ok_dyV ho hh hX hA j (by omega)
    have hs : pqN (wX w) 0 (j + 1) = pqN (wX w) 0 j + alN (akN (wX w) (pqN (wX w) 0 j)) := rfl
    by_cases c : (dyV w j).2 = j
    · obtain ⟨g1, g2, g3⟩ := ok_ac h1 (b2 j (by omega)).2
      rw [dyV_y c]
      refine ⟨⟨ho.1, g1, ?_⟩, ?_, ?_⟩
      · show (acC (stV w (dyV w j).1) (wX w) (pqN (wX w) 0 j)).2 0 4 < _
        have : (acC (stV w (dyV w j).1) (wX w) (pqN (wX w) 0 j)).2 0 4 ≤ (dyV w j).1 0 4 + 9 := g2
        omega
      · have : (acC (stV w (dyV w j).1) (wX w) (pqN (wX w) 0 j)).2 0 4 ≤ (dyV w j).1 0 4 + 9 := g2
        show (acC (stV w (dyV w j).1) (wX w) (pqN (wX w) 0 j)).2 0 4 ≤ _
        omega
      · have g3' : ptN (wE w) (acC (stV w (dyV w j).1) (wX w) (pqN (wX w) 0 j)).2 ≤ ptN (wE w) (dyV w j).1 + (if akN (wX w) (pqN (wX w) 0 j) = 5 then 1 else 0) := g3
        show 5 * ptN (wE w) (acC (stV w (dyV w j).1) (wX w) (pqN (wX w) 0 j)).2 ≤ _
        rw [hs]
        unfold alN
        split at g3' <;> rename_i z
        · rw [if_pos z]; omega
        · rw [if_neg z]; omega
    · rw [dyV_n c]
      refine ⟨h1, by omega, ?_⟩
      rw [hs]; omega
def dyW (w : wv) (v : sv) (n : Nat) : wv := if n = 0 then stV (txC w) v else stU (stV (txC w) v) (wV w)
def a_day (w : wv) : Int32 × wv := if dyA (wX w) = 0 then (nI (dyV w (dyJ (wX w))).2, stD (dyW w (dyV w (dyJ (wX w))).1 (dyV w (dyJ (wX w))).2) (some [(if (dyV w (dyJ (wX w))).2 < dyJ (wX w) then 1 else 0), (nI ((dyV w (dyJ (wX w))).1 0 0)).toInt64])) else ((-1) - nI (dyA (wX w) - 1), txC w)
set_option maxHeartbeats 4000000 in
theorem x_dayF_in {l : xLa} {d : Nat} {σ : xs} {x : Nat × (Nat → Nat)} (hx : XT σ x) (hX : okX x) {L : Nat} {y2 y3 : Int32} {Q : Option Value → xs → Prop} (hL : L ≤ 1) : ∀ (m pp : Nat), m ≤ 4 → pp ≤ 100 → (hk : (∀ i, 1 ≤ i → i ≤ m → ¬ (60 ≤ pp + i ∨ dgN x (pp + i) < L + 1)) → T l M_X_dayFault (d + 10) 91 [some (.ref 0), some (.int (nI (pp + m))), some (.int y2), some (.int y3), some (.int (nI L)), some (.int (nI 0))] [] σ Q) → (hf : ∀ i, 1 ≤ i → i ≤ m → (∀ j, 1 ≤ j → j < i → ¬ (60 ≤ pp + j ∨ dgN x (pp + j) < L + 1)) → (60 ≤ pp + i ∨ dgN x (pp + i) < L + 1) → Q (some (.int (nI (pp + i)))) σ) → T l M_X_dayFault (d + 10) 56 [some (.ref 0), some (.int (nI pp)), some (.int y2), some (.int y3), some (.int (nI L)), some (.int (nI m))] [] σ Q := by
  have hx1 := hX.1
  intro m
  induction m with
  | zero =>
    intro pp hm hp hk hf
    refine tt_iload d_X_dayFault_56 rfl ?_
    refine tn_if_le (t := 91) (by omega) d_X_dayFault_58 (by decide) (fun c_58 => ?_) (fun c_58 => ?_)
    · exact hk (fun i h1 h2 => by omega)
    · omega
  | succ m ih =>
    intro pp hm hp hk hf
    have d1 := (dg_le (x := x) (j := pp + 1)).1
    refine tt_iload d_X_dayFault_56 rfl ?_
    refine tn_if_le (t := 91) (by omega) d_X_dayFault_58 (by decide) (fun c_58 => ?_) (fun c_58 => ?_)
    · omega
    · refine tt_iinc (lv2 := [_, _, _, _, _, _]) d_X_dayFault_61 rfl (nI_inc _ 1) (by decide) rfl ?_
      refine tt_iload_n d_X_dayFault_64 rfl ?_
      refine tt_bipush (v := nI 60) d_X_dayFault_65 (by decide) ?_
      refine tn_ic_ge (t := 83) (by omega) (by omega) d_X_dayFault_67 (by decide) (fun c_67 => ?_) (fun c_67 => ?_)
      · have hb : 60 ≤ pp + 1 ∨ dgN x (pp + 1) < L + 1 := Or.inl c_67
        refine tt_iload_n d_X_dayFault_83 rfl ?_
        refine tt_iret rfl d_X_dayFault_84 ?_
        exact hf 1 (by omega) (by omega) (fun j h1 h2 => by omega) hb
      · refine tt_aload_n d_X_dayFault_70 rfl ?_
        refine tt_getR d_X_dayFault_71 rfl rfl (by decide) rfl rfl ?_
        refine tt_iload_n d_X_dayFault_74 rfl ?_
        refine tt_callV (x_Text_digit (d := d) (n := x.1) (j := pp + 1) hx.1 hX.1 (by omega)) cw_Text_digit rfl rfl (by decide) rfl (by omega) d_X_dayFault_75 rfl rfl (Nat.le_of_ble_eq_true rfl) (Nat.le_of_ble_eq_true rfl) rfl rfl rfl (fun v σ2 q => ?_)
        obtain ⟨rfl, e9⟩ := q
        rw [e9, X_dig_N hx hX]
        clear e9
        refine tt_iload d_X_dayFault_78 rfl ?_
        refine tt_ic_ge (t := 85) d_X_dayFault_80 (by decide) (fun c_80 => ?_) (fun c_80 => ?_)
        · have hb : ¬ (60 ≤ pp + 1 ∨ dgN x (pp + 1) < L + 1) := by have := (gI_leN (a := L + 1) (b := dgN x (pp + 1)) (by omega) (by omega)).mp c_80; omega
          refine tt_iinc (lv2 := [_, _, _, _, _, _]) d_X_dayFault_85 rfl (nI_dec (by omega)) (by decide) rfl ?_
          refine tt_goto (t := 56) d_X_dayFault_88 (by decide) ?_
          rw [Nat.add_sub_cancel]
          refine ih (pp + 1) (by omega) (by omega) (fun hall => ?_) (fun i h1 h2 hall hbad => ?_)
          · have := hk (fun i h1 h2 => by
              by_cases c : i = 1
              · rw [c]; exact hb
              · have := hall (i - 1) (by omega) (by omega)
                rw [show pp + 1 + (i - 1) = pp + i by omega] at this
                exact this)
            rw [show pp + (m + 1) = pp + 1 + m by omega] at this
            exact this
          · have := hf (i + 1) (by omega) (by omega) (fun j g1 g2 => by
              by_cases c : j = 1
              · rw [c]; exact hb
              · have := hall (j - 1) (by omega) (by omega)
                rw [show pp + 1 + (j - 1) = pp + j by omega] at this
                exact this) (by rw [show pp + (i + 1) = pp + 1 + i by omega]; exact hbad)
            rw [show pp + (i + 1) = pp + 1 + i by omega] at this
            exact this
        · have hb : 60 ≤ pp + 1 ∨ dgN x (pp + 1) < L + 1 := Or.inr (Decidable.byContradiction (fun z => c_80 ((gI_leN (a := L + 1) (b := dgN x (pp + 1)) (by omega) (by omega)).mpr (by omega))))
          refine tt_iload_n d_X_dayFault_83 rfl ?_
          refine tt_iret rfl d_X_dayFault_84 ?_
          exact hf 1 (by omega) (by omega) (fun j h1 h2 => by omega) hb

theorem db_c {k : Nat} (h : ¬ k = 0) : dbN k = alN k ∧ (¬ k = 5 → alN k = 2) ∧ (k = 5 → alN k = 5) := by
  unfold dbN alN
  rw [if_neg h]
  by_cases c : k = 5
  · rw [if_pos c]; exact ⟨rfl, fun q => absurd c q, fun _ => rfl⟩
  · rw [if_neg c]; exact ⟨rfl, fun _ => rfl, fun q => absurd q c⟩
