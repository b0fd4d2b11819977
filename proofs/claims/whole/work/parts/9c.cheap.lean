/-! Questions: cheapest. Printed by wip/whole. -/
/-- the cheapest of the crumbs below c: what it costs, crumbs, the set plus 1 -/
def chS (w : wv) (f n : Nat) : Nat → Nat × Nat × Nat
  | 0 => (1000000, 0, 0)
  | c + 1 => if ¬ feN (arB w f c n) (abW w) = 0 ∧ c * pcN (feN (arB w f c n) (abW w) - 1) < (chS w f n c).1 then (c * pcN (feN (arB w f c n) (abW w) - 1), c, feN (arB w f c n) (abW w)) else chS w f n c
/-- the same where of the sets for c crumbs those below i were tried -/
def chI (w : wv) (f n c i : Nat) : Nat × Nat × Nat := if ¬ fwN (arB w f c n) (abW w) i = 0 ∧ c * pcN (fwN (arB w f c n) (abW w) i - 1) < (chS w f n c).1 then (c * pcN (fwN (arB w f c n) (abW w) i - 1), c, fwN (arB w f c n) (abW w) i) else chS w f n c
abbrev btJ (c i : Nat) (t : Nat × Nat × Nat) : Prop := c * pcN i < t.1 ∨ (c * pcN i = t.1 ∧ c = t.2.1 ∧ (t.2.2 = 0 ∨ pcN i < pcN (t.2.2 - 1)))
def chA : Nat × Nat × Nat → Int32 × Option (List Int64) := fun t => if t.2.2 = 0 then (-2, none) else (nI t.1, some [(nI t.2.1).toInt64, (nI (t.2.2 - 1)).toInt64])
def q_cheapest (w : wv) (f n : Int32) : Int32 × Option (List Int64) := match inN f (eR (wE w) * eC (wE w)), rgN n 1 20 with
  | some f, some n => chA (chS w f n 10)
  | _, _ => (-1, none)
theorem m72 {c i : Nat} (hc : c ≤ 9) : c * pcN i ≤ 72 := Nat.mul_le_mul hc (pcN_le i)
section
variable {w : wv} {f n : Nat}
theorem ch_c (ho : okQ w) : ∀ c, c ≤ 10 → ((chS w f n c).2.2 = 0 → chS w f n c = (1000000, 0, 0)) ∧ (¬ (chS w f n c).2.2 = 0 → (chS w f n c).1 ≤ 72 ∧ (chS w f n c).2.1 < c ∧ (chS w f n c).2.2 ≤ abW w + 1)
  | 0, _ => ⟨fun _ => rfl, fun h => absurd rfl h⟩
  | c + 1, hc => by
    have ih := ch_c ho c (by omega)
    show ((if ¬ feN (arB w f c n) (abW w) = 0 ∧ c * pcN (feN (arB w f c n) (abW w) - 1) < (chS w f n c).1 then (c * pcN (feN (arB w f c n) (abW w) - 1), c, feN (arB w f c n) (abW w)) else chS w f n c).2.2 = 0 → (if ¬ feN (arB w f c n) (abW w) = 0 ∧ c * pcN (feN (arB w f c n) (abW w) - 1) < (chS w f n c).1 then (c * pcN (feN (arB w f c n) (abW w) - 1), c, feN (arB w f c n) (abW w)) else chS w f n c) = _) ∧ (¬ (if ¬ feN (arB w f c n) (abW w) = 0 ∧ c * pcN (feN (arB w f c n) (abW w) - 1) < (chS w f n c).1 then (c * pcN (feN (arB w f c n) (abW w) - 1), c, feN (arB w f c n) (abW w)) else chS w f n c).2.2 = 0 → (if ¬ feN (arB w f c n) (abW w) = 0 ∧ c * pcN (feN (arB w f c n) (abW w) - 1) < (chS w f n c).1 then (c * pcN (feN (arB w f c n) (abW w) - 1), c, feN (arB w f c n) (abW w)) else chS w f n c).1 ≤ 72 ∧ (if ¬ feN (arB w f c n) (abW w) = 0 ∧ c * pcN (feN (arB w f c n) (abW w) - 1) < (chS w f n c).1 then (c * pcN (feN (arB w f c n) (abW w) - 1), c, feN (arB w f c n) (abW w)) else chS w f n c).2.1 < c + 1 ∧ (if ¬ feN (arB w f c n) (abW w) = 0 ∧ c * pcN (feN (arB w f c n) (abW w) - 1) < (chS w f n c).1 then (c * pcN (feN (arB w f c n) (abW w) - 1), c, feN (arB w f c n) (abW w)) else chS w f n c).2.2 ≤ abW w + 1)
    split
    · rename_i q
      refine ⟨fun z => absurd z q.1, fun _ => ⟨m72 (by omega), by show c < c + 1; omega, ?_⟩⟩
      show feN (arB w f c n) (abW w) ≤ _
      cases hF : feN (arB w f c n) (abW w) with
      | zero => omega
      | succ s => have := (fe_s hF).1; omega
    · exact ⟨ih.1, fun z => by have := ih.2 z; exact ⟨this.1, by omega, this.2.2⟩⟩
theorem ch_b (ho : okQ w) {c : Nat} (hc : c ≤ 10) : (chS w f n c).1 ≤ 1000000 ∧ (chS w f n c).2.1 ≤ 10 ∧ (chS w f n c).2.2 ≤ 256 := by
  have h := ch_c (f := f) (n := n) ho c hc
  have hab : abW w < 256 := ab_lt ho (Nat.le_refl _)
  by_cases q : (chS w f n c).2.2 = 0
  · rw [h.1 q]; exact ⟨Nat.le_refl _, Nat.zero_le _, Nat.zero_le _⟩
  · have := h.2 q; omega
/-- with the room that is left -/
theorem ch_s (ho : okQ w) {c room : Nat} (hc : c ≤ 9) (hr : (room = 8 ∧ (chS w f n c).2.2 = 0) ∨ (1 ≤ c ∧ 1 ≤ (chS w f n c).1 ∧ room = ((chS w f n c).1 - 1) / c)) : chS w f n (c + 1) = if rmN (arB w f c n) (abW w) room = 0 then chS w f n c else (c * pcN (rmN (arB w f c n) (abW w) room - 1), c, rmN (arB w f c n) (abW w) room) := by
  have h := ch_c (f := f) (n := n) ho c (by omega)
  have key : ¬ feN (arB w f c n) (abW w) = 0 → (room < pcN (feN (arB w f c n) (abW w) - 1) ↔ ¬ c * pcN (feN (arB w f c n) (abW w) - 1) < (chS w f n c).1) := by
    intro _
    have hp := pcN_le (feN (arB w f c n) (abW w) - 1)
    have hm := m72 (i := feN (arB w f c n) (abW w) - 1) hc
    rcases hr with ⟨r1, r2⟩ | ⟨r1, r2, r3⟩
    · rw [h.1 r2]
      constructor
      · intro; omega
      · intro q; exact absurd (show c * pcN (feN (arB w f c n) (abW w) - 1) < 1000000 by omega) q
    · have q := Nat.le_div_iff_mul_le (k := c) (x := pcN (feN (arB w f c n) (abW w) - 1)) (y := (chS w f n c).1 - 1) (by omega)
      rw [Nat.mul_comm] at q
      rw [r3]
      omega
  show (if ¬ feN (arB w f c n) (abW w) = 0 ∧ c * pcN (feN (arB w f c n) (abW w) - 1) < (chS w f n c).1 then (c * pcN (feN (arB w f c n) (abW w) - 1), c, feN (arB w f c n) (abW w)) else chS w f n c) = _
  unfold rmN
  by_cases z : feN (arB w f c n) (abW w) = 0
  · rw [if_neg (fun y => y.1 z), if_pos (if_pos (Or.inl z))]
  · by_cases y : room < pcN (feN (arB w f c n) (abW w) - 1)
    · rw [if_neg (fun x => (key z).mp y x.2), if_pos (if_pos (Or.inr y))]
    · rw [if_pos ⟨z, Decidable.byContradiction (fun x => y ((key z).mpr x))⟩, if_neg (c := feN (arB w f c n) (abW w) = 0 ∨ room < pcN (feN (arB w f c n) (abW w) - 1)) (by omega), if_neg z]
theorem ch_z {c : Nat} (h : (chS w f n c).1 = 0) : ∀ k, chS w f n (c + k) = chS w f n c
  | 0 => rfl
  | k + 1 => by
    have ih := ch_z h k
    show (if ¬ feN (arB w f (c + k) n) (abW w) = 0 ∧ (c + k) * pcN (feN (arB w f (c + k) n) (abW w) - 1) < (chS w f n (c + k)).1 then _ else chS w f n (c + k)) = _
    rw [ih, h, if_neg (fun y => absurd y.2 (Nat.not_lt_zero _))]
theorem ch_1 (hA : ∀ c s, arB w f c n s = arB w f 0 n s) : ∀ k, chS w f n (1 + k) = chS w f n 1
  | 0 => rfl
  | k + 1 => by
    have ih := ch_1 hA k
    have e : feN (arB w f (1 + k) n) (abW w) = feN (arB w f 0 n) (abW w) := fw_c (fun t _ => hA _ t) _
    show (if ¬ feN (arB w f (1 + k) n) (abW w) = 0 ∧ (1 + k) * pcN (feN (arB w f (1 + k) n) (abW w) - 1) < (chS w f n (1 + k)).1 then _ else chS w f n (1 + k)) = _
    rw [ih]
    by_cases z : feN (arB w f 0 n) (abW w) = 0
    · rw [if_neg (fun y => y.1 (e.trans z))]
    · have h1 : chS w f n 1 = (0 * pcN (feN (arB w f 0 n) (abW w) - 1), 0, feN (arB w f 0 n) (abW w)) := if_pos ⟨z, by show 0 * _ < 1000000; rw [Nat.zero_mul]; omega⟩
      rw [if_neg (fun y => by have := y.2; rw [h1] at this; simp at this)]
theorem ci_0 {c : Nat} : chI w f n c 0 = chS w f n c := if_neg (fun y => y.1 rfl)
theorem ci_e {c : Nat} : chI w f n c (abW w + 1) = chS w f n (c + 1) := rfl
theorem ci_s (ho : okQ w) {c i : Nat} (hc : c ≤ 9) : chI w f n c (i + 1) = if (dfN i (abW w) = 0 ∧ btJ c i (chI w f n c i)) ∧ arB w f c n i = true then (c * pcN i, c, i + 1) else chI w f n c i := by
  have h := ch_c (f := f) (n := n) ho c (by omega)
  have hm := m72 (i := i) hc
  by_cases ca : dfN i (abW w) = 0 ∧ arB w f c n i = true
  · by_cases cb : fwN (arB w f c n) (abW w) i = 0 ∨ pcN i < pcN (fwN (arB w f c n) (abW w) i - 1)
    · have e := fw_y ca.1 cb ca.2
      have e2 : chI w f n c (i + 1) = if c * pcN i < (chS w f n c).1 then (c * pcN i, c, i + 1) else chS w f n c := by
        unfold chI
        rw [← e, Nat.add_sub_cancel]
        by_cases q : c * pcN i < (chS w f n c).1
        · rw [if_pos ⟨by omega, q⟩, if_pos q]
        · rw [if_neg (fun y => q y.2), if_neg q]
      rw [e2]
      by_cases cs : ¬ fwN (arB w f c n) (abW w) i = 0 ∧ c * pcN (fwN (arB w f c n) (abW w) i - 1) < (chS w f n c).1
      · have e3 : chI w f n c i = (c * pcN (fwN (arB w f c n) (abW w) i - 1), c, fwN (arB w f c n) (abW w) i) := if_pos cs
        have hlt : pcN i < pcN (fwN (arB w f c n) (abW w) i - 1) := cb.resolve_left cs.1
        have hle : c * pcN i ≤ c * pcN (fwN (arB w f c n) (abW w) i - 1) := Nat.mul_le_mul_left c (by omega)
        have hbt : btJ c i (chI w f n c i) := by
          rw [e3]
          show c * pcN i < c * pcN (fwN (arB w f c n) (abW w) i - 1) ∨ (c * pcN i = c * pcN (fwN (arB w f c n) (abW w) i - 1) ∧ c = c ∧ (fwN (arB w f c n) (abW w) i = 0 ∨ pcN i < pcN (fwN (arB w f c n) (abW w) i - 1)))
          by_cases q : c * pcN i = c * pcN (fwN (arB w f c n) (abW w) i - 1)
          · exact Or.inr ⟨q, rfl, Or.inr hlt⟩
          · exact Or.inl (by omega)
        rw [if_pos (by omega), if_pos ⟨⟨ca.1, hbt⟩, ca.2⟩]
      · have e3 : chI w f n c i = chS w f n c := if_neg cs
        rw [e3]
        have hb : btJ c i (chS w f n c) ↔ c * pcN i < (chS w f n c).1 := by
          refine ⟨fun q => ?_, fun q => Or.inl q⟩
          rcases q with q | ⟨q1, q2, q3⟩
          · exact q
          · by_cases z : (chS w f n c).2.2 = 0
            · rw [h.1 z] at q1 ⊢
              show c * pcN i < 1000000
              omega
            · have := h.2 z; omega
        by_cases q : c * pcN i < (chS w f n c).1
        · rw [if_pos q, if_pos ⟨⟨ca.1, hb.mpr q⟩, ca.2⟩]
        · rw [if_neg q, if_neg (fun y => q (hb.mp y.1.2))]
    · have e := fw_n (A := arB w f c n) (P := abW w) (i := i) (fun y => cb y.1.2)
      have e2 : chI w f n c (i + 1) = chI w f n c i := by unfold chI; rw [← e]
      rw [e2, if_neg (fun y => ?_)]
      have hb := y.1.2
      by_cases cs : ¬ fwN (arB w f c n) (abW w) i = 0 ∧ c * pcN (fwN (arB w f c n) (abW w) i - 1) < (chS w f n c).1
      · have e3 : chI w f n c i = (c * pcN (fwN (arB w f c n) (abW w) i - 1), c, fwN (arB w f c n) (abW w) i) := if_pos cs
        rw [e3] at hb
        have hle : c * pcN (fwN (arB w f c n) (abW w) i - 1) ≤ c * pcN i := Nat.mul_le_mul_left c (by omega)
        rcases hb with q | ⟨q1, q2, q3⟩
        · have : c * pcN i < c * pcN (fwN (arB w f c n) (abW w) i - 1) := q; omega
        · exact cb q3
      · have e3 : chI w f n c i = chS w f n c := if_neg cs
        rw [e3] at hb
        have hle : c * pcN (fwN (arB w f c n) (abW w) i - 1) ≤ c * pcN i := Nat.mul_le_mul_left c (by omega)
        have h2 : ¬ c * pcN (fwN (arB w f c n) (abW w) i - 1) < (chS w f n c).1 := fun q => cs ⟨by omega, q⟩
        rcases hb with q | ⟨q1, q2, q3⟩
        · omega
        · by_cases z : (chS w f n c).2.2 = 0
          · rw [h.1 z] at q1
            have : c * pcN i = 1000000 := q1
            omega
          · have := h.2 z; omega
  · have e := fw_n (A := arB w f c n) (P := abW w) (i := i) (fun y => ca ⟨y.1.1, y.2⟩)
    have e2 : chI w f n c (i + 1) = chI w f n c i := by unfold chI; rw [← e]
    rw [e2, if_neg (fun y => ca ⟨y.1.1, y.2⟩)]
theorem ci_b (ho : okQ w) {c i : Nat} (hc : c ≤ 9) (hi : i ≤ abW w + 1) : (chI w f n c i).1 ≤ 1000000 ∧ (chI w f n c i).2.1 ≤ 10 ∧ (chI w f n c i).2.2 ≤ 256 := by
  have hab : abW w < 256 := ab_lt ho (Nat.le_refl _)
  unfold chI
  split
  · rename_i q
    refine ⟨by have := m72 (i := fwN (arB w f c n) (abW w) i - 1) hc; show c * _ ≤ _; omega, by show c ≤ 10; omega, ?_⟩
    show fwN (arB w f c n) (abW w) i ≤ 256
    cases hF : fwN (arB w f c n) (abW w) i with
    | zero => omega
    | succ s => have := (fw_s _ s hF).1; omega
  · exact ch_b ho (by omega)
end
/-- what the class has of it -/
def chB (t : Nat × Nat × Nat) : Int32 := if t.2.2 = 0 then -1 else nI t.1
theorem chB_c {t : Nat × Nat × Nat} (h : t.1 ≤ 1000000) : (chB t = -1 ↔ t.2.2 = 0) ∧ (¬ t.2.2 = 0 → chB t = nI t.1) ∧ (chB t = 0 ↔ ¬ t.2.2 = 0 ∧ t.1 = 0) := by
  unfold chB
  by_cases c : t.2.2 = 0
  · rw [if_pos c]
    exact ⟨⟨fun _ => c, fun _ => rfl⟩, fun q => absurd c q, ⟨fun q => absurd q (by decide), fun q => absurd c q.1⟩⟩
  · rw [if_neg c]
    refine ⟨⟨fun q => absurd q (nI_n1 (by omega)), fun q => absurd q c⟩, fun _ => rfl, ⟨fun q => ⟨c, ?_⟩, fun q => by rw [q.2]; rfl⟩⟩
    have := congrArg Int32.toInt q
    rw [nI_toInt (by omega)] at this
    have e : (0 : Int32).toInt = 0 := rfl
    omega
theorem as_s {P : Nat → Prop} {i : Nat} (h : ∀ j, j < i → P j) (h1 : P i) : ∀ j, j < i + 1 → P j := fun j hj => by
  by_cases q : j = i
  · rw [q]; exact h1
  · exact h j (by omega)
/-- whether the rule asks for crumbs -/
def asB (e : xe) : Bool := (List.range (eM e)).any (fun i => decide (eW e i = 1002))
theorem asB_f {e : xe} : asB e = false ↔ ∀ i, i < eM e → ¬ eW e i = 1002 := by
  unfold asB
  rw [List.any_eq_false]
  exact ⟨fun h i hi q => h i (List.mem_range.mpr hi) (decide_eq_true q), fun h i hi q => h i (List.mem_range.mp hi) (of_decide_eq_true q)⟩
theorem asB_t {e : xe} {i : Nat} (hi : i < eM e) (h : eW e i = 1002) : asB e = true := by
  cases q : asB e with
  | true => rfl
  | false => exact absurd h (asB_f.mp q i hi)
theorem x_asks_l {l : xLa} {d : Nat} {σ : xs} {u : Nat} {e : xe} (hu : isR u) (hC : isC σ u (eM e) (eW e)) : ∀ (m : Nat) (i : Nat), eM e - i = m → i ≤ eM e → (∀ j, j < i → ¬ eW e j = 1002) → T l M_Rule_asksForCrumbs (d + 1) 2 [some (.ref u), some (.int (nI i))] [] σ (fun r τ => r = some (.int (nI (bN (asB e)))) ∧ τ = σ) := by
  intro m
  induction m using Nat.strongRecOn with
  | ind m ih =>
    intro i hm hi hj
    have h40 := hC.2.1
    refine tt_iload_n d_Rule_asksForCrumbs_2 rfl ?_
    refine tt_aload_n d_Rule_asksForCrumbs_3 rfl ?_
    refine tn_get d_Rule_asksForCrumbs_4 rfl (xR_sh hu) (by decide) (xR_i hu _ (by decide)) hC.1 ?_
    refine tn_ic_ge (t := 30) (by omega) (by omega) d_Rule_asksForCrumbs_7 (by decide) (fun c_7 => ?_) (fun c_7 => ?_)
    · obtain rfl : i = eM e := by omega
      rw [show bN (asB e) = 0 from (bN_c _).2.1.mpr (asB_f.mpr hj)]
      refine tt_iconst (v := nI 0) d_Rule_asksForCrumbs_30 (by decide) ?_
      refine tt_zret rfl rfl d_Rule_asksForCrumbs_31 ?_
      exact ⟨rfl, rfl⟩
    · have hci := (hC.2.2.1 i (by omega)).2
      have hcl : eW e i < 2 ^ 30 := by unfold okc at hci; omega
      refine tt_aload_n d_Rule_asksForCrumbs_10 rfl ?_
      refine tt_getR d_Rule_asksForCrumbs_11 rfl (xR_sh hu) (by decide) ((xR_r hu).1) (xR_0 hu _ (by decide)) ?_
      refine tt_iload_n d_Rule_asksForCrumbs_14 rfl ?_
      refine tn_iald d_Rule_asksForCrumbs_15 ((xR_a hu).1) (by decide) (by omega) (hC.2.2.1 i (by omega)).1 ?_
      refine tt_sipush (v := nI 1002) d_Rule_asksForCrumbs_16 (by decide) ?_
      refine tn_ic_ne (t := 24) (by omega) (by omega) d_Rule_asksForCrumbs_19 (by decide) (fun c_19 => ?_) (fun c_19 => ?_)
      · refine tt_iinc (lv2 := [_, _]) d_Rule_asksForCrumbs_24 rfl (nI_inc _ 1) (by decide) rfl ?_
        refine tt_goto (t := 2) d_Rule_asksForCrumbs_27 (by decide) ?_
        exact ih (eM e - (i + 1)) (by omega) (i + 1) rfl (by omega) (as_s hj c_19)
      · rw [show bN (asB e) = 1 from (bN_c _).2.2.mpr (asB_t (by omega) c_19)]
        refine tt_iconst (v := nI 1) d_Rule_asksForCrumbs_22 (by decide) ?_
        refine tt_zret rfl rfl d_Rule_asksForCrumbs_23 ?_
        exact ⟨rfl, rfl⟩

theorem x_asks {l : xLa} {d : Nat} {σ : xs} {u : Nat} {e : xe} (hu : isR u) (hC : isC σ u (eM e) (eW e)) : TE l M_Rule_asksForCrumbs (d + 1) [.ref u] σ (some (.int (nI (bN (asB e))))) σ := by
  show T l M_Rule_asksForCrumbs (d + 1) 0 _ [] σ _
  refine tt_iconst (v := nI 0) d_Rule_asksForCrumbs_0 (by decide) ?_
  refine tt_istore_n (lv2 := [_, _]) d_Rule_asksForCrumbs_1 (by decide) rfl ?_
  exact x_asks_l hu hC (eM e) 0 rfl (by omega) (fun j hj => absurd hj (Nat.not_lt_zero j))

set_option maxHeartbeats 4000000 in
theorem x_cheap_l {l : xLa} {d : Nat} {σ : xs} {w : wv} {f n mo : Nat} (hf : f < eR (wE w) * eC (wE w)) (hn : n ≤ 20) (hmo : mo = 9 ∨ (mo = 0 ∧ ∀ c s, arB w f c n s = arB w f 0 n s)) (ho : okQ w) : ∀ (m : Nat) (c : Nat) (t : Nat × Nat × Nat) (z1 z2 : Option Int32) (τ : xs), 10 - c = m → c ≤ mo + 1 → t = chS w f n c → XQ w σ τ → XD τ (wD w) → T l M_X_cheapest (d + 40) 40 [some (.ref 0), some (.int (nI f)), some (.int (nI n)), some (.int (chB t)), some (.int (nI t.2.1)), some (.int (nI (t.2.2 - 1))), some (.int (nI mo)), some (.int (nI c)), z1.map Value.int, z2.map Value.int] [] τ (fun r τ => r = some (.int (chA (chS w f n 10)).1) ∧ XW τ (stD w (chA (chS w f n 10)).2) ∧ XF σ τ) := by
  have hb0 := ho.fb
  have hb8 := ho.n8
  intro m
  induction m using Nat.strongRecOn with
  | ind m ih =>
    intro c t z1 z2 τ hm hc ht h hd0
    have hc10 : c ≤ 10 := by omega
    have hC := ch_c (f := f) (n := n) ho c hc10
    have hBd := ch_b (f := f) (n := n) ho hc10
    rw [← ht] at hC hBd
    have hB := chB_c hBd.1
    have hab : abW w < 256 := ab_lt ho (Nat.le_refl _)
    refine tt_iload d_X_cheapest_40 rfl ?_
    refine tt_iload d_X_cheapest_42 rfl ?_
    refine tn_ic_gt (t := 115) (by omega) (by omega) d_X_cheapest_44 (by decide) (fun c_44 => ?_) (fun c_44 => ?_)
    · have hfin : chS w f n 10 = t := by
        rcases hmo with rfl | ⟨rfl, hA⟩
        · obtain rfl : c = 10 := by omega
          exact ht.symm
        · obtain rfl : c = 1 := by omega
          rw [ht]; exact ch_1 hA 9
      rw [hfin]
      refine tt_iload_n d_X_cheapest_115 rfl ?_
      refine tt_iconst (v := (-1)) d_X_cheapest_116 (by decide) ?_
      refine tt_ic_ne (t := 123) d_X_cheapest_117 (by decide) (fun c_117 => ?_) (fun c_117 => ?_)
      · have hb7 : ¬ t.2.2 = 0 := fun q => c_117 (hB.1.mpr q)
        unfold chA
        rw [if_neg hb7, hB.2.1 hb7]
        refine tt_aload_n d_X_cheapest_123 rfl ?_
        refine tt_getR d_X_cheapest_124 rfl rfl (by decide) rfl rfl ?_
        refine tt_callV (xq_start (d := d) h) cw_Told_start rfl rfl (by decide) rfl (by omega) d_X_cheapest_127 rfl rfl (Nat.le_of_ble_eq_true rfl) (Nat.le_of_ble_eq_true rfl) rfl rfl rfl (fun v σ2 q => ?_)
        obtain ⟨rfl, h, hd, hf⟩ := q
        refine tt_aload_n d_X_cheapest_130 rfl ?_
        refine tt_getR d_X_cheapest_131 rfl rfl (by decide) rfl rfl ?_
        refine tt_iload d_X_cheapest_134 rfl ?_
        refine tt_i2l d_X_cheapest_136 ?_
        refine tt_callV (xq_add (d := d) h hd (Nat.le_of_ble_eq_true rfl)) cw_Told_add rfl rfl (by decide) rfl (by omega) d_X_cheapest_137 rfl rfl (Nat.le_of_ble_eq_true rfl) (Nat.le_of_ble_eq_true rfl) rfl rfl rfl (fun v σ2 q => ?_)
        obtain ⟨rfl, h, hd, hf⟩ := q
        refine tt_aload_n d_X_cheapest_140 rfl ?_
        refine tt_getR d_X_cheapest_141 rfl rfl (by decide) rfl rfl ?_
        refine tt_iload d_X_cheapest_144 rfl ?_
        refine tt_i2l d_X_cheapest_146 ?_
        refine tt_callV (xq_add (d := d) h hd (Nat.le_of_ble_eq_true rfl)) cw_Told_add rfl rfl (by decide) rfl (by omega) d_X_cheapest_147 rfl rfl (Nat.le_of_ble_eq_true rfl) (Nat.le_of_ble_eq_true rfl) rfl rfl rfl (fun v σ2 q => ?_)
        obtain ⟨rfl, h, hd, hf⟩ := q
        refine tt_iload_n d_X_cheapest_150 rfl ?_
        refine tt_iret rfl d_X_cheapest_151 ?_
        exact ⟨rfl, h.done hd, h.2.1⟩
      · have hb7 := hB.1.mp (Decidable.not_not.mp c_117)
        unfold chA
        rw [if_pos hb7]
        refine tt_bipush (v := (-2)) d_X_cheapest_120 (by decide) ?_
        refine tt_iret rfl d_X_cheapest_122 ?_
        exact ⟨rfl, h.none hd0, h.2.1⟩
    · refine tt_iload_n d_X_cheapest_47 rfl ?_
      refine tt_if_eq (t := 115) d_X_cheapest_48 (by decide) (fun c_48 => ?_) (fun c_48 => ?_)
      · have hz0 := hB.2.2.mp c_48
        have hfin : chS w f n 10 = t := by
          have := ch_z (w := w) (f := f) (n := n) (c := c) (by rw [← ht]; exact hz0.2) (10 - c)
          rw [show c + (10 - c) = 10 by omega, ← ht] at this
          exact this
        rw [hfin]
        refine tt_iload_n d_X_cheapest_115 rfl ?_
        refine tt_iconst (v := (-1)) d_X_cheapest_116 (by decide) ?_
        refine tt_ic_ne (t := 123) d_X_cheapest_117 (by decide) (fun c_117 => ?_) (fun c_117 => ?_)
        · have hb7 : ¬ t.2.2 = 0 := fun q => c_117 (hB.1.mpr q)
          unfold chA
          rw [if_neg hb7, hB.2.1 hb7]
          refine tt_aload_n d_X_cheapest_123 rfl ?_
          refine tt_getR d_X_cheapest_124 rfl rfl (by decide) rfl rfl ?_
          refine tt_callV (xq_start (d := d) h) cw_Told_start rfl rfl (by decide) rfl (by omega) d_X_cheapest_127 rfl rfl (Nat.le_of_ble_eq_true rfl) (Nat.le_of_ble_eq_true rfl) rfl rfl rfl (fun v σ2 q => ?_)
          obtain ⟨rfl, h, hd, hf⟩ := q
          refine tt_aload_n d_X_cheapest_130 rfl ?_
          refine tt_getR d_X_cheapest_131 rfl rfl (by decide) rfl rfl ?_
          refine tt_iload d_X_cheapest_134 rfl ?_
          refine tt_i2l d_X_cheapest_136 ?_
          refine tt_callV (xq_add (d := d) h hd (Nat.le_of_ble_eq_true rfl)) cw_Told_add rfl rfl (by decide) rfl (by omega) d_X_cheapest_137 rfl rfl (Nat.le_of_ble_eq_true rfl) (Nat.le_of_ble_eq_true rfl) rfl rfl rfl (fun v σ2 q => ?_)
          obtain ⟨rfl, h, hd, hf⟩ := q
          refine tt_aload_n d_X_cheapest_140 rfl ?_
          refine tt_getR d_X_cheapest_141 rfl rfl (by decide) rfl rfl ?_
          refine tt_iload d_X_cheapest_144 rfl ?_
          refine tt_i2l d_X_cheapest_146 ?_
          refine tt_callV (xq_add (d := d) h hd (Nat.le_of_ble_eq_true rfl)) cw_Told_add rfl rfl (by decide) rfl (by omega) d_X_cheapest_147 rfl rfl (Nat.le_of_ble_eq_true rfl) (Nat.le_of_ble_eq_true rfl) rfl rfl rfl (fun v σ2 q => ?_)
          obtain ⟨rfl, h, hd, hf⟩ := q
          refine tt_iload_n d_X_cheapest_150 rfl ?_
          refine tt_iret rfl d_X_cheapest_151 ?_
          exact ⟨rfl, h.done hd, h.2.1⟩
        · have hb7 := hB.1.mp (Decidable.not_not.mp c_117)
          unfold chA
          rw [if_pos hb7]
          refine tt_bipush (v := (-2)) d_X_cheapest_120 (by decide) ?_
          refine tt_iret rfl d_X_cheapest_122 ?_
          exact ⟨rfl, h.none hd0, h.2.1⟩
      · have hne : ¬ (¬ t.2.2 = 0 ∧ t.1 = 0) := fun q => c_48 (hB.2.2.mpr q)
        refine tt_iload_n d_X_cheapest_51 rfl ?_
        refine tt_iconst (v := (-1)) d_X_cheapest_52 (by decide) ?_
        refine tt_ic_eq (t := 61) d_X_cheapest_53 (by decide) (fun c_53 => ?_) (fun c_53 => ?_)
        · have hb4 := hB.1.mp c_53
          refine tt_bipush (v := nI 8) d_X_cheapest_61 (by decide) ?_
          refine tt_goto (t := 72) d_X_cheapest_63 (by decide) ?_
          refine tt_istore (lv2 := [_, _, _, _, _, _, _, _, _, _]) d_X_cheapest_72 (by decide) rfl ?_
          refine tt_aload_n d_X_cheapest_74 rfl ?_
          refine tt_iload_n d_X_cheapest_75 rfl ?_
          refine tt_iload d_X_cheapest_76 rfl ?_
          refine tt_iload_n d_X_cheapest_78 rfl ?_
          refine tt_iload d_X_cheapest_79 rfl ?_
          refine tt_callV (xq_few (d := d) (room := 8) h hf (by omega) hn (by omega) ho) cw_X_fewestBy rfl rfl (by decide) rfl (by omega) d_X_cheapest_81 rfl rfl (Nat.le_of_ble_eq_true rfl) (Nat.le_of_ble_eq_true rfl) rfl rfl rfl (fun v σ2 q => ?_)
          obtain ⟨rfl, h, hu⟩ := q
          replace hd0 := hd0.tn hu
          have hrb : rmN (arB w f c n) (abW w) 8 < 2 ^ 30 := by
            rcases rm_c (A := arB w f c n) (P := abW w) (room := 8) with q | q
            · rw [q]
              cases hF : feN (arB w f c n) (abW w) with
              | zero => decide
              | succ s => have := (fe_s hF).1; omega
            · rw [q]; decide
          have hrl : rmN (arB w f c n) (abW w) 8 ≤ 256 := by
            rcases rm_c (A := arB w f c n) (P := abW w) (room := 8) with q | q
            · rw [q]
              cases hF : feN (arB w f c n) (abW w) with
              | zero => decide
              | succ s => have := (fe_s hF).1; omega
            · rw [q]; decide
          refine tt_istore (lv2 := [_, _, _, _, _, _, _, _, _, _]) d_X_cheapest_84 (by decide) rfl ?_
          refine tt_iload d_X_cheapest_86 rfl ?_
          refine tt_iconst (v := (-1)) d_X_cheapest_88 (by decide) ?_
          refine tt_ic_eq (t := 109) d_X_cheapest_89 (by decide) (fun c_89 => ?_) (fun c_89 => ?_)
          · refine tt_iinc (lv2 := [_, _, _, _, _, _, _, _, _, _]) d_X_cheapest_109 rfl (nI_inc _ 1) (by decide) rfl ?_
            refine tt_goto (t := 40) d_X_cheapest_112 (by decide) ?_
            have hz := ch_s (f := f) (n := n) (room := 8) ho (show c ≤ 9 by omega) (by rw [← ht]; exact Or.inl ⟨rfl, hb4⟩)
            rw [if_pos ((gI_1 hrb).mp c_89), ← ht] at hz
            exact ih (10 - (c + 1)) (by omega) (c + 1) t (some _) (some _) _ rfl (by omega) hz.symm h hd0
          · have hr0 : ¬ rmN (arB w f c n) (abW w) 8 = 0 := fun q => c_89 ((gI_1 hrb).mpr q)
            rw [(gI_c (show rmN (arB w f c n) (abW w) 8 < 2 ^ 31 by omega)).2 hr0]
            refine tt_iload d_X_cheapest_92 rfl ?_
            refine tt_iload d_X_cheapest_94 rfl ?_
            refine tt_callS (x_bitN (d := d) (by omega)) cw_Integer_bitCount rfl (by omega) d_X_cheapest_96 rfl rfl (Nat.le_of_ble_eq_true rfl) (Nat.le_of_ble_eq_true rfl) rfl rfl rfl (fun v σ2 q => ?_)
            obtain ⟨rfl, e9⟩ := q
            rw [e9]
            clear e9
            refine tn_imul d_X_cheapest_99 ?_
            refine tt_istore_n (lv2 := [_, _, _, _, _, _, _, _, _, _]) d_X_cheapest_100 (by decide) rfl ?_
            refine tt_iload d_X_cheapest_101 rfl ?_
            refine tt_istore (lv2 := [_, _, _, _, _, _, _, _, _, _]) d_X_cheapest_103 (by decide) rfl ?_
            refine tt_iload d_X_cheapest_105 rfl ?_
            refine tt_istore (lv2 := [_, _, _, _, _, _, _, _, _, _]) d_X_cheapest_107 (by decide) rfl ?_
            refine tt_iinc (lv2 := [_, _, _, _, _, _, _, _, _, _]) d_X_cheapest_109 rfl (nI_inc _ 1) (by decide) rfl ?_
            refine tt_goto (t := 40) d_X_cheapest_112 (by decide) ?_
            have hz := ch_s (f := f) (n := n) (room := 8) ho (show c ≤ 9 by omega) (by rw [← ht]; exact Or.inl ⟨rfl, hb4⟩)
            rw [if_neg hr0] at hz
            have hchb : nI (c * pcN (rmN (arB w f c n) (abW w) 8 - 1)) = chB (c * pcN (rmN (arB w f c n) (abW w) 8 - 1), c, rmN (arB w f c n) (abW w) 8) := (if_neg hr0).symm
            rw [hchb]
            exact ih (10 - (c + 1)) (by omega) (c + 1) (c * pcN (rmN (arB w f c n) (abW w) 8 - 1), c, rmN (arB w f c n) (abW w) 8) (some _) (some _) _ rfl (by omega) hz.symm h hd0
        · have hb4 : ¬ t.2.2 = 0 := fun q => c_53 (hB.1.mpr q)
          have ht2 := (hC.2 hb4)
          rw [hB.2.1 hb4]
          have hdiv : (t.1 - 1) / c ≤ t.1 - 1 := Nat.div_le_self _ _
          refine tt_iload d_X_cheapest_56 rfl ?_
          refine tn_if_ne (t := 66) (by omega) d_X_cheapest_58 (by decide) (fun c_58 => ?_) (fun c_58 => ?_)
          · refine tt_iload_n d_X_cheapest_66 rfl ?_
            refine tt_iconst (v := nI 1) d_X_cheapest_67 (by decide) ?_
            refine tn_isub (by omega) d_X_cheapest_68 ?_
            refine tt_iload d_X_cheapest_69 rfl ?_
            refine tn_idiv (by omega) (by omega) (by omega) d_X_cheapest_71 ?_
            refine tt_istore (lv2 := [_, _, _, _, _, _, _, _, _, _]) d_X_cheapest_72 (by decide) rfl ?_
            refine tt_aload_n d_X_cheapest_74 rfl ?_
            refine tt_iload_n d_X_cheapest_75 rfl ?_
            refine tt_iload d_X_cheapest_76 rfl ?_
            refine tt_iload_n d_X_cheapest_78 rfl ?_
            refine tt_iload d_X_cheapest_79 rfl ?_
            refine tt_callV (xq_few (d := d) (room := ((t.1 - 1) / c)) h hf (by omega) hn (by omega) ho) cw_X_fewestBy rfl rfl (by decide) rfl (by omega) d_X_cheapest_81 rfl rfl (Nat.le_of_ble_eq_true rfl) (Nat.le_of_ble_eq_true rfl) rfl rfl rfl (fun v σ2 q => ?_)
            obtain ⟨rfl, h, hu⟩ := q
            replace hd0 := hd0.tn hu
            have hrb : rmN (arB w f c n) (abW w) ((t.1 - 1) / c) < 2 ^ 30 := by
              rcases rm_c (A := arB w f c n) (P := abW w) (room := ((t.1 - 1) / c)) with q | q
              · rw [q]
                cases hF : feN (arB w f c n) (abW w) with
                | zero => decide
                | succ s => have := (fe_s hF).1; omega
              · rw [q]; decide
            have hrl : rmN (arB w f c n) (abW w) ((t.1 - 1) / c) ≤ 256 := by
              rcases rm_c (A := arB w f c n) (P := abW w) (room := ((t.1 - 1) / c)) with q | q
              · rw [q]
                cases hF : feN (arB w f c n) (abW w) with
                | zero => decide
                | succ s => have := (fe_s hF).1; omega
              · rw [q]; decide
            refine tt_istore (lv2 := [_, _, _, _, _, _, _, _, _, _]) d_X_cheapest_84 (by decide) rfl ?_
            refine tt_iload d_X_cheapest_86 rfl ?_
            refine tt_iconst (v := (-1)) d_X_cheapest_88 (by decide) ?_
            refine tt_ic_eq (t := 109) d_X_cheapest_89 (by decide) (fun c_89 => ?_) (fun c_89 => ?_)
            · refine tt_iinc (lv2 := [_, _, _, _, _, _, _, _, _, _]) d_X_cheapest_109 rfl (nI_inc _ 1) (by decide) rfl ?_
              refine tt_goto (t := 40) d_X_cheapest_112 (by decide) ?_
              have hz := ch_s (f := f) (n := n) (room := ((t.1 - 1) / c)) ho (show c ≤ 9 by omega) (by rw [← ht]; exact Or.inr ⟨by omega, by omega, rfl⟩)
              rw [if_pos ((gI_1 hrb).mp c_89), ← ht] at hz
              rw [← hB.2.1 hb4]
              exact ih (10 - (c + 1)) (by omega) (c + 1) t (some _) (some _) _ rfl (by omega) hz.symm h hd0
            · have hr0 : ¬ rmN (arB w f c n) (abW w) ((t.1 - 1) / c) = 0 := fun q => c_89 ((gI_1 hrb).mpr q)
              rw [(gI_c (show rmN (arB w f c n) (abW w) ((t.1 - 1) / c) < 2 ^ 31 by omega)).2 hr0]
              refine tt_iload d_X_cheapest_92 rfl ?_
              refine tt_iload d_X_cheapest_94 rfl ?_
              refine tt_callS (x_bitN (d := d) (by omega)) cw_Integer_bitCount rfl (by omega) d_X_cheapest_96 rfl rfl (Nat.le_of_ble_eq_true rfl) (Nat.le_of_ble_eq_true rfl) rfl rfl rfl (fun v σ2 q => ?_)
              obtain ⟨rfl, e9⟩ := q
              rw [e9]
              clear e9
              refine tn_imul d_X_cheapest_99 ?_
              refine tt_istore_n (lv2 := [_, _, _, _, _, _, _, _, _, _]) d_X_cheapest_100 (by decide) rfl ?_
              refine tt_iload d_X_cheapest_101 rfl ?_
              refine tt_istore (lv2 := [_, _, _, _, _, _, _, _, _, _]) d_X_cheapest_103 (by decide) rfl ?_
              refine tt_iload d_X_cheapest_105 rfl ?_
              refine tt_istore (lv2 := [_, _, _, _, _, _, _, _, _, _]) d_X_cheapest_107 (by decide) rfl ?_
              refine tt_iinc (lv2 := [_, _, _, _, _, _, _, _, _, _]) d_X_cheapest_109 rfl (nI_inc _ 1) (by decide) rfl ?_
              refine tt_goto (t := 40) d_X_cheapest_112 (by decide) ?_
              have hz := ch_s (f := f) (n := n) (room := ((t.1 - 1) / c)) ho (show c ≤ 9 by omega) (by rw [← ht]; exact Or.inr ⟨by omega, by omega, rfl⟩)
              rw [if_neg hr0] at hz
              have hchb : nI (c * pcN (rmN (arB w f c n) (abW w) ((t.1 - 1) / c) - 1)) = chB (c * pcN (rmN (arB w f c n) (abW w) ((t.1 - 1) / c) - 1), c, rmN (arB w f c n) (abW w) ((t.1 - 1) / c)) := (if_neg hr0).symm
              rw [hchb]
              exact ih (10 - (c + 1)) (by omega) (c + 1) (c * pcN (rmN (arB w f c n) (abW w) ((t.1 - 1) / c) - 1), c, rmN (arB w f c n) (abW w) ((t.1 - 1) / c)) (some _) (some _) _ rfl (by omega) hz.symm h hd0
          · omega

set_option maxHeartbeats 4000000 in
theorem xc_cheapest {l : xLa} {d : Nat} {σ : xs} {w : wv} (ho : okQ w) (hw : XW σ w) {f n : Int32} : TC l M_X_cheapest (d + 40) [.ref 0, .int f, .int n] σ (fun r τ => r = some (.int ((q_cheapest w f n).1)) ∧ XW τ (stD w ((q_cheapest w f n).2)) ∧ XF σ τ) := by
  show T l M_X_cheapest (d + 40) 0 _ [] σ _
  refine T_lv (lv2 := [_, _, _, _, _, _, _, _, _, _]) rfl ?_
  have h := XQ.rf hw.v
  have hd0 := hw.2.2.2.1
  have hb0 := ho.fb
  have hb8 := ho.n8
  rcases inN_c f (eR (wE w) * eC (wE w)) with ⟨g, hg, rfl, hq⟩ | ⟨hq, hb⟩
  · rcases rgN_c n 1 20 with ⟨k, k1, k2, k3, rfl, hq2⟩ | ⟨hq2, hb⟩
    · have hqv : q_cheapest w (nI g) (nI k) = chA (chS w g k 10) := by unfold q_cheapest; rw [hq, hq2]
      rw [hqv]
      clear hqv
      have hbn := bN_c (asB (wE w))
      refine tt_aload_n d_X_cheapest_0 rfl ?_
      refine tt_iload_n d_X_cheapest_1 rfl ?_
      refine tt_iload_n d_X_cheapest_2 rfl ?_
      refine tt_callV (x_asked (d := d) h ho) cw_X_canBeAskedFor rfl rfl (by decide) rfl (by omega) d_X_cheapest_3 rfl rfl (Nat.le_of_ble_eq_true rfl) (Nat.le_of_ble_eq_true rfl) rfl rfl rfl (fun v σ2 q => ?_)
      obtain ⟨rfl, e9⟩ := q
      rw [e9, show afI w _ _ = nI 1 by unfold afI; rw [hq, hq2]]
      clear e9
      refine tn_if_ne (t := 11) (by omega) d_X_cheapest_6 (by decide) (fun c_6 => ?_) (fun c_6 => ?_)
      · refine tt_iconst (v := (-1)) d_X_cheapest_11 (by decide) ?_
        refine tt_istore_n (lv2 := [_, _, _, _, _, _, _, _, _, _]) d_X_cheapest_12 (by decide) rfl ?_
        refine tt_iconst (v := nI 0) d_X_cheapest_13 (by decide) ?_
        refine tt_istore (lv2 := [_, _, _, _, _, _, _, _, _, _]) d_X_cheapest_14 (by decide) rfl ?_
        refine tt_iconst (v := nI 0) d_X_cheapest_16 (by decide) ?_
        refine tt_istore (lv2 := [_, _, _, _, _, _, _, _, _, _]) d_X_cheapest_17 (by decide) rfl ?_
        refine tt_aload_n d_X_cheapest_19 rfl ?_
        refine tt_getP d_X_cheapest_20 rfl ?_
        refine tt_callV (x_asks (d := d) (e := wE w) h.1.sp h.e.2.2.2.2) cw_Rule_asksForCrumbs rfl (xR_sh h.1.sp) (by decide) rfl (by omega) d_X_cheapest_23 rfl rfl (Nat.le_of_ble_eq_true rfl) (Nat.le_of_ble_eq_true rfl) rfl rfl rfl (fun v σ2 q => ?_)
        obtain ⟨rfl, e9⟩ := q
        rw [e9]
        clear e9
        refine tn_if_eq (t := 34) (by omega) d_X_cheapest_26 (by decide) (fun c_26 => ?_) (fun c_26 => ?_)
        · refine tt_iconst (v := nI 0) d_X_cheapest_34 (by decide) ?_
          refine tt_istore (lv2 := [_, _, _, _, _, _, _, _, _, _]) d_X_cheapest_35 (by decide) rfl ?_
          refine tt_iconst (v := nI 0) d_X_cheapest_37 (by decide) ?_
          refine tt_istore (lv2 := [_, _, _, _, _, _, _, _, _, _]) d_X_cheapest_38 (by decide) rfl ?_
          exact x_cheap_l hg k2 (Or.inr ⟨rfl, fun c s => arB_c (asB_f.mp (hbn.2.1.mp c_26))⟩) ho 10 0 (1000000, 0, 0) none none _ rfl (by omega) rfl h hd0
        · refine tt_bipush (v := nI 9) d_X_cheapest_29 (by decide) ?_
          refine tt_goto (t := 35) d_X_cheapest_31 (by decide) ?_
          refine tt_istore (lv2 := [_, _, _, _, _, _, _, _, _, _]) d_X_cheapest_35 (by decide) rfl ?_
          refine tt_iconst (v := nI 0) d_X_cheapest_37 (by decide) ?_
          refine tt_istore (lv2 := [_, _, _, _, _, _, _, _, _, _]) d_X_cheapest_38 (by decide) rfl ?_
          exact x_cheap_l hg k2 (Or.inl rfl) ho 10 0 (1000000, 0, 0) none none _ rfl (by omega) rfl h hd0
      · exact absurd c_6 (by decide)
    · have hqv : q_cheapest w (nI g) n = (-1, none) := by unfold q_cheapest; rw [hq, hq2]
      rw [hqv]
      refine tt_aload_n d_X_cheapest_0 rfl ?_
      refine tt_iload_n d_X_cheapest_1 rfl ?_
      refine tt_iload_n d_X_cheapest_2 rfl ?_
      refine tt_callV (x_asked (d := d) h ho) cw_X_canBeAskedFor rfl rfl (by decide) rfl (by omega) d_X_cheapest_3 rfl rfl (Nat.le_of_ble_eq_true rfl) (Nat.le_of_ble_eq_true rfl) rfl rfl rfl (fun v σ2 q => ?_)
      obtain ⟨rfl, e9⟩ := q
      rw [e9, show afI w _ _ = nI 0 by unfold afI; rw [hq, hq2]]
      clear e9
      refine tn_if_ne (t := 11) (by omega) d_X_cheapest_6 (by decide) (fun c_6 => ?_) (fun c_6 => ?_)
      · exact absurd rfl c_6
      · refine tt_iconst (v := (-1)) d_X_cheapest_9 (by decide) ?_
        refine tt_iret rfl d_X_cheapest_10 ?_
        exact ⟨rfl, h.none hd0, h.2.1⟩
  · have hqv : q_cheapest w f n = (-1, none) := by unfold q_cheapest; rw [hq]
    rw [hqv]
    refine tt_aload_n d_X_cheapest_0 rfl ?_
    refine tt_iload_n d_X_cheapest_1 rfl ?_
    refine tt_iload_n d_X_cheapest_2 rfl ?_
    refine tt_callV (x_asked (d := d) h ho) cw_X_canBeAskedFor rfl rfl (by decide) rfl (by omega) d_X_cheapest_3 rfl rfl (Nat.le_of_ble_eq_true rfl) (Nat.le_of_ble_eq_true rfl) rfl rfl rfl (fun v σ2 q => ?_)
    obtain ⟨rfl, e9⟩ := q
    rw [e9, show afI w _ _ = nI 0 by unfold afI; rw [hq]]
    clear e9
    refine tn_if_ne (t := 11) (by omega) d_X_cheapest_6 (by decide) (fun c_6 => ?_) (fun c_6 => ?_)
    · exact absurd rfl c_6
    · refine tt_iconst (v := (-1)) d_X_cheapest_9 (by decide) ?_
      refine tt_iret rfl d_X_cheapest_10 ?_
      exact ⟨rfl, h.none hd0, h.2.1⟩

set_option maxHeartbeats 4000000 in
theorem y_cheap_l {l : xLa} {d : Nat} {σ : xs} {c0 : Nat} {w : wv} {f n : Nat} (hf : f < eR (wE w) * eC (wE w)) (hn : n ≤ 20) (ho : okQ w) : ∀ (m : Nat) (c i : Nat) (t : Nat × Nat × Nat) (z1 z2 : Option Int32) (τ : xs), (10 - c) * 1000 + (abW w + 1 - i) = m → c ≤ 9 → i ≤ abW w + 1 → t = chI w f n c i → YQ c0 w σ τ → YD τ (wD w) → T l M_Y_cheapest (d + 150) 56 [some (.ref 154), some (.int (nI f)), some (.int (nI n)), some (.int (nI (abW w))), some (.int (nI t.1)), some (.int (nI t.2.1)), some (.int (gI t.2.2)), some (.int (nI c)), some (.int (nI i)), z1.map Value.int, z2.map Value.int] [] τ (fun r τ => r = some (.int (chA (chS w f n 10)).1) ∧ YW τ c0 (stD w (chA (chS w f n 10)).2) ∧ YF σ τ) := by
  have hb0 := ho.fb
  have hb8 := ho.n8
  intro m
  induction m using Nat.strongRecOn with
  | ind m ih =>
    intro c i t z1 z2 τ hm hc hi ht h hd0
    have hab : abW w < 256 := ab_lt ho (Nat.le_refl _)
    have hBd := ci_b (f := f) (n := n) ho hc hi
    rw [← ht] at hBd
    have hml := m72 (i := i) hc
    refine tt_iload d_Y_cheapest_56 rfl ?_
    refine tt_iload_n d_Y_cheapest_58 rfl ?_
    refine tn_ic_gt (t := 155) (by omega) (by omega) d_Y_cheapest_59 (by decide) (fun c_59 => ?_) (fun c_59 => ?_)
    · obtain rfl : i = abW w + 1 := by omega
      rw [ci_e] at ht
      refine tt_iinc (lv2 := [_, _, _, _, _, _, _, _, _, _, _]) d_Y_cheapest_155 rfl (nI_inc _ 1) (by decide) rfl ?_
      refine tt_goto (t := 46) d_Y_cheapest_158 (by decide) ?_
      refine tt_iload d_Y_cheapest_46 rfl ?_
      refine tt_bipush (v := nI 9) d_Y_cheapest_48 (by decide) ?_
      refine tn_ic_gt (t := 161) (by omega) (by omega) d_Y_cheapest_50 (by decide) (fun c_50 => ?_) (fun c_50 => ?_)
      · obtain rfl : c = 9 := by omega
        rw [← ht]
        refine tt_iload d_Y_cheapest_161 rfl ?_
        refine tt_if_ge (t := 169) d_Y_cheapest_163 (by decide) (fun c_163 => ?_) (fun c_163 => ?_)
        · have hb7 : ¬ t.2.2 = 0 := fun q => fa_nlt2 ((gI_lt (by omega)).mpr q) c_163
          unfold chA
          rw [if_neg hb7, (gI_c (show t.2.2 < 2 ^ 31 by omega)).2 hb7]
          refine tt_aload_n d_Y_cheapest_169 rfl ?_
          refine tt_iconst (v := nI 0) d_Y_cheapest_170 (by decide) ?_
          refine tt_putI d_Y_cheapest_171 rfl rfl (by decide) rfl (xpok_int rfl) rfl ?_
          replace h := h.td0
          have hd := YD_0t h
          refine tt_aload_n d_Y_cheapest_174 rfl ?_
          refine tt_iload d_Y_cheapest_175 rfl ?_
          refine tt_i2l d_Y_cheapest_177 ?_
          refine tt_callV (yq_add (d := d) h hd (Nat.le_of_ble_eq_true rfl)) cw_Y_enters rfl rfl (by decide) rfl (by omega) d_Y_cheapest_178 rfl rfl (Nat.le_of_ble_eq_true rfl) (Nat.le_of_ble_eq_true rfl) rfl rfl rfl (fun v σ2 q => ?_)
          obtain ⟨rfl, h, hd, hf⟩ := q
          refine tt_aload_n d_Y_cheapest_181 rfl ?_
          refine tt_iload d_Y_cheapest_182 rfl ?_
          refine tt_i2l d_Y_cheapest_184 ?_
          refine tt_callV (yq_add (d := d) h hd (Nat.le_of_ble_eq_true rfl)) cw_Y_enters rfl rfl (by decide) rfl (by omega) d_Y_cheapest_185 rfl rfl (Nat.le_of_ble_eq_true rfl) (Nat.le_of_ble_eq_true rfl) rfl rfl rfl (fun v σ2 q => ?_)
          obtain ⟨rfl, h, hd, hf⟩ := q
          refine tt_iload d_Y_cheapest_188 rfl ?_
          refine tt_iret rfl d_Y_cheapest_190 ?_
          exact ⟨rfl, h.done hd, h.2⟩
        · have hb7 := (gI_lt (by omega)).mp (Int32.not_le.mp c_163)
          unfold chA
          rw [if_pos hb7]
          refine tt_bipush (v := (-2)) d_Y_cheapest_166 (by decide) ?_
          refine tt_iret rfl d_Y_cheapest_168 ?_
          exact ⟨rfl, h.none hd0, h.2⟩
      · refine tt_iconst (v := nI 0) d_Y_cheapest_53 (by decide) ?_
        refine tt_istore (lv2 := [_, _, _, _, _, _, _, _, _, _, _]) d_Y_cheapest_54 (by decide) rfl ?_
        exact ih ((10 - (c + 1)) * 1000 + (abW w + 1 - 0)) (by omega) (c + 1) 0 t z1 z2 _ rfl (by omega) (by omega) (by rw [ci_0]; exact ht) h hd0
    · have hdl : dfN i (abW w) < 2 ^ 30 := dfN_lt (by omega)
      refine tt_iload d_Y_cheapest_62 rfl ?_
      refine tt_iload d_Y_cheapest_64 rfl ?_
      refine tt_callS (x_bitN (d := d) (by omega)) cw_Integer_bitCount rfl (by omega) d_Y_cheapest_66 rfl rfl (Nat.le_of_ble_eq_true rfl) (Nat.le_of_ble_eq_true rfl) rfl rfl rfl (fun v σ2 q => ?_)
      obtain ⟨rfl, e9⟩ := q
      rw [e9]
      clear e9
      refine tn_imul d_Y_cheapest_69 ?_
      refine tt_istore (lv2 := [_, _, _, _, _, _, _, _, _, _, _]) d_Y_cheapest_70 (by decide) rfl ?_
      refine tt_iload d_Y_cheapest_72 rfl ?_
      refine tt_iload d_Y_cheapest_74 rfl ?_
      refine tn_ic_lt (t := 103) (by omega) (by omega) d_Y_cheapest_76 (by decide) (fun c_76 => ?_) (fun c_76 => ?_)
      · have hnb : btJ c i t := Or.inl c_76
        refine tt_iconst (v := nI 1) d_Y_cheapest_103 (by decide) ?_
        refine tt_goto (t := 108) d_Y_cheapest_104 (by decide) ?_
        refine tt_istore (lv2 := [_, _, _, _, _, _, _, _, _, _, _]) d_Y_cheapest_108 (by decide) rfl ?_
        refine tt_iload d_Y_cheapest_110 rfl ?_
        refine tt_iload_n d_Y_cheapest_112 rfl ?_
        refine tt_iconst (v := (-1)) d_Y_cheapest_113 (by decide) ?_
        refine tt_ixor d_Y_cheapest_114 ?_
        refine tt_iand d_Y_cheapest_115 ?_
        refine tt_top (an_N _ _) ?_
        refine tn_if_ne (t := 149) (by omega) d_Y_cheapest_116 (by decide) (fun c_116 => ?_) (fun c_116 => ?_)
        · refine tt_iinc (lv2 := [_, _, _, _, _, _, _, _, _, _, _]) d_Y_cheapest_149 rfl (nI_inc _ 1) (by decide) rfl ?_
          refine tt_goto (t := 56) d_Y_cheapest_152 (by decide) ?_
          exact ih ((10 - c) * 1000 + (abW w + 1 - (i + 1))) (by omega) c (i + 1) t (some _) (some _) _ rfl hc (by omega) (by rw [ci_s ho (by omega), ← ht]; exact (if_neg (fun y => c_116 y.1.1)).symm) h hd0
        · refine tt_iload d_Y_cheapest_119 rfl ?_
          refine tn_if_eq (t := 149) (by omega) d_Y_cheapest_121 (by decide) (fun c_121 => ?_) (fun c_121 => ?_)
          · omega
          · refine tt_aload_n d_Y_cheapest_124 rfl ?_
            refine tt_iload d_Y_cheapest_125 rfl ?_
            refine tt_iload_n d_Y_cheapest_127 rfl ?_
            refine tt_iload d_Y_cheapest_128 rfl ?_
            refine tt_iload_n d_Y_cheapest_130 rfl ?_
            refine tt_callV (yq_sent (d := d) h (by omega) c_116 hf hc hn ho) cw_Y_sentIn rfl rfl (by decide) rfl (by omega) d_Y_cheapest_131 rfl rfl (Nat.le_of_ble_eq_true rfl) (Nat.le_of_ble_eq_true rfl) rfl rfl rfl (fun v σ2 q => ?_)
            obtain ⟨rfl, h, hu⟩ := q
            replace hd0 := hd0.un hu
            have ha := arI_c (e := wE w) (u := prm (wV w) i f c (eN (wE w))) (f := f) (n := n) (by omega)
            refine tt_if_lt (t := 149) d_Y_cheapest_134 (by decide) (fun c_134 => ?_) (fun c_134 => ?_)
            · refine tt_iinc (lv2 := [_, _, _, _, _, _, _, _, _, _, _]) d_Y_cheapest_149 rfl (nI_inc _ 1) (by decide) rfl ?_
              refine tt_goto (t := 56) d_Y_cheapest_152 (by decide) ?_
              exact ih ((10 - c) * 1000 + (abW w + 1 - (i + 1))) (by omega) c (i + 1) t (some _) (some _) _ rfl hc (by omega) (by rw [ci_s ho (by omega), ← ht]; exact (if_neg (fun y => arB_t.mp y.2 (ha.2.1.mp c_134))).symm) h hd0
            · refine tt_iload d_Y_cheapest_137 rfl ?_
              refine tt_istore (lv2 := [_, _, _, _, _, _, _, _, _, _, _]) d_Y_cheapest_139 (by decide) rfl ?_
              refine tt_iload d_Y_cheapest_141 rfl ?_
              refine tt_istore (lv2 := [_, _, _, _, _, _, _, _, _, _, _]) d_Y_cheapest_143 (by decide) rfl ?_
              refine tt_iload d_Y_cheapest_145 rfl ?_
              refine tt_istore (lv2 := [_, _, _, _, _, _, _, _, _, _, _]) d_Y_cheapest_147 (by decide) rfl ?_
              refine tt_iinc (lv2 := [_, _, _, _, _, _, _, _, _, _, _]) d_Y_cheapest_149 rfl (nI_inc _ 1) (by decide) rfl ?_
              refine tt_goto (t := 56) d_Y_cheapest_152 (by decide) ?_
              exact ih ((10 - c) * 1000 + (abW w + 1 - (i + 1))) (by omega) c (i + 1) (c * pcN i, c, i + 1) (some _) (some _) _ rfl hc (by omega) (by rw [ci_s ho (by omega), ← ht]; exact (if_pos ⟨⟨c_116, hnb⟩, arB_t.mpr (fun y => c_134 (ha.2.1.mpr y))⟩).symm) h hd0
      · refine tt_iload d_Y_cheapest_79 rfl ?_
        refine tt_iload d_Y_cheapest_81 rfl ?_
        refine tn_ic_ne (t := 107) (by omega) (by omega) d_Y_cheapest_83 (by decide) (fun c_83 => ?_) (fun c_83 => ?_)
        · have hnb : ¬ btJ c i t := by unfold btJ; omega
          refine tt_iconst (v := nI 0) d_Y_cheapest_107 (by decide) ?_
          refine tt_istore (lv2 := [_, _, _, _, _, _, _, _, _, _, _]) d_Y_cheapest_108 (by decide) rfl ?_
          refine tt_iload d_Y_cheapest_110 rfl ?_
          refine tt_iload_n d_Y_cheapest_112 rfl ?_
          refine tt_iconst (v := (-1)) d_Y_cheapest_113 (by decide) ?_
          refine tt_ixor d_Y_cheapest_114 ?_
          refine tt_iand d_Y_cheapest_115 ?_
          refine tt_top (an_N _ _) ?_
          refine tn_if_ne (t := 149) (by omega) d_Y_cheapest_116 (by decide) (fun c_116 => ?_) (fun c_116 => ?_)
          · refine tt_iinc (lv2 := [_, _, _, _, _, _, _, _, _, _, _]) d_Y_cheapest_149 rfl (nI_inc _ 1) (by decide) rfl ?_
            refine tt_goto (t := 56) d_Y_cheapest_152 (by decide) ?_
            exact ih ((10 - c) * 1000 + (abW w + 1 - (i + 1))) (by omega) c (i + 1) t (some _) (some _) _ rfl hc (by omega) (by rw [ci_s ho (by omega), ← ht]; exact (if_neg (fun y => c_116 y.1.1)).symm) h hd0
          · refine tt_iload d_Y_cheapest_119 rfl ?_
            refine tn_if_eq (t := 149) (by omega) d_Y_cheapest_121 (by decide) (fun c_121 => ?_) (fun c_121 => ?_)
            · refine tt_iinc (lv2 := [_, _, _, _, _, _, _, _, _, _, _]) d_Y_cheapest_149 rfl (nI_inc _ 1) (by decide) rfl ?_
              refine tt_goto (t := 56) d_Y_cheapest_152 (by decide) ?_
              exact ih ((10 - c) * 1000 + (abW w + 1 - (i + 1))) (by omega) c (i + 1) t (some _) (some _) _ rfl hc (by omega) (by rw [ci_s ho (by omega), ← ht]; exact (if_neg (fun y => hnb y.1.2)).symm) h hd0
            · omega
        · refine tt_iload d_Y_cheapest_86 rfl ?_
          refine tt_iload d_Y_cheapest_88 rfl ?_
          refine tn_ic_ne (t := 107) (by omega) (by omega) d_Y_cheapest_90 (by decide) (fun c_90 => ?_) (fun c_90 => ?_)
          · have hnb : ¬ btJ c i t := by unfold btJ; omega
            refine tt_iconst (v := nI 0) d_Y_cheapest_107 (by decide) ?_
            refine tt_istore (lv2 := [_, _, _, _, _, _, _, _, _, _, _]) d_Y_cheapest_108 (by decide) rfl ?_
            refine tt_iload d_Y_cheapest_110 rfl ?_
            refine tt_iload_n d_Y_cheapest_112 rfl ?_
            refine tt_iconst (v := (-1)) d_Y_cheapest_113 (by decide) ?_
            refine tt_ixor d_Y_cheapest_114 ?_
            refine tt_iand d_Y_cheapest_115 ?_
            refine tt_top (an_N _ _) ?_
            refine tn_if_ne (t := 149) (by omega) d_Y_cheapest_116 (by decide) (fun c_116 => ?_) (fun c_116 => ?_)
            · refine tt_iinc (lv2 := [_, _, _, _, _, _, _, _, _, _, _]) d_Y_cheapest_149 rfl (nI_inc _ 1) (by decide) rfl ?_
              refine tt_goto (t := 56) d_Y_cheapest_152 (by decide) ?_
              exact ih ((10 - c) * 1000 + (abW w + 1 - (i + 1))) (by omega) c (i + 1) t (some _) (some _) _ rfl hc (by omega) (by rw [ci_s ho (by omega), ← ht]; exact (if_neg (fun y => c_116 y.1.1)).symm) h hd0
            · refine tt_iload d_Y_cheapest_119 rfl ?_
              refine tn_if_eq (t := 149) (by omega) d_Y_cheapest_121 (by decide) (fun c_121 => ?_) (fun c_121 => ?_)
              · refine tt_iinc (lv2 := [_, _, _, _, _, _, _, _, _, _, _]) d_Y_cheapest_149 rfl (nI_inc _ 1) (by decide) rfl ?_
                refine tt_goto (t := 56) d_Y_cheapest_152 (by decide) ?_
                exact ih ((10 - c) * 1000 + (abW w + 1 - (i + 1))) (by omega) c (i + 1) t (some _) (some _) _ rfl hc (by omega) (by rw [ci_s ho (by omega), ← ht]; exact (if_neg (fun y => hnb y.1.2)).symm) h hd0
              · omega
          · refine tt_iload d_Y_cheapest_93 rfl ?_
            refine tt_iload d_Y_cheapest_95 rfl ?_
            refine tt_callS (y_fewer (d := d) (by omega) hBd.2.2) cw_Y_isFewer rfl (by omega) d_Y_cheapest_97 rfl rfl (Nat.le_of_ble_eq_true rfl) (Nat.le_of_ble_eq_true rfl) rfl rfl rfl (fun v σ2 q => ?_)
            obtain ⟨rfl, e9⟩ := q
            rw [e9]
            clear e9
            have hfl : fwI i t.2.2 ≤ 1 := by unfold fwI; split <;> omega
            refine tn_if_eq (t := 107) (by omega) d_Y_cheapest_100 (by decide) (fun c_100 => ?_) (fun c_100 => ?_)
            · have hnb : ¬ btJ c i t := fun y => by
                rcases y with y | ⟨y1, y2, y3⟩
                · omega
                · unfold fwI at c_100; rw [if_pos y3] at c_100; omega
              refine tt_iconst (v := nI 0) d_Y_cheapest_107 (by decide) ?_
              refine tt_istore (lv2 := [_, _, _, _, _, _, _, _, _, _, _]) d_Y_cheapest_108 (by decide) rfl ?_
              refine tt_iload d_Y_cheapest_110 rfl ?_
              refine tt_iload_n d_Y_cheapest_112 rfl ?_
              refine tt_iconst (v := (-1)) d_Y_cheapest_113 (by decide) ?_
              refine tt_ixor d_Y_cheapest_114 ?_
              refine tt_iand d_Y_cheapest_115 ?_
              refine tt_top (an_N _ _) ?_
              refine tn_if_ne (t := 149) (by omega) d_Y_cheapest_116 (by decide) (fun c_116 => ?_) (fun c_116 => ?_)
              · refine tt_iinc (lv2 := [_, _, _, _, _, _, _, _, _, _, _]) d_Y_cheapest_149 rfl (nI_inc _ 1) (by decide) rfl ?_
                refine tt_goto (t := 56) d_Y_cheapest_152 (by decide) ?_
                exact ih ((10 - c) * 1000 + (abW w + 1 - (i + 1))) (by omega) c (i + 1) t (some _) (some _) _ rfl hc (by omega) (by rw [ci_s ho (by omega), ← ht]; exact (if_neg (fun y => c_116 y.1.1)).symm) h hd0
              · refine tt_iload d_Y_cheapest_119 rfl ?_
                refine tn_if_eq (t := 149) (by omega) d_Y_cheapest_121 (by decide) (fun c_121 => ?_) (fun c_121 => ?_)
                · refine tt_iinc (lv2 := [_, _, _, _, _, _, _, _, _, _, _]) d_Y_cheapest_149 rfl (nI_inc _ 1) (by decide) rfl ?_
                  refine tt_goto (t := 56) d_Y_cheapest_152 (by decide) ?_
                  exact ih ((10 - c) * 1000 + (abW w + 1 - (i + 1))) (by omega) c (i + 1) t (some _) (some _) _ rfl hc (by omega) (by rw [ci_s ho (by omega), ← ht]; exact (if_neg (fun y => hnb y.1.2)).symm) h hd0
                · omega
            · have hnb : btJ c i t := Or.inr ⟨by omega, by omega, Decidable.byContradiction (fun y => by unfold fwI at c_100; rw [if_neg y] at c_100; exact c_100 rfl)⟩
              refine tt_iconst (v := nI 1) d_Y_cheapest_103 (by decide) ?_
              refine tt_goto (t := 108) d_Y_cheapest_104 (by decide) ?_
              refine tt_istore (lv2 := [_, _, _, _, _, _, _, _, _, _, _]) d_Y_cheapest_108 (by decide) rfl ?_
              refine tt_iload d_Y_cheapest_110 rfl ?_
              refine tt_iload_n d_Y_cheapest_112 rfl ?_
              refine tt_iconst (v := (-1)) d_Y_cheapest_113 (by decide) ?_
              refine tt_ixor d_Y_cheapest_114 ?_
              refine tt_iand d_Y_cheapest_115 ?_
              refine tt_top (an_N _ _) ?_
              refine tn_if_ne (t := 149) (by omega) d_Y_cheapest_116 (by decide) (fun c_116 => ?_) (fun c_116 => ?_)
              · refine tt_iinc (lv2 := [_, _, _, _, _, _, _, _, _, _, _]) d_Y_cheapest_149 rfl (nI_inc _ 1) (by decide) rfl ?_
                refine tt_goto (t := 56) d_Y_cheapest_152 (by decide) ?_
                exact ih ((10 - c) * 1000 + (abW w + 1 - (i + 1))) (by omega) c (i + 1) t (some _) (some _) _ rfl hc (by omega) (by rw [ci_s ho (by omega), ← ht]; exact (if_neg (fun y => c_116 y.1.1)).symm) h hd0
              · refine tt_iload d_Y_cheapest_119 rfl ?_
                refine tn_if_eq (t := 149) (by omega) d_Y_cheapest_121 (by decide) (fun c_121 => ?_) (fun c_121 => ?_)
                · omega
                · refine tt_aload_n d_Y_cheapest_124 rfl ?_
                  refine tt_iload d_Y_cheapest_125 rfl ?_
                  refine tt_iload_n d_Y_cheapest_127 rfl ?_
                  refine tt_iload d_Y_cheapest_128 rfl ?_
                  refine tt_iload_n d_Y_cheapest_130 rfl ?_
                  refine tt_callV (yq_sent (d := d) h (by omega) c_116 hf hc hn ho) cw_Y_sentIn rfl rfl (by decide) rfl (by omega) d_Y_cheapest_131 rfl rfl (Nat.le_of_ble_eq_true rfl) (Nat.le_of_ble_eq_true rfl) rfl rfl rfl (fun v σ2 q => ?_)
                  obtain ⟨rfl, h, hu⟩ := q
                  replace hd0 := hd0.un hu
                  have ha := arI_c (e := wE w) (u := prm (wV w) i f c (eN (wE w))) (f := f) (n := n) (by omega)
                  refine tt_if_lt (t := 149) d_Y_cheapest_134 (by decide) (fun c_134 => ?_) (fun c_134 => ?_)
                  · refine tt_iinc (lv2 := [_, _, _, _, _, _, _, _, _, _, _]) d_Y_cheapest_149 rfl (nI_inc _ 1) (by decide) rfl ?_
                    refine tt_goto (t := 56) d_Y_cheapest_152 (by decide) ?_
                    exact ih ((10 - c) * 1000 + (abW w + 1 - (i + 1))) (by omega) c (i + 1) t (some _) (some _) _ rfl hc (by omega) (by rw [ci_s ho (by omega), ← ht]; exact (if_neg (fun y => arB_t.mp y.2 (ha.2.1.mp c_134))).symm) h hd0
                  · refine tt_iload d_Y_cheapest_137 rfl ?_
                    refine tt_istore (lv2 := [_, _, _, _, _, _, _, _, _, _, _]) d_Y_cheapest_139 (by decide) rfl ?_
                    refine tt_iload d_Y_cheapest_141 rfl ?_
                    refine tt_istore (lv2 := [_, _, _, _, _, _, _, _, _, _, _]) d_Y_cheapest_143 (by decide) rfl ?_
                    refine tt_iload d_Y_cheapest_145 rfl ?_
                    refine tt_istore (lv2 := [_, _, _, _, _, _, _, _, _, _, _]) d_Y_cheapest_147 (by decide) rfl ?_
                    refine tt_iinc (lv2 := [_, _, _, _, _, _, _, _, _, _, _]) d_Y_cheapest_149 rfl (nI_inc _ 1) (by decide) rfl ?_
                    refine tt_goto (t := 56) d_Y_cheapest_152 (by decide) ?_
                    exact ih ((10 - c) * 1000 + (abW w + 1 - (i + 1))) (by omega) c (i + 1) (c * pcN i, c, i + 1) (some _) (some _) _ rfl hc (by omega) (by rw [ci_s ho (by omega), ← ht]; exact (if_pos ⟨⟨c_116, hnb⟩, arB_t.mpr (fun y => c_134 (ha.2.1.mpr y))⟩).symm) h hd0

set_option maxHeartbeats 4000000 in
theorem yc_cheapest {l : xLa} {d c : Nat} {σ : xs} {w : wv} (ho : okQ w) (hw : YW σ c w) {f n : Int32} : TC l M_Y_cheapest (d + 150) [.ref 154, .int f, .int n] σ (fun r τ => r = some (.int ((q_cheapest w f n).1)) ∧ YW τ c (stD w ((q_cheapest w f n).2)) ∧ YF σ τ) := by
  show T l M_Y_cheapest (d + 150) 0 _ [] σ _
  refine T_lv (lv2 := [_, _, _, _, _, _, _, _, _, _, _]) rfl ?_
  have h := YQ.rf hw.v
  have hd0 := hw.2.2.2.1
  have hb0 := ho.fb
  have hb8 := ho.n8
  rcases inN_c f (eR (wE w) * eC (wE w)) with ⟨g, hg, rfl, hq⟩ | ⟨hq, hb⟩
  · rcases rgN_c n 1 20 with ⟨k, k1, k2, k3, rfl, hq2⟩ | ⟨hq2, hb⟩
    · have hqv : q_cheapest w (nI g) (nI k) = chA (chS w g k 10) := by unfold q_cheapest; rw [hq, hq2]
      rw [hqv]
      clear hqv
      have hab : abW w < 256 := ab_lt ho (Nat.le_refl _)
      refine tt_aload_n d_Y_cheapest_0 rfl ?_
      refine tt_iconst (v := nI 0) d_Y_cheapest_1 (by decide) ?_
      refine tt_putI d_Y_cheapest_2 rfl rfl (by decide) rfl (xpok_int rfl) rfl ?_
      replace h := h.thr (x := nI 0)
      replace hd0 := hd0.thr (x := nI 0)
      refine tt_aload_n d_Y_cheapest_5 rfl ?_
      refine tt_iload_n d_Y_cheapest_6 rfl ?_
      refine tt_callV (y_isField (d := d) h.e.1.1 h.e.1.2.1 ho.1.1.2.1 ho.1.1.2.2.2.1 ho.cp) cw_Y_isField rfl rfl (by decide) rfl (by omega) d_Y_cheapest_7 rfl rfl (Nat.le_of_ble_eq_true rfl) (Nat.le_of_ble_eq_true rfl) rfl rfl rfl (fun v σ2 q => ?_)
      obtain ⟨rfl, e9⟩ := q
      rw [e9, X_in_N hg (by omega)]
      clear e9
      refine tn_if_eq (t := 25) (by omega) d_Y_cheapest_10 (by decide) (fun c_10 => ?_) (fun c_10 => ?_)
      · exact absurd c_10 (by decide)
      · refine tt_iload_n d_Y_cheapest_13 rfl ?_
        refine tt_i2l d_Y_cheapest_14 ?_
        refine tt_lconst (v := 1) d_Y_cheapest_15 (by decide) ?_
        refine tt_ldc2_w d_Y_cheapest_16 rfl ?_
        refine tt_callS (y_in (d := d)) cw_Y_in rfl (by omega) d_Y_cheapest_19 rfl rfl (Nat.le_of_ble_eq_true rfl) (Nat.le_of_ble_eq_true rfl) rfl rfl rfl (fun v σ2 q => ?_)
        obtain ⟨rfl, e9⟩ := q
        rw [e9, show Yin (nI k).toInt64 1 20 = nI 1 from Yin_t (a := 1) (b := 20) rfl rfl (by omega) (by omega) (by decide)]
        clear e9
        refine tn_if_ne (t := 27) (by omega) d_Y_cheapest_22 (by decide) (fun c_22 => ?_) (fun c_22 => ?_)
        · refine tt_aload_n d_Y_cheapest_27 rfl ?_
          refine tt_callV (y_able (d := d) h ho) cw_Y_able rfl rfl (by decide) rfl (by omega) d_Y_cheapest_28 rfl rfl (Nat.le_of_ble_eq_true rfl) (Nat.le_of_ble_eq_true rfl) rfl rfl rfl (fun v σ2 q => ?_)
          obtain ⟨rfl, e9⟩ := q
          rw [e9]
          clear e9
          refine tt_istore_n (lv2 := [_, _, _, _, _, _, _, _, _, _, _]) d_Y_cheapest_31 (by decide) rfl ?_
          refine tt_ldc_w (v := nI 1000000) d_Y_cheapest_32 rfl ?_
          refine tt_istore (lv2 := [_, _, _, _, _, _, _, _, _, _, _]) d_Y_cheapest_35 (by decide) rfl ?_
          refine tt_iconst (v := nI 0) d_Y_cheapest_37 (by decide) ?_
          refine tt_istore (lv2 := [_, _, _, _, _, _, _, _, _, _, _]) d_Y_cheapest_38 (by decide) rfl ?_
          refine tt_iconst (v := (-1)) d_Y_cheapest_40 (by decide) ?_
          refine tt_istore (lv2 := [_, _, _, _, _, _, _, _, _, _, _]) d_Y_cheapest_41 (by decide) rfl ?_
          refine tt_iconst (v := nI 0) d_Y_cheapest_43 (by decide) ?_
          refine tt_istore (lv2 := [_, _, _, _, _, _, _, _, _, _, _]) d_Y_cheapest_44 (by decide) rfl ?_
          refine tt_iload d_Y_cheapest_46 rfl ?_
          refine tt_bipush (v := nI 9) d_Y_cheapest_48 (by decide) ?_
          refine tn_ic_gt (t := 161) (by omega) (by omega) d_Y_cheapest_50 (by decide) (fun c_50 => ?_) (fun c_50 => ?_)
          · omega
          · refine tt_iconst (v := nI 0) d_Y_cheapest_53 (by decide) ?_
            refine tt_istore (lv2 := [_, _, _, _, _, _, _, _, _, _, _]) d_Y_cheapest_54 (by decide) rfl ?_
            exact y_cheap_l hg k2 ho _ 0 0 (1000000, 0, 0) none none _ rfl (by omega) (by omega) (by rw [ci_0]; rfl) h hd0
        · exact absurd c_22 (by decide)
    · have hqv : q_cheapest w (nI g) n = (-1, none) := by unfold q_cheapest; rw [hq, hq2]
      rw [hqv]
      refine tt_aload_n d_Y_cheapest_0 rfl ?_
      refine tt_iconst (v := nI 0) d_Y_cheapest_1 (by decide) ?_
      refine tt_putI d_Y_cheapest_2 rfl rfl (by decide) rfl (xpok_int rfl) rfl ?_
      replace h := h.thr (x := nI 0)
      replace hd0 := hd0.thr (x := nI 0)
      refine tt_aload_n d_Y_cheapest_5 rfl ?_
      refine tt_iload_n d_Y_cheapest_6 rfl ?_
      refine tt_callV (y_isField (d := d) h.e.1.1 h.e.1.2.1 ho.1.1.2.1 ho.1.1.2.2.2.1 ho.cp) cw_Y_isField rfl rfl (by decide) rfl (by omega) d_Y_cheapest_7 rfl rfl (Nat.le_of_ble_eq_true rfl) (Nat.le_of_ble_eq_true rfl) rfl rfl rfl (fun v σ2 q => ?_)
      obtain ⟨rfl, e9⟩ := q
      rw [e9, X_in_N hg (by omega)]
      clear e9
      refine tn_if_eq (t := 25) (by omega) d_Y_cheapest_10 (by decide) (fun c_10 => ?_) (fun c_10 => ?_)
      · exact absurd c_10 (by decide)
      · refine tt_iload_n d_Y_cheapest_13 rfl ?_
        refine tt_i2l d_Y_cheapest_14 ?_
        refine tt_lconst (v := 1) d_Y_cheapest_15 (by decide) ?_
        refine tt_ldc2_w d_Y_cheapest_16 rfl ?_
        refine tt_callS (y_in (d := d)) cw_Y_in rfl (by omega) d_Y_cheapest_19 rfl rfl (Nat.le_of_ble_eq_true rfl) (Nat.le_of_ble_eq_true rfl) rfl rfl rfl (fun v σ2 q => ?_)
        obtain ⟨rfl, e9⟩ := q
        rw [e9, show Yin n.toInt64 1 20 = nI 0 from Yin_f (a := 1) (b := 20) rfl rfl (by decide) (by decide) hb]
        clear e9
        refine tn_if_ne (t := 27) (by omega) d_Y_cheapest_22 (by decide) (fun c_22 => ?_) (fun c_22 => ?_)
        · exact absurd rfl c_22
        · refine tt_iconst (v := (-1)) d_Y_cheapest_25 (by decide) ?_
          refine tt_iret rfl d_Y_cheapest_26 ?_
          exact ⟨rfl, h.none hd0, h.2⟩
  · have hqv : q_cheapest w f n = (-1, none) := by unfold q_cheapest; rw [hq]
    rw [hqv]
    refine tt_aload_n d_Y_cheapest_0 rfl ?_
    refine tt_iconst (v := nI 0) d_Y_cheapest_1 (by decide) ?_
    refine tt_putI d_Y_cheapest_2 rfl rfl (by decide) rfl (xpok_int rfl) rfl ?_
    replace h := h.thr (x := nI 0)
    replace hd0 := hd0.thr (x := nI 0)
    refine tt_aload_n d_Y_cheapest_5 rfl ?_
    refine tt_iload_n d_Y_cheapest_6 rfl ?_
    refine tt_callV (y_isField (d := d) h.e.1.1 h.e.1.2.1 ho.1.1.2.1 ho.1.1.2.2.2.1 ho.cp) cw_Y_isField rfl rfl (by decide) rfl (by omega) d_Y_cheapest_7 rfl rfl (Nat.le_of_ble_eq_true rfl) (Nat.le_of_ble_eq_true rfl) rfl rfl rfl (fun v σ2 q => ?_)
    obtain ⟨rfl, e9⟩ := q
    rw [e9, X_in_none hb]
    clear e9
    refine tn_if_eq (t := 25) (by omega) d_Y_cheapest_10 (by decide) (fun c_10 => ?_) (fun c_10 => ?_)
    · refine tt_iconst (v := (-1)) d_Y_cheapest_25 (by decide) ?_
      refine tt_iret rfl d_Y_cheapest_26 ?_
      exact ⟨rfl, h.none hd0, h.2⟩
    · exact absurd rfl c_10

