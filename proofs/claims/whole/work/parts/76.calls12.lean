/-! Questions: rests. Printed by wip/whole. -/
def gnI (a b v : Nat) : Int32 := if b < a then nI v - nI a else if a = b then nI (v / 2) - nI (a / 2) else if 0 < a then -1 else nI 0
def ctB (a b v : Nat) : Bool := (List.range 10).all (fun z => decide (¬ gnI a b v < gnI z b v))
theorem ctB_t {a b v : Nat} : ctB a b v = true ↔ ∀ z, z < 10 → ¬ gnI a b v < gnI z b v := by
  unfold ctB
  rw [List.all_eq_true]
  exact ⟨fun h z hz => decide_eq_true_iff.mp (h z (List.mem_range.mpr hz)), fun h z hz => decide_eq_true (h z (List.mem_range.mp hz))⟩
theorem ct_x {a b v z : Nat} (hz : z < 10) (h : gnI a b v < gnI z b v) : bN (ctB a b v) = 0 := (bN_c _).2.1.mpr (Bool.eq_false_iff.mpr (fun q => ctB_t.mp q z hz h))
theorem ct_e {a b v : Nat} (h : ∀ z, z < 10 → ¬ gnI a b v < gnI z b v) : bN (ctB a b v) = 1 := (bN_c _).2.2.mpr (ctB_t.mpr h)
theorem ct_s {a b v z : Nat} (h : ∀ y, y < z → ¬ gnI a b v < gnI y b v) (h1 : ¬ gnI a b v < gnI z b v) : ∀ y, y < z + 1 → ¬ gnI a b v < gnI y b v := fun y hy => by
  by_cases c : y = z
  · rw [c]; exact h1
  · exact h y (by omega)
theorem x_gain {l : xLa} {d : Nat} {σ : xs} {a b v : Nat} (ha : a < 100) (hb : b < 100) (hv : v < 100) : TE l M_X_gain (d + 1) [.int (nI a), .int (nI b), .int (nI v)] σ (some (.int (gnI a b v))) σ := by
  show T l M_X_gain (d + 1) 0 _ [] σ _
  refine tt_iload_n d_X_gain_0 rfl ?_
  refine tt_iload_n d_X_gain_1 rfl ?_
  refine tn_ic_le (t := 9) (by omega) (by omega) d_X_gain_2 (by decide) (fun c_2 => ?_) (fun c_2 => ?_)
  · have e0 : ¬ b < a := by omega
    refine tt_iload_n d_X_gain_9 rfl ?_
    refine tt_iload_n d_X_gain_10 rfl ?_
    refine tn_ic_ne (t := 22) (by omega) (by omega) d_X_gain_11 (by decide) (fun c_11 => ?_) (fun c_11 => ?_)
    · refine tt_iload_n d_X_gain_22 rfl ?_
      refine tn_if_le (t := 30) (by omega) d_X_gain_23 (by decide) (fun c_23 => ?_) (fun c_23 => ?_)
      · rw [show gnI a b v = nI 0 from by unfold gnI; rw [if_neg e0, if_neg (by omega), if_neg (by omega)]]
        refine tt_iconst (v := nI 0) d_X_gain_30 (by decide) ?_
        refine tt_iret rfl d_X_gain_31 ?_
        exact ⟨rfl, rfl⟩
      · rw [show gnI a b v = -1 from by unfold gnI; rw [if_neg e0, if_neg (by omega), if_pos (by omega)]]
        refine tt_iconst (v := (-1)) d_X_gain_26 (by decide) ?_
        refine tt_goto (t := 31) d_X_gain_27 (by decide) ?_
        refine tt_iret rfl d_X_gain_31 ?_
        exact ⟨rfl, rfl⟩
    · rw [show gnI a b v = nI (v / 2) - nI (a / 2) from by unfold gnI; rw [if_neg e0, if_pos (by omega)]]
      refine tt_iload_n d_X_gain_14 rfl ?_
      refine tt_iconst (v := nI 2) d_X_gain_15 (by decide) ?_
      refine tn_idiv (by omega) (by omega) (by omega) d_X_gain_16 ?_
      refine tt_iload_n d_X_gain_17 rfl ?_
      refine tt_iconst (v := nI 2) d_X_gain_18 (by decide) ?_
      refine tn_idiv (by omega) (by omega) (by omega) d_X_gain_19 ?_
      refine tt_isub d_X_gain_20 ?_
      refine tt_iret rfl d_X_gain_21 ?_
      exact ⟨rfl, rfl⟩
  · rw [show gnI a b v = nI v - nI a from if_pos (by omega)]
    refine tt_iload_n d_X_gain_5 rfl ?_
    refine tt_iload_n d_X_gain_6 rfl ?_
    refine tt_isub d_X_gain_7 ?_
    refine tt_iret rfl d_X_gain_8 ?_
    exact ⟨rfl, rfl⟩

theorem y_gets {l : xLa} {d : Nat} {σ : xs} {a b v : Nat} (ha : a < 100) (hb : b < 100) (hv : v < 100) : TE l M_Y_gets (d + 2) [.int (nI a), .int (nI b), .int (nI v)] σ (some (.int (gnI a b v))) σ := by
  show T l M_Y_gets (d + 2) 0 _ [] σ _
  refine tt_iload_n d_Y_gets_0 rfl ?_
  refine tt_iload_n d_Y_gets_1 rfl ?_
  refine tn_ic_le (t := 11) (by omega) (by omega) d_Y_gets_2 (by decide) (fun c_2 => ?_) (fun c_2 => ?_)
  · have e0 : ¬ b < a := by omega
    refine tt_iload_n d_Y_gets_11 rfl ?_
    refine tt_iload_n d_Y_gets_12 rfl ?_
    refine tn_ic_ne (t := 26) (by omega) (by omega) d_Y_gets_13 (by decide) (fun c_13 => ?_) (fun c_13 => ?_)
    · refine tt_iload_n d_Y_gets_26 rfl ?_
      refine tn_if_le (t := 34) (by omega) d_Y_gets_27 (by decide) (fun c_27 => ?_) (fun c_27 => ?_)
      · rw [show gnI a b v = nI 0 from by unfold gnI; rw [if_neg e0, if_neg (by omega), if_neg (by omega)]]
        refine tt_iconst (v := nI 0) d_Y_gets_34 (by decide) ?_
        refine tt_callS (y_flagN (d := d) (by omega)) cw_Y_flag rfl (by omega) d_Y_gets_35 rfl rfl (Nat.le_of_ble_eq_true rfl) (Nat.le_of_ble_eq_true rfl) rfl rfl rfl (fun v σ2 q => ?_)
        obtain ⟨rfl, e9⟩ := q
        rw [e9]
        clear e9
        refine tt_ineg d_Y_gets_38 ?_
        refine tt_top (y := nI 0) (by decide) ?_
        refine tt_iret rfl d_Y_gets_39 ?_
        exact ⟨rfl, rfl⟩
      · rw [show gnI a b v = -1 from by unfold gnI; rw [if_neg e0, if_neg (by omega), if_pos (by omega)]]
        refine tt_iconst (v := nI 1) d_Y_gets_30 (by decide) ?_
        refine tt_goto (t := 35) d_Y_gets_31 (by decide) ?_
        refine tt_callS (y_flagN (d := d) (by omega)) cw_Y_flag rfl (by omega) d_Y_gets_35 rfl rfl (Nat.le_of_ble_eq_true rfl) (Nat.le_of_ble_eq_true rfl) rfl rfl rfl (fun v σ2 q => ?_)
        obtain ⟨rfl, e9⟩ := q
        rw [e9]
        clear e9
        refine tt_ineg d_Y_gets_38 ?_
        refine tt_top (y := -1) (by decide) ?_
        refine tt_iret rfl d_Y_gets_39 ?_
        exact ⟨rfl, rfl⟩
    · rw [show gnI a b v = nI (v / 2) - nI (a / 2) from by unfold gnI; rw [if_neg e0, if_pos (by omega)]]
      refine tt_iload_n d_Y_gets_16 rfl ?_
      refine tt_iconst (v := nI 2) d_Y_gets_17 (by decide) ?_
      refine tn_idiv (by omega) (by omega) (by omega) d_Y_gets_18 ?_
      refine tt_iload_n d_Y_gets_19 rfl ?_
      refine tt_iconst (v := nI 2) d_Y_gets_20 (by decide) ?_
      refine tn_idiv (by omega) (by omega) (by omega) d_Y_gets_21 ?_
      refine tt_isub d_Y_gets_22 ?_
      refine tt_goto (t := 39) d_Y_gets_23 (by decide) ?_
      refine tt_iret rfl d_Y_gets_39 ?_
      exact ⟨rfl, rfl⟩
  · rw [show gnI a b v = nI v - nI a from if_pos (by omega)]
    refine tt_iload_n d_Y_gets_5 rfl ?_
    refine tt_iload_n d_Y_gets_6 rfl ?_
    refine tt_isub d_Y_gets_7 ?_
    refine tt_goto (t := 39) d_Y_gets_8 (by decide) ?_
    refine tt_iret rfl d_Y_gets_39 ?_
    exact ⟨rfl, rfl⟩

theorem x_isC_l {l : xLa} {d : Nat} {σ : xs} {a b v : Nat} (ha : a < 100) (hb : b < 100) (hv : v < 100) : ∀ (m : Nat) (z : Nat), 10 - z = m → z ≤ 10 → (∀ y, y < z → ¬ gnI a b v < gnI y b v) → T l M_X_isContent (d + 2) 2 [some (.int (nI a)), some (.int (nI b)), some (.int (nI v)), some (.int (nI z))] [] σ (fun r τ => r = some (.int (nI (bN (ctB a b v)))) ∧ τ = σ) := by
  intro m
  induction m using Nat.strongRecOn with
  | ind m ih =>
    intro z hm hz hy
    refine tt_iload_n d_X_isContent_2 rfl ?_
    refine tt_bipush (v := nI 9) d_X_isContent_3 (by decide) ?_
    refine tn_ic_gt (t := 31) (by omega) (by omega) d_X_isContent_5 (by decide) (fun c_5 => ?_) (fun c_5 => ?_)
    · obtain rfl : z = 10 := by omega
      rw [ct_e hy]
      refine tt_iconst (v := nI 1) d_X_isContent_31 (by decide) ?_
      refine tt_zret rfl rfl d_X_isContent_32 ?_
      exact ⟨rfl, rfl⟩
    · refine tt_iload_n d_X_isContent_8 rfl ?_
      refine tt_iload_n d_X_isContent_9 rfl ?_
      refine tt_iload_n d_X_isContent_10 rfl ?_
      refine tt_callS (x_gain (d := d) (by omega) (by omega) (by omega)) cw_X_gain rfl (by omega) d_X_isContent_11 rfl rfl (Nat.le_of_ble_eq_true rfl) (Nat.le_of_ble_eq_true rfl) rfl rfl rfl (fun v σ2 q => ?_)
      obtain ⟨rfl, e9⟩ := q
      rw [e9]
      clear e9
      refine tt_iload_n d_X_isContent_14 rfl ?_
      refine tt_iload_n d_X_isContent_15 rfl ?_
      refine tt_iload_n d_X_isContent_16 rfl ?_
      refine tt_callS (x_gain (d := d) (by omega) (by omega) (by omega)) cw_X_gain rfl (by omega) d_X_isContent_17 rfl rfl (Nat.le_of_ble_eq_true rfl) (Nat.le_of_ble_eq_true rfl) rfl rfl rfl (fun v σ2 q => ?_)
      obtain ⟨rfl, e9⟩ := q
      rw [e9]
      clear e9
      refine tt_ic_le (t := 25) d_X_isContent_20 (by decide) (fun c_20 => ?_) (fun c_20 => ?_)
      · refine tt_iinc (lv2 := [_, _, _, _]) d_X_isContent_25 rfl (nI_inc _ 1) (by decide) rfl ?_
        refine tt_goto (t := 2) d_X_isContent_28 (by decide) ?_
        exact ih (10 - (z + 1)) (by omega) (z + 1) rfl (by omega) (ct_s hy (fun q => fa_nlt2 q c_20))
      · rw [ct_x (z := z) (by omega) (fa_nle c_20)]
        refine tt_iconst (v := nI 0) d_X_isContent_23 (by decide) ?_
        refine tt_zret rfl rfl d_X_isContent_24 ?_
        exact ⟨rfl, rfl⟩

theorem x_isC {l : xLa} {d : Nat} {σ : xs} {a b v : Nat} (ha : a < 100) (hb : b < 100) (hv : v < 100) : TE l M_X_isContent (d + 2) [.int (nI a), .int (nI b), .int (nI v)] σ (some (.int (nI (bN (ctB a b v))))) σ := by
  show T l M_X_isContent (d + 2) 0 _ [] σ _
  refine tt_iconst (v := nI 0) d_X_isContent_0 (by decide) ?_
  refine tt_istore_n (lv2 := [_, _, _, _]) d_X_isContent_1 (by decide) rfl ?_
  exact x_isC_l ha hb hv 10 0 rfl (by omega) (fun y hy => absurd hy (Nat.not_lt_zero y))

theorem y_isR_l {l : xLa} {d : Nat} {σ : xs} {a b v : Nat} (ha : a < 100) (hb : b < 100) (hv : v < 100) : ∀ (m : Nat) (z u : Nat), 10 - z = m → z ≤ 10 → u ≤ 1 → (u = 1 ↔ ∀ y, y < z → ¬ gnI a b v < gnI y b v) → T l M_Y_isRest (d + 3) 5 [some (.int (nI a)), some (.int (nI b)), some (.int (nI v)), some (.int (nI u)), some (.int (nI z))] [] σ (fun r τ => r = some (.int (nI (bN (ctB a b v)))) ∧ τ = σ) := by
  intro m
  induction m using Nat.strongRecOn with
  | ind m ih =>
    intro z u hm hz hu hy
    refine tt_iload d_Y_isRest_5 rfl ?_
    refine tt_bipush (v := nI 9) d_Y_isRest_7 (by decide) ?_
    refine tn_ic_gt (t := 44) (by omega) (by omega) d_Y_isRest_9 (by decide) (fun c_9 => ?_) (fun c_9 => ?_)
    · obtain rfl : z = 10 := by omega
      have hue : u = bN (ctB a b v) := by
        by_cases q : u = 1
        · rw [q, ct_e (hy.mp q)]
        · have hc := bN_c (ctB a b v)
          have : ¬ ctB a b v = true := fun z => q (hy.mpr (ctB_t.mp z))
          rw [hc.2.1.mpr (Bool.eq_false_iff.mpr this)]
          omega
      rw [hue]
      refine tt_iload_n d_Y_isRest_44 rfl ?_
      refine tt_zret rfl (nar_b (bN_c _).1) d_Y_isRest_45 ?_
      exact ⟨rfl, rfl⟩
    · refine tt_iload_n d_Y_isRest_12 rfl ?_
      refine tn_if_eq (t := 36) (by omega) d_Y_isRest_13 (by decide) (fun c_13 => ?_) (fun c_13 => ?_)
      · have hz2 : (0 = 1 ↔ ∀ y, y < z + 1 → ¬ gnI a b v < gnI y b v) := ⟨fun q => by omega, fun q => by have := hy.mpr (fun y hy2 => q y (by omega)); omega⟩
        refine tt_iconst (v := nI 0) d_Y_isRest_36 (by decide) ?_
        refine tt_istore_n (lv2 := [_, _, _, _, _]) d_Y_isRest_37 (by decide) rfl ?_
        refine tt_iinc (lv2 := [_, _, _, _, _]) d_Y_isRest_38 rfl (nI_inc _ 1) (by decide) rfl ?_
        refine tt_goto (t := 5) d_Y_isRest_41 (by decide) ?_
        exact ih (10 - (z + 1)) (by omega) (z + 1) _ rfl (by omega) (by omega) hz2
      · have hy1 := hy.mp (by omega)
        refine tt_iload d_Y_isRest_16 rfl ?_
        refine tt_iload_n d_Y_isRest_18 rfl ?_
        refine tt_iload_n d_Y_isRest_19 rfl ?_
        refine tt_callS (y_gets (d := d) (by omega) (by omega) (by omega)) cw_Y_gets rfl (by omega) d_Y_isRest_20 rfl rfl (Nat.le_of_ble_eq_true rfl) (Nat.le_of_ble_eq_true rfl) rfl rfl rfl (fun v σ2 q => ?_)
        obtain ⟨rfl, e9⟩ := q
        rw [e9]
        clear e9
        refine tt_iload_n d_Y_isRest_23 rfl ?_
        refine tt_iload_n d_Y_isRest_24 rfl ?_
        refine tt_iload_n d_Y_isRest_25 rfl ?_
        refine tt_callS (y_gets (d := d) (by omega) (by omega) (by omega)) cw_Y_gets rfl (by omega) d_Y_isRest_26 rfl rfl (Nat.le_of_ble_eq_true rfl) (Nat.le_of_ble_eq_true rfl) rfl rfl rfl (fun v σ2 q => ?_)
        obtain ⟨rfl, e9⟩ := q
        rw [e9]
        clear e9
        refine tt_ic_gt (t := 36) d_Y_isRest_29 (by decide) (fun c_29 => ?_) (fun c_29 => ?_)
        · have hz2 : (0 = 1 ↔ ∀ y, y < z + 1 → ¬ gnI a b v < gnI y b v) := ⟨fun q => by omega, fun q => absurd c_29 (q z (by omega))⟩
          refine tt_iconst (v := nI 0) d_Y_isRest_36 (by decide) ?_
          refine tt_istore_n (lv2 := [_, _, _, _, _]) d_Y_isRest_37 (by decide) rfl ?_
          refine tt_iinc (lv2 := [_, _, _, _, _]) d_Y_isRest_38 rfl (nI_inc _ 1) (by decide) rfl ?_
          refine tt_goto (t := 5) d_Y_isRest_41 (by decide) ?_
          exact ih (10 - (z + 1)) (by omega) (z + 1) _ rfl (by omega) (by omega) hz2
        · have hz2 : (1 = 1 ↔ ∀ y, y < z + 1 → ¬ gnI a b v < gnI y b v) := ⟨fun _ => ct_s hy1 c_29, fun _ => rfl⟩
          refine tt_iconst (v := nI 1) d_Y_isRest_32 (by decide) ?_
          refine tt_goto (t := 37) d_Y_isRest_33 (by decide) ?_
          refine tt_istore_n (lv2 := [_, _, _, _, _]) d_Y_isRest_37 (by decide) rfl ?_
          refine tt_iinc (lv2 := [_, _, _, _, _]) d_Y_isRest_38 rfl (nI_inc _ 1) (by decide) rfl ?_
          refine tt_goto (t := 5) d_Y_isRest_41 (by decide) ?_
          exact ih (10 - (z + 1)) (by omega) (z + 1) _ rfl (by omega) (by omega) hz2

theorem y_isR {l : xLa} {d : Nat} {σ : xs} {a b v : Nat} (ha : a < 100) (hb : b < 100) (hv : v < 100) : TE l M_Y_isRest (d + 3) [.int (nI a), .int (nI b), .int (nI v)] σ (some (.int (nI (bN (ctB a b v))))) σ := by
  show T l M_Y_isRest (d + 3) 0 _ [] σ _
  refine tt_iconst (v := nI 1) d_Y_isRest_0 (by decide) ?_
  refine tt_istore_n (lv2 := [_, _, _, _, _]) d_Y_isRest_1 (by decide) rfl ?_
  refine tt_iconst (v := nI 0) d_Y_isRest_2 (by decide) ?_
  refine tt_istore (lv2 := [_, _, _, _, _]) d_Y_isRest_3 (by decide) rfl ?_
  exact y_isR_l ha hb hv 10 0 1 rfl (by omega) (by omega) ⟨fun _ y hy => absurd hy (Nat.not_lt_zero y), fun _ => rfl⟩

/-- pairs at rest among the first t: how many, what is told -/
def rsF (v : Nat) : Nat → Nat × List Int64
  | 0 => (0, [])
  | t + 1 => if (ctB (t / 10) (t % 10) v && ctB (t % 10) (t / 10) v) = true then ((rsF v t).1 + 1, if (rsF v t).1 = 0 then [(nI (t / 10)).toInt64, (nI (t % 10)).toInt64] else (rsF v t).2) else rsF v t
def q_rests (v : Int32) : Int32 × Option (List Int64) := match rgN v 0 20 with
  | none => (-1, none)
  | some v => (nI (rsF v 100).1, some (rsF v 100).2)
theorem rs_f {v t n x y : Nat} {k : List Int64} (hx : t / 10 = x) (hy : t % 10 = y) (h : (n, k) = rsF v t) (c : bN (ctB x y v) = 0 ∨ bN (ctB y x v) = 0) : (n, k) = rsF v (t + 1) := by
  subst hx; subst hy
  show _ = if (ctB (t / 10) (t % 10) v && ctB (t % 10) (t / 10) v) = true then _ else rsF v t
  rw [if_neg, h]
  rcases c with q | q
  · rw [(bN_c _).2.1.mp q, Bool.false_and]; decide
  · rw [(bN_c _).2.1.mp q, Bool.and_false]; decide
theorem rs_t {v t n x y : Nat} {k : List Int64} (hx : t / 10 = x) (hy : t % 10 = y) (h : (n, k) = rsF v t) (c1 : ¬ bN (ctB x y v) = 0) (c2 : ¬ bN (ctB y x v) = 0) : (n + 1, if n = 0 then [(nI x).toInt64, (nI y).toInt64] else k) = rsF v (t + 1) := by
  subst hx; subst hy
  show _ = if (ctB (t / 10) (t % 10) v && ctB (t % 10) (t / 10) v) = true then ((rsF v t).1 + 1, if (rsF v t).1 = 0 then [(nI (t / 10)).toInt64, (nI (t % 10)).toInt64] else (rsF v t).2) else rsF v t
  have hc : (ctB (t / 10) (t % 10) v && ctB (t % 10) (t / 10) v) = true := by rw [bt1 c1, bt1 c2]; rfl
  rw [if_pos hc, ← h]
theorem rs_le (v : Nat) : ∀ t, (rsF v t).1 ≤ t ∧ (rsF v t).2.length ≤ 2 ∧ ((rsF v t).1 = 0 → (rsF v t).2 = [])
  | 0 => ⟨Nat.le_refl _, by show 0 ≤ 2; omega, fun _ => rfl⟩
  | t + 1 => by
    obtain ⟨h1, h2, h3⟩ := rs_le v t
    have e : rsF v (t + 1) = if (ctB (t / 10) (t % 10) v && ctB (t % 10) (t / 10) v) = true then ((rsF v t).1 + 1, if (rsF v t).1 = 0 then [(nI (t / 10)).toInt64, (nI (t % 10)).toInt64] else (rsF v t).2) else rsF v t := rfl
    by_cases c : (ctB (t / 10) (t % 10) v && ctB (t % 10) (t / 10) v) = true
    · rw [e, if_pos c]
      refine ⟨by show _ + 1 ≤ _ + 1; omega, ?_, fun q => absurd q (Nat.succ_ne_zero _)⟩
      show (if (rsF v t).1 = 0 then [(nI (t / 10)).toInt64, (nI (t % 10)).toInt64] else (rsF v t).2).length ≤ 2
      split
      · exact Nat.le_refl _
      · exact h2
    · rw [e, if_neg c]; exact ⟨by omega, h2, h3⟩
set_option maxHeartbeats 4000000 in
theorem x_rests_i {l : xLa} {d : Nat} {σ : xs} {w : wv} {x v : Nat} (hx : x < 10) (hv : v ≤ 20) (ho : okQ w) : ∀ (m : Nat) (y n : Nat) (k : List Int64) (τ : xs), 10 - y = m → y ≤ 10 → XQ w σ τ → XD τ (dL k) → (n, k) = rsF v (10 * x + y) → (∀ τ n k, XQ w σ τ → XD τ (dL k) → (n, k) = rsF v (10 * x + 10) → T l M_X_rests (d + 30) 23 [some (.ref 0), some (.int (nI v)), some (.int (nI n)), some (.int (nI (x + 1))), some (.int (nI 10))] [] τ (fun r τ => r = some (.int (nI (rsF v 100).1)) ∧ XW τ (stD w (some (rsF v 100).2)) ∧ XF σ τ)) → T l M_X_rests (d + 30) 32 [some (.ref 0), some (.int (nI v)), some (.int (nI n)), some (.int (nI x)), some (.int (nI y))] [] τ (fun r τ => r = some (.int (nI (rsF v 100).1)) ∧ XW τ (stD w (some (rsF v 100).2)) ∧ XF σ τ) := by
  have hb0 := ho.fb
  have hb8 := ho.n8
  intro m
  induction m using Nat.strongRecOn with
  | ind m ih =>
    intro y n k τ hm hy h hd hb hk
    have hle := rs_le v (10 * x + y)
    rw [← hb] at hle
    dsimp only at hle
    have hb1 := (bN_c (ctB x y v)).1
    have hb2 := (bN_c (ctB y x v)).1
    refine tt_iload d_X_rests_32 rfl ?_
    refine tt_bipush (v := nI 9) d_X_rests_34 (by decide) ?_
    refine tn_ic_gt (t := 91) (by omega) (by omega) d_X_rests_36 (by decide) (fun c_36 => ?_) (fun c_36 => ?_)
    · obtain rfl : y = 10 := by omega
      refine tt_iinc (lv2 := [_, _, _, _, _]) d_X_rests_91 rfl (nI_inc _ 1) (by decide) rfl ?_
      refine tt_goto (t := 23) d_X_rests_94 (by decide) ?_
      exact hk _ _ _ h hd hb
    · refine tt_iload_n d_X_rests_39 rfl ?_
      refine tt_iload d_X_rests_40 rfl ?_
      refine tt_iload_n d_X_rests_42 rfl ?_
      refine tt_callS (x_isC (d := d) (by omega) (by omega) (by omega)) cw_X_isContent rfl (by omega) d_X_rests_43 rfl rfl (Nat.le_of_ble_eq_true rfl) (Nat.le_of_ble_eq_true rfl) rfl rfl rfl (fun v σ2 q => ?_)
      obtain ⟨rfl, e9⟩ := q
      rw [e9]
      clear e9
      refine tn_if_eq (t := 85) (by omega) d_X_rests_46 (by decide) (fun c_46 => ?_) (fun c_46 => ?_)
      · have hz := rs_f (x := x) (y := y) (by omega) (by omega) hb (Or.inl c_46)
        refine tt_iinc (lv2 := [_, _, _, _, _]) d_X_rests_85 rfl (nI_inc _ 1) (by decide) rfl ?_
        refine tt_goto (t := 32) d_X_rests_88 (by decide) ?_
        exact ih (10 - (y + 1)) (by omega) (y + 1) _ _ _ rfl (by omega) h hd hz hk
      · refine tt_iload d_X_rests_49 rfl ?_
        refine tt_iload_n d_X_rests_51 rfl ?_
        refine tt_iload_n d_X_rests_52 rfl ?_
        refine tt_callS (x_isC (d := d) (by omega) (by omega) (by omega)) cw_X_isContent rfl (by omega) d_X_rests_53 rfl rfl (Nat.le_of_ble_eq_true rfl) (Nat.le_of_ble_eq_true rfl) rfl rfl rfl (fun v σ2 q => ?_)
        obtain ⟨rfl, e9⟩ := q
        rw [e9]
        clear e9
        refine tn_if_eq (t := 85) (by omega) d_X_rests_56 (by decide) (fun c_56 => ?_) (fun c_56 => ?_)
        · have hz := rs_f (x := x) (y := y) (by omega) (by omega) hb (Or.inr c_56)
          refine tt_iinc (lv2 := [_, _, _, _, _]) d_X_rests_85 rfl (nI_inc _ 1) (by decide) rfl ?_
          refine tt_goto (t := 32) d_X_rests_88 (by decide) ?_
          exact ih (10 - (y + 1)) (by omega) (y + 1) _ _ _ rfl (by omega) h hd hz hk
        · have hz := rs_t (x := x) (y := y) (by omega) (by omega) hb c_46 c_56
          refine tt_iload_n d_X_rests_59 rfl ?_
          refine tn_if_ne (t := 82) (by omega) d_X_rests_60 (by decide) (fun c_60 => ?_) (fun c_60 => ?_)
          · rw [if_neg c_60] at hz
            refine tt_iinc (lv2 := [_, _, _, _, _]) d_X_rests_82 rfl (nI_inc _ 1) (by decide) rfl ?_
            refine tt_iinc (lv2 := [_, _, _, _, _]) d_X_rests_85 rfl (nI_inc _ 1) (by decide) rfl ?_
            refine tt_goto (t := 32) d_X_rests_88 (by decide) ?_
            exact ih (10 - (y + 1)) (by omega) (y + 1) _ _ _ rfl (by omega) h hd hz hk
          · rw [if_pos c_60] at hz
            obtain rfl : k = [] := hle.2.2 c_60
            refine tt_aload_n d_X_rests_63 rfl ?_
            refine tt_getR d_X_rests_64 rfl rfl (by decide) rfl rfl ?_
            refine tt_iload_n d_X_rests_67 rfl ?_
            refine tt_i2l d_X_rests_68 ?_
            refine tt_callV (xq_add (d := d) h hd (Nat.le_of_ble_eq_true rfl)) cw_Told_add rfl rfl (by decide) rfl (by omega) d_X_rests_69 rfl rfl (Nat.le_of_ble_eq_true rfl) (Nat.le_of_ble_eq_true rfl) rfl rfl rfl (fun v σ2 q => ?_)
            obtain ⟨rfl, h, hd, hf⟩ := q
            refine tt_aload_n d_X_rests_72 rfl ?_
            refine tt_getR d_X_rests_73 rfl rfl (by decide) rfl rfl ?_
            refine tt_iload d_X_rests_76 rfl ?_
            refine tt_i2l d_X_rests_78 ?_
            refine tt_callV (xq_add (d := d) h hd (Nat.le_of_ble_eq_true rfl)) cw_Told_add rfl rfl (by decide) rfl (by omega) d_X_rests_79 rfl rfl (Nat.le_of_ble_eq_true rfl) (Nat.le_of_ble_eq_true rfl) rfl rfl rfl (fun v σ2 q => ?_)
            obtain ⟨rfl, h, hd, hf⟩ := q
            refine tt_iinc (lv2 := [_, _, _, _, _]) d_X_rests_82 rfl (nI_inc _ 1) (by decide) rfl ?_
            refine tt_iinc (lv2 := [_, _, _, _, _]) d_X_rests_85 rfl (nI_inc _ 1) (by decide) rfl ?_
            refine tt_goto (t := 32) d_X_rests_88 (by decide) ?_
            exact ih (10 - (y + 1)) (by omega) (y + 1) _ _ _ rfl (by omega) h hd hz hk

set_option maxHeartbeats 4000000 in
theorem x_rests_l {l : xLa} {d : Nat} {σ : xs} {w : wv} {v : Nat} (hv : v ≤ 20) (ho : okQ w) : ∀ (m : Nat) (x n : Nat) (k : List Int64) (z : Option Int32) (τ : xs), 10 - x = m → x ≤ 10 → XQ w σ τ → XD τ (dL k) → (n, k) = rsF v (10 * x) → T l M_X_rests (d + 30) 23 [some (.ref 0), some (.int (nI v)), some (.int (nI n)), some (.int (nI x)), z.map Value.int] [] τ (fun r τ => r = some (.int (nI (rsF v 100).1)) ∧ XW τ (stD w (some (rsF v 100).2)) ∧ XF σ τ) := by
  have hb0 := ho.fb
  have hb8 := ho.n8
  intro m
  induction m using Nat.strongRecOn with
  | ind m ih =>
    intro x n k z τ hm hx h hd hb
    have hle := rs_le v (10 * x)
    rw [← hb] at hle
    dsimp only at hle
    refine tt_iload_n d_X_rests_23 rfl ?_
    refine tt_bipush (v := nI 9) d_X_rests_24 (by decide) ?_
    refine tn_ic_gt (t := 97) (by omega) (by omega) d_X_rests_26 (by decide) (fun c_26 => ?_) (fun c_26 => ?_)
    · obtain rfl : x = 10 := by omega
      rw [← hb]
      refine tt_iload_n d_X_rests_97 rfl ?_
      refine tt_iret rfl d_X_rests_98 ?_
      exact ⟨rfl, h.done hd, h.2.1⟩
    · refine tt_iconst (v := nI 0) d_X_rests_29 (by decide) ?_
      refine tt_istore (lv2 := [_, _, _, _, _]) d_X_rests_30 (by decide) rfl ?_
      refine x_rests_i (by omega) hv ho 10 0 _ _ _ rfl (by omega) h hd hb (fun τ n k h hd hb => ?_)
      exact ih (10 - (x + 1)) (by omega) (x + 1) _ _ (some _) _ rfl (by omega) h hd hb

set_option maxHeartbeats 4000000 in
theorem y_rests_i {l : xLa} {d : Nat} {σ : xs} {c : Nat} {w : wv} {x v : Nat} (hx : x < 10) (hv : v ≤ 20) (ho : okQ w) : ∀ (m : Nat) (y n : Nat) (k : List Int64) (τ : xs), 10 - y = m → y ≤ 10 → YQ c w σ τ → YD τ (dL k) → (n, k) = rsF v (10 * x + y) → (∀ τ n k, YQ c w σ τ → YD τ (dL k) → (n, k) = rsF v (10 * x + 10) → T l M_Y_rests (d + 150) 28 [some (.ref 154), some (.int (nI v)), some (.int (nI n)), some (.int (nI (x + 1))), some (.int (nI 10))] [] τ (fun r τ => r = some (.int (nI (rsF v 100).1)) ∧ YW τ c (stD w (some (rsF v 100).2)) ∧ YF σ τ)) → T l M_Y_rests (d + 150) 37 [some (.ref 154), some (.int (nI v)), some (.int (nI n)), some (.int (nI x)), some (.int (nI y))] [] τ (fun r τ => r = some (.int (nI (rsF v 100).1)) ∧ YW τ c (stD w (some (rsF v 100).2)) ∧ YF σ τ) := by
  have hb0 := ho.fb
  have hb8 := ho.n8
  intro m
  induction m using Nat.strongRecOn with
  | ind m ih =>
    intro y n k τ hm hy h hd hb hk
    have hle := rs_le v (10 * x + y)
    rw [← hb] at hle
    dsimp only at hle
    have hb1 := (bN_c (ctB x y v)).1
    have hb2 := (bN_c (ctB y x v)).1
    refine tt_iload d_Y_rests_37 rfl ?_
    refine tt_bipush (v := nI 9) d_Y_rests_39 (by decide) ?_
    refine tn_ic_gt (t := 90) (by omega) (by omega) d_Y_rests_41 (by decide) (fun c_41 => ?_) (fun c_41 => ?_)
    · obtain rfl : y = 10 := by omega
      refine tt_iinc (lv2 := [_, _, _, _, _]) d_Y_rests_90 rfl (nI_inc _ 1) (by decide) rfl ?_
      refine tt_goto (t := 28) d_Y_rests_93 (by decide) ?_
      exact hk _ _ _ h hd hb
    · refine tt_iload_n d_Y_rests_44 rfl ?_
      refine tt_iload d_Y_rests_45 rfl ?_
      refine tt_iload_n d_Y_rests_47 rfl ?_
      refine tt_callS (y_isR (d := d) (by omega) (by omega) (by omega)) cw_Y_isRest rfl (by omega) d_Y_rests_48 rfl rfl (Nat.le_of_ble_eq_true rfl) (Nat.le_of_ble_eq_true rfl) rfl rfl rfl (fun v σ2 q => ?_)
      obtain ⟨rfl, e9⟩ := q
      rw [e9]
      clear e9
      refine tn_if_eq (t := 84) (by omega) d_Y_rests_51 (by decide) (fun c_51 => ?_) (fun c_51 => ?_)
      · have hz := rs_f (x := x) (y := y) (by omega) (by omega) hb (Or.inl c_51)
        refine tt_iinc (lv2 := [_, _, _, _, _]) d_Y_rests_84 rfl (nI_inc _ 1) (by decide) rfl ?_
        refine tt_goto (t := 37) d_Y_rests_87 (by decide) ?_
        exact ih (10 - (y + 1)) (by omega) (y + 1) _ _ _ rfl (by omega) h hd hz hk
      · refine tt_iload d_Y_rests_54 rfl ?_
        refine tt_iload_n d_Y_rests_56 rfl ?_
        refine tt_iload_n d_Y_rests_57 rfl ?_
        refine tt_callS (y_isR (d := d) (by omega) (by omega) (by omega)) cw_Y_isRest rfl (by omega) d_Y_rests_58 rfl rfl (Nat.le_of_ble_eq_true rfl) (Nat.le_of_ble_eq_true rfl) rfl rfl rfl (fun v σ2 q => ?_)
        obtain ⟨rfl, e9⟩ := q
        rw [e9]
        clear e9
        refine tn_if_eq (t := 84) (by omega) d_Y_rests_61 (by decide) (fun c_61 => ?_) (fun c_61 => ?_)
        · have hz := rs_f (x := x) (y := y) (by omega) (by omega) hb (Or.inr c_61)
          refine tt_iinc (lv2 := [_, _, _, _, _]) d_Y_rests_84 rfl (nI_inc _ 1) (by decide) rfl ?_
          refine tt_goto (t := 37) d_Y_rests_87 (by decide) ?_
          exact ih (10 - (y + 1)) (by omega) (y + 1) _ _ _ rfl (by omega) h hd hz hk
        · have hz := rs_t (x := x) (y := y) (by omega) (by omega) hb c_51 c_61
          refine tt_iload_n d_Y_rests_64 rfl ?_
          refine tn_if_ne (t := 81) (by omega) d_Y_rests_65 (by decide) (fun c_65 => ?_) (fun c_65 => ?_)
          · rw [if_neg c_65] at hz
            refine tt_iinc (lv2 := [_, _, _, _, _]) d_Y_rests_81 rfl (nI_inc _ 1) (by decide) rfl ?_
            refine tt_iinc (lv2 := [_, _, _, _, _]) d_Y_rests_84 rfl (nI_inc _ 1) (by decide) rfl ?_
            refine tt_goto (t := 37) d_Y_rests_87 (by decide) ?_
            exact ih (10 - (y + 1)) (by omega) (y + 1) _ _ _ rfl (by omega) h hd hz hk
          · rw [if_pos c_65] at hz
            obtain rfl : k = [] := hle.2.2 c_65
            refine tt_aload_n d_Y_rests_68 rfl ?_
            refine tt_iload_n d_Y_rests_69 rfl ?_
            refine tt_i2l d_Y_rests_70 ?_
            refine tt_callV (yq_add (d := d) h hd (Nat.le_of_ble_eq_true rfl)) cw_Y_enters rfl rfl (by decide) rfl (by omega) d_Y_rests_71 rfl rfl (Nat.le_of_ble_eq_true rfl) (Nat.le_of_ble_eq_true rfl) rfl rfl rfl (fun v σ2 q => ?_)
            obtain ⟨rfl, h, hd, hf⟩ := q
            refine tt_aload_n d_Y_rests_74 rfl ?_
            refine tt_iload d_Y_rests_75 rfl ?_
            refine tt_i2l d_Y_rests_77 ?_
            refine tt_callV (yq_add (d := d) h hd (Nat.le_of_ble_eq_true rfl)) cw_Y_enters rfl rfl (by decide) rfl (by omega) d_Y_rests_78 rfl rfl (Nat.le_of_ble_eq_true rfl) (Nat.le_of_ble_eq_true rfl) rfl rfl rfl (fun v σ2 q => ?_)
            obtain ⟨rfl, h, hd, hf⟩ := q
            refine tt_iinc (lv2 := [_, _, _, _, _]) d_Y_rests_81 rfl (nI_inc _ 1) (by decide) rfl ?_
            refine tt_iinc (lv2 := [_, _, _, _, _]) d_Y_rests_84 rfl (nI_inc _ 1) (by decide) rfl ?_
            refine tt_goto (t := 37) d_Y_rests_87 (by decide) ?_
            exact ih (10 - (y + 1)) (by omega) (y + 1) _ _ _ rfl (by omega) h hd hz hk

set_option maxHeartbeats 4000000 in
theorem y_rests_l {l : xLa} {d : Nat} {σ : xs} {c : Nat} {w : wv} {v : Nat} (hv : v ≤ 20) (ho : okQ w) : ∀ (m : Nat) (x n : Nat) (k : List Int64) (z : Option Int32) (τ : xs), 10 - x = m → x ≤ 10 → YQ c w σ τ → YD τ (dL k) → (n, k) = rsF v (10 * x) → T l M_Y_rests (d + 150) 28 [some (.ref 154), some (.int (nI v)), some (.int (nI n)), some (.int (nI x)), z.map Value.int] [] τ (fun r τ => r = some (.int (nI (rsF v 100).1)) ∧ YW τ c (stD w (some (rsF v 100).2)) ∧ YF σ τ) := by
  have hb0 := ho.fb
  have hb8 := ho.n8
  intro m
  induction m using Nat.strongRecOn with
  | ind m ih =>
    intro x n k z τ hm hx h hd hb
    have hle := rs_le v (10 * x)
    rw [← hb] at hle
    dsimp only at hle
    refine tt_iload_n d_Y_rests_28 rfl ?_
    refine tt_bipush (v := nI 9) d_Y_rests_29 (by decide) ?_
    refine tn_ic_gt (t := 96) (by omega) (by omega) d_Y_rests_31 (by decide) (fun c_31 => ?_) (fun c_31 => ?_)
    · obtain rfl : x = 10 := by omega
      rw [← hb]
      refine tt_iload_n d_Y_rests_96 rfl ?_
      refine tt_iret rfl d_Y_rests_97 ?_
      exact ⟨rfl, h.done hd, h.2⟩
    · refine tt_iconst (v := nI 0) d_Y_rests_34 (by decide) ?_
      refine tt_istore (lv2 := [_, _, _, _, _]) d_Y_rests_35 (by decide) rfl ?_
      refine y_rests_i (by omega) hv ho 10 0 _ _ _ rfl (by omega) h hd hb (fun τ n k h hd hb => ?_)
      exact ih (10 - (x + 1)) (by omega) (x + 1) _ _ (some _) _ rfl (by omega) h hd hb

set_option maxHeartbeats 4000000 in
theorem xc_rests {l : xLa} {d : Nat} {σ : xs} {w : wv} (ho : okQ w) (hw : XW σ w) {n : Int32} : TC l M_X_rests (d + 30) [.ref 0, .int n] σ (fun r τ => r = some (.int ((q_rests n).1)) ∧ XW τ (stD w ((q_rests n).2)) ∧ XF σ τ) := by
  show T l M_X_rests (d + 30) 0 _ [] σ _
  refine T_lv (lv2 := [_, _, _, _, _]) rfl ?_
  have h := XQ.rf hw.v
  have hd0 := hw.2.2.2.1
  have hb0 := ho.fb
  have hb8 := ho.n8
  rcases rgN_c n 0 20 with ⟨m, hm1, hm2, hm3, rfl, hq⟩ | ⟨hq, hb⟩
  · have hqv : q_rests (nI m) = (nI (rsF m 100).1, some (rsF m 100).2) := by unfold q_rests; rw [hq]
    rw [hqv]
    refine tt_iload_n d_X_rests_0 rfl ?_
    refine tn_if_lt (t := 10) (by omega) d_X_rests_1 (by decide) ?_
    refine tt_iload_n d_X_rests_4 rfl ?_
    refine tt_bipush (v := nI 20) d_X_rests_5 (by decide) ?_
    refine tn_ic_le (t := 12) (by omega) (by omega) d_X_rests_7 (by decide) (fun c_7 => ?_) (fun c_7 => ?_)
    · refine tt_iconst (v := nI 0) d_X_rests_12 (by decide) ?_
      refine tt_istore_n (lv2 := [_, _, _, _, _]) d_X_rests_13 (by decide) rfl ?_
      refine tt_aload_n d_X_rests_14 rfl ?_
      refine tt_getR d_X_rests_15 rfl rfl (by decide) rfl rfl ?_
      refine tt_callV (xq_start (d := d) h) cw_Told_start rfl rfl (by decide) rfl (by omega) d_X_rests_18 rfl rfl (Nat.le_of_ble_eq_true rfl) (Nat.le_of_ble_eq_true rfl) rfl rfl rfl (fun v σ2 q => ?_)
      obtain ⟨rfl, h, hd, hf⟩ := q
      refine tt_iconst (v := nI 0) d_X_rests_21 (by decide) ?_
      refine tt_istore_n (lv2 := [_, _, _, _, _]) d_X_rests_22 (by decide) rfl ?_
      exact x_rests_l hm2 ho 10 0 0 [] none _ rfl (by omega) h hd rfl
    · omega
  · have hqv : q_rests n = (-1, none) := by unfold q_rests; rw [hq]
    rw [hqv]
    refine tt_iload_n d_X_rests_0 rfl ?_
    refine tt_if_lt (t := 10) d_X_rests_1 (by decide) (fun c_1 => ?_) (fun c_1 => ?_)
    · refine tt_iconst (v := (-1)) d_X_rests_10 (by decide) ?_
      refine tt_iret rfl d_X_rests_11 ?_
      exact ⟨rfl, h.none hd0, h.2.1⟩
    · refine tt_iload_n d_X_rests_4 rfl ?_
      refine tt_bipush (v := nI 20) d_X_rests_5 (by decide) ?_
      refine tt_ic_le (t := 12) d_X_rests_7 (by decide) (fun c_7 => ?_) (fun c_7 => ?_)
      · exact (rg_f (a := 0) (b := 20) (by decide) (by decide) (by omega) (by rw [nI_0]; exact c_1) c_7).elim
      · refine tt_iconst (v := (-1)) d_X_rests_10 (by decide) ?_
        refine tt_iret rfl d_X_rests_11 ?_
        exact ⟨rfl, h.none hd0, h.2.1⟩

set_option maxHeartbeats 4000000 in
theorem yc_rests {l : xLa} {d c : Nat} {σ : xs} {w : wv} (ho : okQ w) (hw : YW σ c w) {n : Int32} : TC l M_Y_rests (d + 150) [.ref 154, .int n] σ (fun r τ => r = some (.int ((q_rests n).1)) ∧ YW τ c (stD w ((q_rests n).2)) ∧ YF σ τ) := by
  show T l M_Y_rests (d + 150) 0 _ [] σ _
  refine T_lv (lv2 := [_, _, _, _, _]) rfl ?_
  have h := YQ.rf hw.v
  have hd0 := hw.2.2.2.1
  have hb0 := ho.fb
  have hb8 := ho.n8
  rcases rgN_c n 0 20 with ⟨m, hm1, hm2, hm3, rfl, hq⟩ | ⟨hq, hb⟩
  · have hqv : q_rests (nI m) = (nI (rsF m 100).1, some (rsF m 100).2) := by unfold q_rests; rw [hq]
    rw [hqv]
    refine tt_aload_n d_Y_rests_0 rfl ?_
    refine tt_iconst (v := nI 0) d_Y_rests_1 (by decide) ?_
    refine tt_putI d_Y_rests_2 rfl rfl (by decide) rfl (xpok_int rfl) rfl ?_
    replace h := h.thr (x := nI 0)
    replace hd0 := hd0.thr (x := nI 0)
    refine tt_iload_n d_Y_rests_5 rfl ?_
    refine tt_i2l d_Y_rests_6 ?_
    refine tt_lconst (v := 0) d_Y_rests_7 (by decide) ?_
    refine tt_ldc2_w d_Y_rests_8 rfl ?_
    refine tt_callS (y_in (d := d)) cw_Y_in rfl (by omega) d_Y_rests_11 rfl rfl (Nat.le_of_ble_eq_true rfl) (Nat.le_of_ble_eq_true rfl) rfl rfl rfl (fun v σ2 q => ?_)
    obtain ⟨rfl, e9⟩ := q
    rw [e9, show Yin (nI m).toInt64 0 20 = nI 1 from Yin_t (a := 0) (b := 20) rfl rfl (by omega) (by omega) (by decide)]
    clear e9
    refine tn_if_ne (t := 19) (by omega) d_Y_rests_14 (by decide) (fun c_14 => ?_) (fun c_14 => ?_)
    · refine tt_iconst (v := nI 0) d_Y_rests_19 (by decide) ?_
      refine tt_istore_n (lv2 := [_, _, _, _, _]) d_Y_rests_20 (by decide) rfl ?_
      refine tt_aload_n d_Y_rests_21 rfl ?_
      refine tt_iconst (v := nI 0) d_Y_rests_22 (by decide) ?_
      refine tt_putI d_Y_rests_23 rfl rfl (by decide) rfl (xpok_int rfl) rfl ?_
      replace h := h.td0
      have hd := YD_0t h
      refine tt_iconst (v := nI 0) d_Y_rests_26 (by decide) ?_
      refine tt_istore_n (lv2 := [_, _, _, _, _]) d_Y_rests_27 (by decide) rfl ?_
      exact y_rests_l hm2 ho 10 0 0 [] none _ rfl (by omega) h hd rfl
    · exact absurd c_14 (by decide)
  · have hqv : q_rests n = (-1, none) := by unfold q_rests; rw [hq]
    rw [hqv]
    refine tt_aload_n d_Y_rests_0 rfl ?_
    refine tt_iconst (v := nI 0) d_Y_rests_1 (by decide) ?_
    refine tt_putI d_Y_rests_2 rfl rfl (by decide) rfl (xpok_int rfl) rfl ?_
    replace h := h.thr (x := nI 0)
    replace hd0 := hd0.thr (x := nI 0)
    refine tt_iload_n d_Y_rests_5 rfl ?_
    refine tt_i2l d_Y_rests_6 ?_
    refine tt_lconst (v := 0) d_Y_rests_7 (by decide) ?_
    refine tt_ldc2_w d_Y_rests_8 rfl ?_
    refine tt_callS (y_in (d := d)) cw_Y_in rfl (by omega) d_Y_rests_11 rfl rfl (Nat.le_of_ble_eq_true rfl) (Nat.le_of_ble_eq_true rfl) rfl rfl rfl (fun v σ2 q => ?_)
    obtain ⟨rfl, e9⟩ := q
    rw [e9, show Yin n.toInt64 0 20 = nI 0 from Yin_f (a := 0) (b := 20) rfl rfl (by decide) (by decide) hb]
    clear e9
    refine tn_if_ne (t := 19) (by omega) d_Y_rests_14 (by decide) (fun c_14 => ?_) (fun c_14 => ?_)
    · exact absurd c_14 (by decide)
    · refine tt_iconst (v := (-1)) d_Y_rests_17 (by decide) ?_
      refine tt_iret rfl d_Y_rests_18 ?_
      exact ⟨rfl, h.none hd0, h.2⟩

