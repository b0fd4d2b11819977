/-! FishFerry$Lake: object 5, slots rows 0, columns 1; rock 6, steps 7, queue 8. Printed by wip/whole. -/
def X_abs (z : Int32) : Int32 := if 0 ≤ z then z else 0 - z
def X_gap (C a b : Nat) : Int32 := X_abs (nI (a / C) - nI (b / C)) + X_abs (nI (a % C) - nI (b % C))
def X_fa (R C : Nat) (a b : Int32) : Int32 := if 0 ≤ a ∧ a < nI R ∧ 0 ≤ b ∧ b < nI C then a * nI C + b else -1
def X_dn (w : Nat) : Int32 := if w = 0 then -1 else if w = 2 then nI 1 else nI 0
def X_rt (w : Nat) : Int32 := if w = 1 then nI 1 else if w = 3 then -1 else nI 0
/-- the field beside f by way w, -1: none -/
def X_bes (R C f w : Nat) : Int32 := X_fa R C (nI (f / C) + X_dn w) (nI (f % C) + X_rt w)
def X_rk (σ : xs) (n : Nat) (i : Int32) : Int32 := if 0 ≤ i.toInt ∧ i.toInt < n then (if si σ 6 i.toInt.toNat = 0 then nI 0 else nI 1) else nI 0
def X_stp (σ : xs) (n : Nat) (i : Int32) : Int32 := if 0 ≤ i.toInt ∧ i.toInt < n then si σ 7 i.toInt.toNat else -1
theorem X_in_1 {i : Int32} {n : Nat} (h : ¬ X_in i n = 0) : 0 ≤ i.toInt ∧ i.toInt < n := by
  unfold X_in at h
  by_cases c : 0 ≤ i.toInt ∧ i.toInt < n
  · exact c
  · rw [if_neg c] at h; exact absurd rfl h
theorem X_in_0 {i : Int32} {n : Nat} (h : X_in i n = 0) : ¬ (0 ≤ i.toInt ∧ i.toInt < n) := by
  unfold X_in at h
  by_cases c : 0 ≤ i.toInt ∧ i.toInt < n
  · rw [if_pos c] at h; exact absurd h (by decide)
  · exact c
theorem clamp_toInt {i : Int32} (h : 0 ≤ i.toInt) : i.toNatClampNeg = i.toInt.toNat := rfl
theorem x_Lake_fields {l : Launch} {d : Nat} {σ : xs} {R C : Nat} (hr : sf σ 5 0 = nI R) (hc : sf σ 5 1 = nI C) (hR : R ≤ 6) (hC : C ≤ 6) (hC0 : 0 < C) : TE l M_Lake_fields (d + 1) [.ref 5] σ (some (.int (nI (R * C)))) (σ) := by
  show T l M_Lake_fields (d + 1) 0 _ [] σ _
  refine tt_aload_n d_Lake_fields_0 rfl ?_
  refine tn_get d_Lake_fields_1 rfl rfl (by decide) rfl hr ?_
  refine tt_aload_n d_Lake_fields_4 rfl ?_
  refine tn_get d_Lake_fields_5 rfl rfl (by decide) rfl hc ?_
  refine tn_imul d_Lake_fields_8 ?_
  refine tt_iret rfl d_Lake_fields_9 ?_
  exact ⟨rfl, rfl⟩

theorem x_Lake_has {l : Launch} {d : Nat} {σ : xs} {i : Int32} {R C : Nat} (hr : sf σ 5 0 = nI R) (hc : sf σ 5 1 = nI C) (hR : R ≤ 6) (hC : C ≤ 6) (hC0 : 0 < C) : TE l M_Lake_has (d + 2) [.ref 5, .int i] σ (some (.int (X_in i (R * C)))) (σ) := by
  show T l M_Lake_has (d + 2) 0 _ [] σ _
  have hRC : R * C ≤ 36 := Nat.mul_le_mul hR hC
  refine tt_iload_n d_Lake_has_0 rfl ?_
  refine tt_if_lt (t := 22) d_Lake_has_1 (by decide) (fun c_1 => ?_) (fun c_1 => ?_)
  · refine tt_iconst (v := nI 0) d_Lake_has_22 (by decide) ?_
    refine tt_zret rfl rfl d_Lake_has_23 ?_
    refine ⟨congrArg (fun w => some (Value.int w)) ?_, rfl⟩
    unfold X_in
    first
      | (rw [if_pos]; rw [fa_lt', Int32.toInt_zero] at c_1; rw [fa_le', nI_toInt (by omega)] at c_9; omega)
      | (rw [if_neg]; simp only [fa_lt', fa_le', Int32.toInt_zero, nI_toInt (show R * C < 2 ^ 31 by omega), nI_toInt (show 36 < 2 ^ 31 by omega)] at *; omega)
  · refine tt_iload_n d_Lake_has_4 rfl ?_
    refine tt_aload_n d_Lake_has_5 rfl ?_
    refine tt_callV (x_Lake_fields (d := d) hr hc hR hC hC0) cw_Lake_fields rfl rfl (by decide) rfl (by omega) d_Lake_has_6 rfl rfl (Nat.le_of_ble_eq_true rfl) (Nat.le_of_ble_eq_true rfl) rfl rfl rfl (fun v σ2 q => ?_)
    obtain ⟨rfl, e9⟩ := q
    rw [e9]
    clear e9
    refine tt_ic_ge (t := 22) d_Lake_has_9 (by decide) (fun c_9 => ?_) (fun c_9 => ?_)
    · refine tt_iconst (v := nI 0) d_Lake_has_22 (by decide) ?_
      refine tt_zret rfl rfl d_Lake_has_23 ?_
      refine ⟨congrArg (fun w => some (Value.int w)) ?_, rfl⟩
      unfold X_in
      first
        | (rw [if_pos]; rw [fa_lt', Int32.toInt_zero] at c_1; rw [fa_le', nI_toInt (by omega)] at c_9; omega)
        | (rw [if_neg]; simp only [fa_lt', fa_le', Int32.toInt_zero, nI_toInt (show R * C < 2 ^ 31 by omega), nI_toInt (show 36 < 2 ^ 31 by omega)] at *; omega)
    · refine tt_iload_n d_Lake_has_12 rfl ?_
      refine tt_bipush (v := nI 36) d_Lake_has_13 (by decide) ?_
      refine tt_ic_ge (t := 22) d_Lake_has_15 (by decide) (fun c_15 => ?_) (fun c_15 => ?_)
      · refine tt_iconst (v := nI 0) d_Lake_has_22 (by decide) ?_
        refine tt_zret rfl rfl d_Lake_has_23 ?_
        refine ⟨congrArg (fun w => some (Value.int w)) ?_, rfl⟩
        unfold X_in
        first
          | (rw [if_pos]; rw [fa_lt', Int32.toInt_zero] at c_1; rw [fa_le', nI_toInt (by omega)] at c_9; omega)
          | (rw [if_neg]; simp only [fa_lt', fa_le', Int32.toInt_zero, nI_toInt (show R * C < 2 ^ 31 by omega), nI_toInt (show 36 < 2 ^ 31 by omega)] at *; omega)
      · refine tt_iconst (v := nI 1) d_Lake_has_18 (by decide) ?_
        refine tt_goto (t := 23) d_Lake_has_19 (by decide) ?_
        refine tt_zret rfl rfl d_Lake_has_23 ?_
        refine ⟨congrArg (fun w => some (Value.int w)) ?_, rfl⟩
        unfold X_in
        first
          | (rw [if_pos]; rw [fa_lt', Int32.toInt_zero] at c_1; rw [fa_le', nI_toInt (by omega)] at c_9; omega)
          | (rw [if_neg]; simp only [fa_lt', fa_le', Int32.toInt_zero, nI_toInt (show R * C < 2 ^ 31 by omega), nI_toInt (show 36 < 2 ^ 31 by omega)] at *; omega)

theorem x_Lake_isRock {l : Launch} {d : Nat} {σ : xs} {i : Int32} {R C : Nat} (hr : sf σ 5 0 = nI R) (hc : sf σ 5 1 = nI C) (hR : R ≤ 6) (hC : C ≤ 6) (hC0 : 0 < C) : TE l M_Lake_isRock (d + 3) [.ref 5, .int i] σ (some (.int (X_rk σ (R * C) i))) (σ) := by
  show T l M_Lake_isRock (d + 3) 0 _ [] σ _
  have hRC : R * C ≤ 36 := Nat.mul_le_mul hR hC
  refine tt_aload_n d_Lake_isRock_0 rfl ?_
  refine tt_iload_n d_Lake_isRock_1 rfl ?_
  refine tt_callV (x_Lake_has (d := d) hr hc hR hC hC0) cw_Lake_has rfl rfl (by decide) rfl (by omega) d_Lake_isRock_2 rfl rfl (Nat.le_of_ble_eq_true rfl) (Nat.le_of_ble_eq_true rfl) rfl rfl rfl (fun v σ2 q => ?_)
  obtain ⟨rfl, e9⟩ := q
  rw [e9]
  clear e9
  refine tt_if_eq (t := 21) d_Lake_isRock_5 (by decide) (fun c_5 => ?_) (fun c_5 => ?_)
  · refine tt_iconst (v := nI 0) d_Lake_isRock_21 (by decide) ?_
    refine tt_zret rfl rfl d_Lake_isRock_22 ?_
    refine ⟨congrArg (fun w => some (Value.int w)) ?_, rfl⟩
    unfold X_rk
    first
      | (rw [if_neg (X_in_0 c_5)])
      | (rw [if_pos (X_in_1 c_5), ← clamp_toInt (X_in_1 c_5).1]; first | rw [if_pos c_14] | rw [if_neg c_14])
  · refine tt_aload_n d_Lake_isRock_8 rfl ?_
    refine tt_getR d_Lake_isRock_9 rfl rfl (by decide) rfl rfl ?_
    refine tt_iload_n d_Lake_isRock_12 rfl ?_
    refine tt_zald d_Lake_isRock_13 rfl (by obtain ⟨z1, z2⟩ := X_in_1 c_5; exact vp_in_iff.mpr ⟨z1, by omega⟩) ?_
    refine tt_if_eq (t := 21) d_Lake_isRock_14 (by decide) (fun c_14 => ?_) (fun c_14 => ?_)
    · refine tt_iconst (v := nI 0) d_Lake_isRock_21 (by decide) ?_
      refine tt_zret rfl rfl d_Lake_isRock_22 ?_
      refine ⟨congrArg (fun w => some (Value.int w)) ?_, rfl⟩
      unfold X_rk
      first
        | (rw [if_neg (X_in_0 c_5)])
        | (rw [if_pos (X_in_1 c_5), ← clamp_toInt (X_in_1 c_5).1]; first | rw [if_pos c_14] | rw [if_neg c_14])
    · refine tt_iconst (v := nI 1) d_Lake_isRock_17 (by decide) ?_
      refine tt_goto (t := 22) d_Lake_isRock_18 (by decide) ?_
      refine tt_zret rfl rfl d_Lake_isRock_22 ?_
      refine ⟨congrArg (fun w => some (Value.int w)) ?_, rfl⟩
      unfold X_rk
      first
        | (rw [if_neg (X_in_0 c_5)])
        | (rw [if_pos (X_in_1 c_5), ← clamp_toInt (X_in_1 c_5).1]; first | rw [if_pos c_14] | rw [if_neg c_14])

theorem x_Lake_rowOf {l : Launch} {d : Nat} {σ : xs} {k : Nat} (hk : k < 2 ^ 31) {R C : Nat} (hr : sf σ 5 0 = nI R) (hc : sf σ 5 1 = nI C) (hR : R ≤ 6) (hC : C ≤ 6) (hC0 : 0 < C) : TE l M_Lake_rowOf (d + 1) [.ref 5, .int (nI k)] σ (some (.int (nI (k / C)))) (σ) := by
  show T l M_Lake_rowOf (d + 1) 0 _ [] σ _
  refine tt_aload_n d_Lake_rowOf_0 rfl ?_
  refine tn_get d_Lake_rowOf_1 rfl rfl (by decide) rfl hc ?_
  refine tn_if_le (t := 16) (by omega) d_Lake_rowOf_4 (by decide) (fun c_4 => ?_) (fun c_4 => ?_)
  · omega
  · refine tt_iload_n d_Lake_rowOf_7 rfl ?_
    refine tt_aload_n d_Lake_rowOf_8 rfl ?_
    refine tn_get d_Lake_rowOf_9 rfl rfl (by decide) rfl hc ?_
    refine tn_idiv (by omega) (by omega) (by omega) d_Lake_rowOf_12 ?_
    refine tt_goto (t := 17) d_Lake_rowOf_13 (by decide) ?_
    refine tt_iret rfl d_Lake_rowOf_17 ?_
    exact ⟨rfl, rfl⟩

theorem x_Lake_columnOf {l : Launch} {d : Nat} {σ : xs} {k : Nat} (hk : k < 2 ^ 31) {R C : Nat} (hr : sf σ 5 0 = nI R) (hc : sf σ 5 1 = nI C) (hR : R ≤ 6) (hC : C ≤ 6) (hC0 : 0 < C) : TE l M_Lake_columnOf (d + 1) [.ref 5, .int (nI k)] σ (some (.int (nI (k % C)))) (σ) := by
  show T l M_Lake_columnOf (d + 1) 0 _ [] σ _
  refine tt_aload_n d_Lake_columnOf_0 rfl ?_
  refine tn_get d_Lake_columnOf_1 rfl rfl (by decide) rfl hc ?_
  refine tn_if_le (t := 16) (by omega) d_Lake_columnOf_4 (by decide) (fun c_4 => ?_) (fun c_4 => ?_)
  · omega
  · refine tt_iload_n d_Lake_columnOf_7 rfl ?_
    refine tt_aload_n d_Lake_columnOf_8 rfl ?_
    refine tn_get d_Lake_columnOf_9 rfl rfl (by decide) rfl hc ?_
    refine tn_irem (by omega) (by omega) (by omega) d_Lake_columnOf_12 ?_
    refine tt_goto (t := 17) d_Lake_columnOf_13 (by decide) ?_
    refine tt_iret rfl d_Lake_columnOf_17 ?_
    exact ⟨rfl, rfl⟩

theorem x_Lake_stepsTo {l : Launch} {d : Nat} {σ : xs} {i : Int32} {R C : Nat} (hr : sf σ 5 0 = nI R) (hc : sf σ 5 1 = nI C) (hR : R ≤ 6) (hC : C ≤ 6) (hC0 : 0 < C) : TE l M_Lake_stepsTo (d + 3) [.ref 5, .int i] σ (some (.int (X_stp σ (R * C) i))) (σ) := by
  show T l M_Lake_stepsTo (d + 3) 0 _ [] σ _
  have hRC : R * C ≤ 36 := Nat.mul_le_mul hR hC
  refine tt_aload_n d_Lake_stepsTo_0 rfl ?_
  refine tt_iload_n d_Lake_stepsTo_1 rfl ?_
  refine tt_callV (x_Lake_has (d := d) hr hc hR hC hC0) cw_Lake_has rfl rfl (by decide) rfl (by omega) d_Lake_stepsTo_2 rfl rfl (Nat.le_of_ble_eq_true rfl) (Nat.le_of_ble_eq_true rfl) rfl rfl rfl (fun v σ2 q => ?_)
  obtain ⟨rfl, e9⟩ := q
  rw [e9]
  clear e9
  refine tt_if_eq (t := 17) d_Lake_stepsTo_5 (by decide) (fun c_5 => ?_) (fun c_5 => ?_)
  · refine tt_iconst (v := (-1)) d_Lake_stepsTo_17 (by decide) ?_
    refine tt_iret rfl d_Lake_stepsTo_18 ?_
    refine ⟨congrArg (fun w => some (Value.int w)) ?_, rfl⟩
    unfold X_stp
    first
      | (rw [if_neg (X_in_0 c_5)])
      | (rw [if_pos (X_in_1 c_5), ← clamp_toInt (X_in_1 c_5).1])
  · refine tt_aload_n d_Lake_stepsTo_8 rfl ?_
    refine tt_getR d_Lake_stepsTo_9 rfl rfl (by decide) rfl rfl ?_
    refine tt_iload_n d_Lake_stepsTo_12 rfl ?_
    refine tt_iald d_Lake_stepsTo_13 rfl (by obtain ⟨z1, z2⟩ := X_in_1 c_5; exact vp_in_iff.mpr ⟨z1, by omega⟩) ?_
    refine tt_goto (t := 18) d_Lake_stepsTo_14 (by decide) ?_
    refine tt_iret rfl d_Lake_stepsTo_18 ?_
    refine ⟨congrArg (fun w => some (Value.int w)) ?_, rfl⟩
    unfold X_stp
    first
      | (rw [if_neg (X_in_0 c_5)])
      | (rw [if_pos (X_in_1 c_5), ← clamp_toInt (X_in_1 c_5).1])

theorem x_Lake_gap {l : Launch} {d : Nat} {σ : xs} {a b : Nat} (ha : a < 2 ^ 31) (hb : b < 2 ^ 31) {R C : Nat} (hr : sf σ 5 0 = nI R) (hc : sf σ 5 1 = nI C) (hR : R ≤ 6) (hC : C ≤ 6) (hC0 : 0 < C) : TE l M_Lake_gap (d + 2) [.ref 5, .int (nI a), .int (nI b)] σ (some (.int (X_gap C a b))) (σ) := by
  show T l M_Lake_gap (d + 2) 0 _ [] σ _
  refine tt_aload_n d_Lake_gap_0 rfl ?_
  refine tt_iload_n d_Lake_gap_1 rfl ?_
  refine tt_callV (x_Lake_rowOf (d := d) (k := a) (by omega) hr hc hR hC hC0) cw_Lake_rowOf rfl rfl (by decide) rfl (by omega) d_Lake_gap_2 rfl rfl (Nat.le_of_ble_eq_true rfl) (Nat.le_of_ble_eq_true rfl) rfl rfl rfl (fun v σ2 q => ?_)
  obtain ⟨rfl, e9⟩ := q
  rw [e9]
  clear e9
  refine tt_aload_n d_Lake_gap_5 rfl ?_
  refine tt_iload_n d_Lake_gap_6 rfl ?_
  refine tt_callV (x_Lake_rowOf (d := d) (k := b) (by omega) hr hc hR hC hC0) cw_Lake_rowOf rfl rfl (by decide) rfl (by omega) d_Lake_gap_7 rfl rfl (Nat.le_of_ble_eq_true rfl) (Nat.le_of_ble_eq_true rfl) rfl rfl rfl (fun v σ2 q => ?_)
  obtain ⟨rfl, e9⟩ := q
  rw [e9]
  clear e9
  refine tt_isub d_Lake_gap_10 ?_
  refine tt_abs d_Lake_gap_11 rfl (Nat.le_of_ble_eq_true rfl) ?_
  refine tt_aload_n d_Lake_gap_14 rfl ?_
  refine tt_iload_n d_Lake_gap_15 rfl ?_
  refine tt_callV (x_Lake_columnOf (d := d) (k := a) (by omega) hr hc hR hC hC0) cw_Lake_columnOf rfl rfl (by decide) rfl (by omega) d_Lake_gap_16 rfl rfl (Nat.le_of_ble_eq_true rfl) (Nat.le_of_ble_eq_true rfl) rfl rfl rfl (fun v σ2 q => ?_)
  obtain ⟨rfl, e9⟩ := q
  rw [e9]
  clear e9
  refine tt_aload_n d_Lake_gap_19 rfl ?_
  refine tt_iload_n d_Lake_gap_20 rfl ?_
  refine tt_callV (x_Lake_columnOf (d := d) (k := b) (by omega) hr hc hR hC hC0) cw_Lake_columnOf rfl rfl (by decide) rfl (by omega) d_Lake_gap_21 rfl rfl (Nat.le_of_ble_eq_true rfl) (Nat.le_of_ble_eq_true rfl) rfl rfl rfl (fun v σ2 q => ?_)
  obtain ⟨rfl, e9⟩ := q
  rw [e9]
  clear e9
  refine tt_isub d_Lake_gap_24 ?_
  refine tt_abs d_Lake_gap_25 rfl (Nat.le_of_ble_eq_true rfl) ?_
  refine tt_iadd d_Lake_gap_28 ?_
  refine tt_iret rfl d_Lake_gap_29 ?_
  exact ⟨rfl, rfl⟩

theorem x_Lake_isDiagonal {l : Launch} {d : Nat} {σ : xs} {a b : Nat} (ha : a < 2 ^ 31) (hb : b < 2 ^ 31) {R C : Nat} (hr : sf σ 5 0 = nI R) (hc : sf σ 5 1 = nI C) (hR : R ≤ 6) (hC : C ≤ 6) (hC0 : 0 < C) : TE l M_Lake_isDiagonal (d + 2) [.ref 5, .int (nI a), .int (nI b)] σ (some (.int (if X_abs (nI (a / C) - nI (b / C)) = X_abs (nI (a % C) - nI (b % C)) then nI 1 else nI 0))) (σ) := by
  show T l M_Lake_isDiagonal (d + 2) 0 _ [] σ _
  refine tt_aload_n d_Lake_isDiagonal_0 rfl ?_
  refine tt_iload_n d_Lake_isDiagonal_1 rfl ?_
  refine tt_callV (x_Lake_rowOf (d := d) (k := a) (by omega) hr hc hR hC hC0) cw_Lake_rowOf rfl rfl (by decide) rfl (by omega) d_Lake_isDiagonal_2 rfl rfl (Nat.le_of_ble_eq_true rfl) (Nat.le_of_ble_eq_true rfl) rfl rfl rfl (fun v σ2 q => ?_)
  obtain ⟨rfl, e9⟩ := q
  rw [e9]
  clear e9
  refine tt_aload_n d_Lake_isDiagonal_5 rfl ?_
  refine tt_iload_n d_Lake_isDiagonal_6 rfl ?_
  refine tt_callV (x_Lake_rowOf (d := d) (k := b) (by omega) hr hc hR hC hC0) cw_Lake_rowOf rfl rfl (by decide) rfl (by omega) d_Lake_isDiagonal_7 rfl rfl (Nat.le_of_ble_eq_true rfl) (Nat.le_of_ble_eq_true rfl) rfl rfl rfl (fun v σ2 q => ?_)
  obtain ⟨rfl, e9⟩ := q
  rw [e9]
  clear e9
  refine tt_isub d_Lake_isDiagonal_10 ?_
  refine tt_abs d_Lake_isDiagonal_11 rfl (Nat.le_of_ble_eq_true rfl) ?_
  refine tt_aload_n d_Lake_isDiagonal_14 rfl ?_
  refine tt_iload_n d_Lake_isDiagonal_15 rfl ?_
  refine tt_callV (x_Lake_columnOf (d := d) (k := a) (by omega) hr hc hR hC hC0) cw_Lake_columnOf rfl rfl (by decide) rfl (by omega) d_Lake_isDiagonal_16 rfl rfl (Nat.le_of_ble_eq_true rfl) (Nat.le_of_ble_eq_true rfl) rfl rfl rfl (fun v σ2 q => ?_)
  obtain ⟨rfl, e9⟩ := q
  rw [e9]
  clear e9
  refine tt_aload_n d_Lake_isDiagonal_19 rfl ?_
  refine tt_iload_n d_Lake_isDiagonal_20 rfl ?_
  refine tt_callV (x_Lake_columnOf (d := d) (k := b) (by omega) hr hc hR hC hC0) cw_Lake_columnOf rfl rfl (by decide) rfl (by omega) d_Lake_isDiagonal_21 rfl rfl (Nat.le_of_ble_eq_true rfl) (Nat.le_of_ble_eq_true rfl) rfl rfl rfl (fun v σ2 q => ?_)
  obtain ⟨rfl, e9⟩ := q
  rw [e9]
  clear e9
  refine tt_isub d_Lake_isDiagonal_24 ?_
  refine tt_abs d_Lake_isDiagonal_25 rfl (Nat.le_of_ble_eq_true rfl) ?_
  refine tt_ic_ne (t := 35) d_Lake_isDiagonal_28 (by decide) (fun c_28 => ?_) (fun c_28 => ?_)
  · refine tt_iconst (v := nI 0) d_Lake_isDiagonal_35 (by decide) ?_
    refine tt_zret rfl rfl d_Lake_isDiagonal_36 ?_
    refine ⟨congrArg (fun w => some (Value.int w)) ?_, rfl⟩
    first | exact (if_neg c_28).symm | exact (if_pos (Classical.not_not.mp c_28)).symm
  · refine tt_iconst (v := nI 1) d_Lake_isDiagonal_31 (by decide) ?_
    refine tt_goto (t := 36) d_Lake_isDiagonal_32 (by decide) ?_
    refine tt_zret rfl rfl d_Lake_isDiagonal_36 ?_
    refine ⟨congrArg (fun w => some (Value.int w)) ?_, rfl⟩
    first | exact (if_neg c_28).symm | exact (if_pos (Classical.not_not.mp c_28)).symm

