/-! FishFerry$Lake: object 5, slots rows 0, columns 1; rock 6, steps 7, queue 8. Printed by wip/whole. -/
theorem nn1 {p q : Prop} (h : ¬ p) : ¬ (p ∧ q) := fun z => h z.1
theorem nn2 {p q : Prop} (h : ¬ q) : ¬ (p ∧ q) := fun z => h z.2
theorem nnN {p : Prop} (h : p) : ¬ ¬ p := fun z => z h
theorem nnO {p q : Prop} (h : ¬ p) (h2 : ¬ q) : ¬ (p ∨ q) := fun z => z.elim h h2
theorem fa_ngt {a b : Int32} (h : a ≤ b) : ¬ b < a := fun z => fa_nlt2 z h
def X_abs (z : Int32) : Int32 := if 0 ≤ z then z else 0 - z
def X_gap (C a b : Nat) : Int32 := X_abs (nI (a / C) - nI (b / C)) + X_abs (nI (a % C) - nI (b % C))
def X_fa (R C : Nat) (a b : Int32) : Int32 := if 0 ≤ a ∧ a < nI R ∧ 0 ≤ b ∧ b < nI C then a * nI C + b else -1
def X_dn (w : Nat) : Int32 := if w = 0 then -1 else if w = 2 then nI 1 else nI 0
def X_rt (w : Nat) : Int32 := if w = 1 then nI 1 else if w = 3 then -1 else nI 0
/-- the field beside f by way w, -1: none -/
def X_bes (R C f w : Nat) : Int32 := X_fa R C (nI (f / C) + X_dn w) (nI (f % C) + X_rt w)
def X_rk (σ : xs) (n : Nat) (i : Int32) : Int32 := if 0 ≤ i.toInt ∧ i.toInt < n then (if si σ 6 i.toInt.toNat = 0 then nI 0 else nI 1) else nI 0
def X_stp (σ : xs) (n : Nat) (i : Int32) : Int32 := if 0 ≤ i.toInt ∧ i.toInt < n then si σ 7 i.toInt.toNat else -1
theorem X_in_1 {i : Int32} {n : Nat} (h : ¬ X_in i n = 0) : 0 ≤ i.toInt ∧ i.toInt < n := by
  unfold X_in at h
  by_cases c : 0 ≤ i.toInt ∧ i.toInt < n
  · exact c
  · rw [if_neg c] at h; exact absurd rfl h
theorem X_in_0 {i : Int32} {n : Nat} (h : X_in i n = 0) : ¬ (0 ≤ i.toInt ∧ i.toInt < n) := by
  unfold X_in at h
  by_cases c : 0 ≤ i.toInt ∧ i.toInt < n
  · rw [if_pos c] at h; exact absurd h (by decide)
  · exact c
theorem clamp_toInt {i : Int32} (h : 0 ≤ i.toInt) : i.toNatClampNeg = i.toInt.toNat := rfl
theorem x_Lake_fields {l : xLa} {d : Nat} {σ : xs} {R C : Nat} (hr : sf σ 5 0 = nI R) (hc : sf σ 5 1 = nI C) (hR : R ≤ 6) (hC : C ≤ 6) (hC0 : 0 < C) : TE l M_Lake_fields (d + 1) [.ref 5] σ (some (.int (nI (R * C)))) (σ) := by
  show T l M_Lake_fields (d + 1) 0 _ [] σ _
  refine tt_aload_n d_Lake_fields_0 rfl ?_
  refine tn_get d_Lake_fields_1 rfl rfl (by decide) rfl hr ?_
  refine tt_aload_n d_Lake_fields_4 rfl ?_
  refine tn_get d_Lake_fields_5 rfl rfl (by decide) rfl hc ?_
  refine tn_imul d_Lake_fields_8 ?_
  refine tt_iret rfl d_Lake_fields_9 ?_
  exact ⟨rfl, rfl⟩

theorem x_Lake_has {l : xLa} {d : Nat} {σ : xs} {i : Int32} {R C : Nat} (hr : sf σ 5 0 = nI R) (hc : sf σ 5 1 = nI C) (hR : R ≤ 6) (hC : C ≤ 6) (hC0 : 0 < C) : TE l M_Lake_has (d + 2) [.ref 5, .int i] σ (some (.int (X_in i (R * C)))) (σ) := by
  show T l M_Lake_has (d + 2) 0 _ [] σ _
  have hRC : R * C ≤ 36 := Nat.mul_le_mul hR hC
  refine tt_iload_n d_Lake_has_0 rfl ?_
  refine tt_if_lt (t := 22) d_Lake_has_1 (by decide) (fun c_1 => ?_) (fun c_1 => ?_)
  · refine tt_iconst (v := nI 0) d_Lake_has_22 (by decide) ?_
    refine tt_zret rfl rfl d_Lake_has_23 ?_
    refine ⟨congrArg (fun w => some (Value.int w)) ?_, rfl⟩
    unfold X_in
    first
      | (rw [if_pos]; rw [fa_lt', Int32.toInt_zero] at c_1; rw [fa_le', nI_toInt (by omega)] at c_9; omega)
      | (rw [if_neg]; simp only [fa_lt', fa_le', Int32.toInt_zero, nI_toInt (show R * C < 2 ^ 31 by omega), nI_toInt (show 36 < 2 ^ 31 by omega)] at *; omega)
  · refine tt_iload_n d_Lake_has_4 rfl ?_
    refine tt_aload_n d_Lake_has_5 rfl ?_
    refine tt_callV (x_Lake_fields (d := d) hr hc hR hC hC0) cw_Lake_fields rfl rfl (by decide) rfl (by omega) d_Lake_has_6 rfl rfl (Nat.le_of_ble_eq_true rfl) (Nat.le_of_ble_eq_true rfl) rfl rfl rfl (fun v σ2 q => ?_)
    obtain ⟨rfl, e9⟩ := q
    rw [e9]
    clear e9
    refine tt_ic_ge (t := 22) d_Lake_has_9 (by decide) (fun c_9 => ?_) (fun c_9 => ?_)
    · refine tt_iconst (v := nI 0) d_Lake_has_22 (by decide) ?_
      refine tt_zret rfl rfl d_Lake_has_23 ?_
      refine ⟨congrArg (fun w => some (Value.int w)) ?_, rfl⟩
      unfold X_in
      first
        | (rw [if_pos]; rw [fa_lt', Int32.toInt_zero] at c_1; rw [fa_le', nI_toInt (by omega)] at c_9; omega)
        | (rw [if_neg]; simp only [fa_lt', fa_le', Int32.toInt_zero, nI_toInt (show R * C < 2 ^ 31 by omega), nI_toInt (show 36 < 2 ^ 31 by omega)] at *; omega)
    · refine tt_iload_n d_Lake_has_12 rfl ?_
      refine tt_bipush (v := nI 36) d_Lake_has_13 (by decide) ?_
      refine tt_ic_ge (t := 22) d_Lake_has_15 (by decide) (fun c_15 => ?_) (fun c_15 => ?_)
      · refine tt_iconst (v := nI 0) d_Lake_has_22 (by decide) ?_
        refine tt_zret rfl rfl d_Lake_has_23 ?_
        refine ⟨congrArg (fun w => some (Value.int w)) ?_, rfl⟩
        unfold X_in
        first
          | (rw [if_pos]; rw [fa_lt', Int32.toInt_zero] at c_1; rw [fa_le', nI_toInt (by omega)] at c_9; omega)
          | (rw [if_neg]; simp only [fa_lt', fa_le', Int32.toInt_zero, nI_toInt (show R * C < 2 ^ 31 by omega), nI_toInt (show 36 < 2 ^ 31 by omega)] at *; omega)
      · refine tt_iconst (v := nI 1) d_Lake_has_18 (by decide) ?_
        refine tt_goto (t := 23) d_Lake_has_19 (by decide) ?_
        refine tt_zret rfl rfl d_Lake_has_23 ?_
        refine ⟨congrArg (fun w => some (Value.int w)) ?_, rfl⟩
        unfold X_in
        first
          | (rw [if_pos]; rw [fa_lt', Int32.toInt_zero] at c_1; rw [fa_le', nI_toInt (by omega)] at c_9; omega)
          | (rw [if_neg]; simp only [fa_lt', fa_le', Int32.toInt_zero, nI_toInt (show R * C < 2 ^ 31 by omega), nI_toInt (show 36 < 2 ^ 31 by omega)] at *; omega)

theorem x_Lake_isRock {l : xLa} {d : Nat} {σ : xs} {i : Int32} {R C : Nat} (hr : sf σ 5 0 = nI R) (hc : sf σ 5 1 = nI C) (hR : R ≤ 6) (hC : C ≤ 6) (hC0 : 0 < C) : TE l M_Lake_isRock (d + 3) [.ref 5, .int i] σ (some (.int (X_rk σ (R * C) i))) (σ) := by
  show T l M_Lake_isRock (d + 3) 0 _ [] σ _
  have hRC : R * C ≤ 36 := Nat.mul_le_mul hR hC
  refine tt_aload_n d_Lake_isRock_0 rfl ?_
  refine tt_iload_n d_Lake_isRock_1 rfl ?_
  refine tt_callV (x_Lake_has (d := d) hr hc hR hC hC0) cw_Lake_has rfl rfl (by decide) rfl (by omega) d_Lake_isRock_2 rfl rfl (Nat.le_of_ble_eq_true rfl) (Nat.le_of_ble_eq_true rfl) rfl rfl rfl (fun v σ2 q => ?_)
  obtain ⟨rfl, e9⟩ := q
  rw [e9]
  clear e9
  refine tt_if_eq (t := 21) d_Lake_isRock_5 (by decide) (fun c_5 => ?_) (fun c_5 => ?_)
  · refine tt_iconst (v := nI 0) d_Lake_isRock_21 (by decide) ?_
    refine tt_zret rfl rfl d_Lake_isRock_22 ?_
    refine ⟨congrArg (fun w => some (Value.int w)) ?_, rfl⟩
    unfold X_rk
    first
      | (rw [if_neg (X_in_0 c_5)])
      | (rw [if_pos (X_in_1 c_5), ← clamp_toInt (X_in_1 c_5).1]; first | rw [if_pos c_14] | rw [if_neg c_14])
  · refine tt_aload_n d_Lake_isRock_8 rfl ?_
    refine tt_getR d_Lake_isRock_9 rfl rfl (by decide) rfl rfl ?_
    refine tt_iload_n d_Lake_isRock_12 rfl ?_
    refine tt_zald d_Lake_isRock_13 rfl (by obtain ⟨z1, z2⟩ := X_in_1 c_5; exact vp_in_iff.mpr ⟨z1, by omega⟩) ?_
    refine tt_if_eq (t := 21) d_Lake_isRock_14 (by decide) (fun c_14 => ?_) (fun c_14 => ?_)
    · refine tt_iconst (v := nI 0) d_Lake_isRock_21 (by decide) ?_
      refine tt_zret rfl rfl d_Lake_isRock_22 ?_
      refine ⟨congrArg (fun w => some (Value.int w)) ?_, rfl⟩
      unfold X_rk
      first
        | (rw [if_neg (X_in_0 c_5)])
        | (rw [if_pos (X_in_1 c_5), ← clamp_toInt (X_in_1 c_5).1]; first | rw [if_pos c_14] | rw [if_neg c_14])
    · refine tt_iconst (v := nI 1) d_Lake_isRock_17 (by decide) ?_
      refine tt_goto (t := 22) d_Lake_isRock_18 (by decide) ?_
      refine tt_zret rfl rfl d_Lake_isRock_22 ?_
      refine ⟨congrArg (fun w => some (Value.int w)) ?_, rfl⟩
      unfold X_rk
      first
        | (rw [if_neg (X_in_0 c_5)])
        | (rw [if_pos (X_in_1 c_5), ← clamp_toInt (X_in_1 c_5).1]; first | rw [if_pos c_14] | rw [if_neg c_14])

theorem x_Lake_rowOf {l : xLa} {d : Nat} {σ : xs} {k : Nat} (hk : k < 2 ^ 31) {R C : Nat} (hr : sf σ 5 0 = nI R) (hc : sf σ 5 1 = nI C) (hR : R ≤ 6) (hC : C ≤ 6) (hC0 : 0 < C) : TE l M_Lake_rowOf (d + 1) [.ref 5, .int (nI k)] σ (some (.int (nI (k / C)))) (σ) := by
  show T l M_Lake_rowOf (d + 1) 0 _ [] σ _
  refine tt_aload_n d_Lake_rowOf_0 rfl ?_
  refine tn_get d_Lake_rowOf_1 rfl rfl (by decide) rfl hc ?_
  refine tn_if_le (t := 16) (by omega) d_Lake_rowOf_4 (by decide) (fun c_4 => ?_) (fun c_4 => ?_)
  · omega
  · refine tt_iload_n d_Lake_rowOf_7 rfl ?_
    refine tt_aload_n d_Lake_rowOf_8 rfl ?_
    refine tn_get d_Lake_rowOf_9 rfl rfl (by decide) rfl hc ?_
    refine tn_idiv (by omega) (by omega) (by omega) d_Lake_rowOf_12 ?_
    refine tt_goto (t := 17) d_Lake_rowOf_13 (by decide) ?_
    refine tt_iret rfl d_Lake_rowOf_17 ?_
    exact ⟨rfl, rfl⟩

theorem x_Lake_columnOf {l : xLa} {d : Nat} {σ : xs} {k : Nat} (hk : k < 2 ^ 31) {R C : Nat} (hr : sf σ 5 0 = nI R) (hc : sf σ 5 1 = nI C) (hR : R ≤ 6) (hC : C ≤ 6) (hC0 : 0 < C) : TE l M_Lake_columnOf (d + 1) [.ref 5, .int (nI k)] σ (some (.int (nI (k % C)))) (σ) := by
  show T l M_Lake_columnOf (d + 1) 0 _ [] σ _
  refine tt_aload_n d_Lake_columnOf_0 rfl ?_
  refine tn_get d_Lake_columnOf_1 rfl rfl (by decide) rfl hc ?_
  refine tn_if_le (t := 16) (by omega) d_Lake_columnOf_4 (by decide) (fun c_4 => ?_) (fun c_4 => ?_)
  · omega
  · refine tt_iload_n d_Lake_columnOf_7 rfl ?_
    refine tt_aload_n d_Lake_columnOf_8 rfl ?_
    refine tn_get d_Lake_columnOf_9 rfl rfl (by decide) rfl hc ?_
    refine tn_irem (by omega) (by omega) (by omega) d_Lake_columnOf_12 ?_
    refine tt_goto (t := 17) d_Lake_columnOf_13 (by decide) ?_
    refine tt_iret rfl d_Lake_columnOf_17 ?_
    exact ⟨rfl, rfl⟩

theorem x_Lake_stepsTo {l : xLa} {d : Nat} {σ : xs} {i : Int32} {R C : Nat} (hr : sf σ 5 0 = nI R) (hc : sf σ 5 1 = nI C) (hR : R ≤ 6) (hC : C ≤ 6) (hC0 : 0 < C) : TE l M_Lake_stepsTo (d + 3) [.ref 5, .int i] σ (some (.int (X_stp σ (R * C) i))) (σ) := by
  show T l M_Lake_stepsTo (d + 3) 0 _ [] σ _
  have hRC : R * C ≤ 36 := Nat.mul_le_mul hR hC
  refine tt_aload_n d_Lake_stepsTo_0 rfl ?_
  refine tt_iload_n d_Lake_stepsTo_1 rfl ?_
  refine tt_callV (x_Lake_has (d := d) hr hc hR hC hC0) cw_Lake_has rfl rfl (by decide) rfl (by omega) d_Lake_stepsTo_2 rfl rfl (Nat.le_of_ble_eq_true rfl) (Nat.le_of_ble_eq_true rfl) rfl rfl rfl (fun v σ2 q => ?_)
  obtain ⟨rfl, e9⟩ := q
  rw [e9]
  clear e9
  refine tt_if_eq (t := 17) d_Lake_stepsTo_5 (by decide) (fun c_5 => ?_) (fun c_5 => ?_)
  · refine tt_iconst (v := (-1)) d_Lake_stepsTo_17 (by decide) ?_
    refine tt_iret rfl d_Lake_stepsTo_18 ?_
    refine ⟨congrArg (fun w => some (Value.int w)) ?_, rfl⟩
    unfold X_stp
    first
      | (rw [if_neg (X_in_0 c_5)])
      | (rw [if_pos (X_in_1 c_5), ← clamp_toInt (X_in_1 c_5).1])
  · refine tt_aload_n d_Lake_stepsTo_8 rfl ?_
    refine tt_getR d_Lake_stepsTo_9 rfl rfl (by decide) rfl rfl ?_
    refine tt_iload_n d_Lake_stepsTo_12 rfl ?_
    refine tt_iald d_Lake_stepsTo_13 rfl (by obtain ⟨z1, z2⟩ := X_in_1 c_5; exact vp_in_iff.mpr ⟨z1, by omega⟩) ?_
    refine tt_goto (t := 18) d_Lake_stepsTo_14 (by decide) ?_
    refine tt_iret rfl d_Lake_stepsTo_18 ?_
    refine ⟨congrArg (fun w => some (Value.int w)) ?_, rfl⟩
    unfold X_stp
    first
      | (rw [if_neg (X_in_0 c_5)])
      | (rw [if_pos (X_in_1 c_5), ← clamp_toInt (X_in_1 c_5).1])

theorem x_Lake_gap {l : xLa} {d : Nat} {σ : xs} {a b : Nat} (ha : a < 2 ^ 31) (hb : b < 2 ^ 31) {R C : Nat} (hr : sf σ 5 0 = nI R) (hc : sf σ 5 1 = nI C) (hR : R ≤ 6) (hC : C ≤ 6) (hC0 : 0 < C) : TE l M_Lake_gap (d + 2) [.ref 5, .int (nI a), .int (nI b)] σ (some (.int (X_gap C a b))) (σ) := by
  show T l M_Lake_gap (d + 2) 0 _ [] σ _
  refine tt_aload_n d_Lake_gap_0 rfl ?_
  refine tt_iload_n d_Lake_gap_1 rfl ?_
  refine tt_callV (x_Lake_rowOf (d := d) (k := a) (by omega) hr hc hR hC hC0) cw_Lake_rowOf rfl rfl (by decide) rfl (by omega) d_Lake_gap_2 rfl rfl (Nat.le_of_ble_eq_true rfl) (Nat.le_of_ble_eq_true rfl) rfl rfl rfl (fun v σ2 q => ?_)
  obtain ⟨rfl, e9⟩ := q
  rw [e9]
  clear e9
  refine tt_aload_n d_Lake_gap_5 rfl ?_
  refine tt_iload_n d_Lake_gap_6 rfl ?_
  refine tt_callV (x_Lake_rowOf (d := d) (k := b) (by omega) hr hc hR hC hC0) cw_Lake_rowOf rfl rfl (by decide) rfl (by omega) d_Lake_gap_7 rfl rfl (Nat.le_of_ble_eq_true rfl) (Nat.le_of_ble_eq_true rfl) rfl rfl rfl (fun v σ2 q => ?_)
  obtain ⟨rfl, e9⟩ := q
  rw [e9]
  clear e9
  refine tt_isub d_Lake_gap_10 ?_
  refine tt_abs d_Lake_gap_11 rfl (Nat.le_of_ble_eq_true rfl) ?_
  refine tt_aload_n d_Lake_gap_14 rfl ?_
  refine tt_iload_n d_Lake_gap_15 rfl ?_
  refine tt_callV (x_Lake_columnOf (d := d) (k := a) (by omega) hr hc hR hC hC0) cw_Lake_columnOf rfl rfl (by decide) rfl (by omega) d_Lake_gap_16 rfl rfl (Nat.le_of_ble_eq_true rfl) (Nat.le_of_ble_eq_true rfl) rfl rfl rfl (fun v σ2 q => ?_)
  obtain ⟨rfl, e9⟩ := q
  rw [e9]
  clear e9
  refine tt_aload_n d_Lake_gap_19 rfl ?_
  refine tt_iload_n d_Lake_gap_20 rfl ?_
  refine tt_callV (x_Lake_columnOf (d := d) (k := b) (by omega) hr hc hR hC hC0) cw_Lake_columnOf rfl rfl (by decide) rfl (by omega) d_Lake_gap_21 rfl rfl (Nat.le_of_ble_eq_true rfl) (Nat.le_of_ble_eq_true rfl) rfl rfl rfl (fun v σ2 q => ?_)
  obtain ⟨rfl, e9⟩ := q
  rw [e9]
  clear e9
  refine tt_isub d_Lake_gap_24 ?_
  refine tt_abs d_Lake_gap_25 rfl (Nat.le_of_ble_eq_true rfl) ?_
  refine tt_iadd d_Lake_gap_28 ?_
  refine tt_iret rfl d_Lake_gap_29 ?_
  exact ⟨rfl, rfl⟩

theorem x_Lake_isDiagonal {l : xLa} {d : Nat} {σ : xs} {a b : Nat} (ha : a < 2 ^ 31) (hb : b < 2 ^ 31) {R C : Nat} (hr : sf σ 5 0 = nI R) (hc : sf σ 5 1 = nI C) (hR : R ≤ 6) (hC : C ≤ 6) (hC0 : 0 < C) : TE l M_Lake_isDiagonal (d + 2) [.ref 5, .int (nI a), .int (nI b)] σ (some (.int (if X_abs (nI (a / C) - nI (b / C)) = X_abs (nI (a % C) - nI (b % C)) then nI 1 else nI 0))) (σ) := by
  show T l M_Lake_isDiagonal (d + 2) 0 _ [] σ _
  refine tt_aload_n d_Lake_isDiagonal_0 rfl ?_
  refine tt_iload_n d_Lake_isDiagonal_1 rfl ?_
  refine tt_callV (x_Lake_rowOf (d := d) (k := a) (by omega) hr hc hR hC hC0) cw_Lake_rowOf rfl rfl (by decide) rfl (by omega) d_Lake_isDiagonal_2 rfl rfl (Nat.le_of_ble_eq_true rfl) (Nat.le_of_ble_eq_true rfl) rfl rfl rfl (fun v σ2 q => ?_)
  obtain ⟨rfl, e9⟩ := q
  rw [e9]
  clear e9
  refine tt_aload_n d_Lake_isDiagonal_5 rfl ?_
  refine tt_iload_n d_Lake_isDiagonal_6 rfl ?_
  refine tt_callV (x_Lake_rowOf (d := d) (k := b) (by omega) hr hc hR hC hC0) cw_Lake_rowOf rfl rfl (by decide) rfl (by omega) d_Lake_isDiagonal_7 rfl rfl (Nat.le_of_ble_eq_true rfl) (Nat.le_of_ble_eq_true rfl) rfl rfl rfl (fun v σ2 q => ?_)
  obtain ⟨rfl, e9⟩ := q
  rw [e9]
  clear e9
  refine tt_isub d_Lake_isDiagonal_10 ?_
  refine tt_abs d_Lake_isDiagonal_11 rfl (Nat.le_of_ble_eq_true rfl) ?_
  refine tt_aload_n d_Lake_isDiagonal_14 rfl ?_
  refine tt_iload_n d_Lake_isDiagonal_15 rfl ?_
  refine tt_callV (x_Lake_columnOf (d := d) (k := a) (by omega) hr hc hR hC hC0) cw_Lake_columnOf rfl rfl (by decide) rfl (by omega) d_Lake_isDiagonal_16 rfl rfl (Nat.le_of_ble_eq_true rfl) (Nat.le_of_ble_eq_true rfl) rfl rfl rfl (fun v σ2 q => ?_)
  obtain ⟨rfl, e9⟩ := q
  rw [e9]
  clear e9
  refine tt_aload_n d_Lake_isDiagonal_19 rfl ?_
  refine tt_iload_n d_Lake_isDiagonal_20 rfl ?_
  refine tt_callV (x_Lake_columnOf (d := d) (k := b) (by omega) hr hc hR hC hC0) cw_Lake_columnOf rfl rfl (by decide) rfl (by omega) d_Lake_isDiagonal_21 rfl rfl (Nat.le_of_ble_eq_true rfl) (Nat.le_of_ble_eq_true rfl) rfl rfl rfl (fun v σ2 q => ?_)
  obtain ⟨rfl, e9⟩ := q
  rw [e9]
  clear e9
  refine tt_isub d_Lake_isDiagonal_24 ?_
  refine tt_abs d_Lake_isDiagonal_25 rfl (Nat.le_of_ble_eq_true rfl) ?_
  refine tt_ic_ne (t := 35) d_Lake_isDiagonal_28 (by decide) (fun c_28 => ?_) (fun c_28 => ?_)
  · refine tt_iconst (v := nI 0) d_Lake_isDiagonal_35 (by decide) ?_
    refine tt_zret rfl rfl d_Lake_isDiagonal_36 ?_
    refine ⟨congrArg (fun w => some (Value.int w)) ?_, rfl⟩
    first | exact (if_neg c_28).symm | exact (if_pos (Classical.not_not.mp c_28)).symm
  · refine tt_iconst (v := nI 1) d_Lake_isDiagonal_31 (by decide) ?_
    refine tt_goto (t := 36) d_Lake_isDiagonal_32 (by decide) ?_
    refine tt_zret rfl rfl d_Lake_isDiagonal_36 ?_
    refine ⟨congrArg (fun w => some (Value.int w)) ?_, rfl⟩
    first | exact (if_neg c_28).symm | exact (if_pos (Classical.not_not.mp c_28)).symm

theorem x_Lake_fieldAt {l : xLa} {d : Nat} {σ : xs} {a b : Int32} {R C : Nat} (hr : sf σ 5 0 = nI R) (hc : sf σ 5 1 = nI C) (hR : R ≤ 6) (hC : C ≤ 6) (hC0 : 0 < C) : TE l M_Lake_fieldAt (d + 1) [.ref 5, .int a, .int b] σ (some (.int (X_fa R C a b))) (σ) := by
  show T l M_Lake_fieldAt (d + 1) 0 _ [] σ _
  refine tt_iload_n d_Lake_fieldAt_0 rfl ?_
  refine tt_if_lt (t := 28) d_Lake_fieldAt_1 (by decide) (fun c_1 => ?_) (fun c_1 => ?_)
  · refine tt_iconst (v := nI 0) d_Lake_fieldAt_28 (by decide) ?_
    refine tt_istore_n d_Lake_fieldAt_29 (by decide) rfl ?_
    refine tt_iload_n d_Lake_fieldAt_30 rfl ?_
    refine tn_if_eq (t := 45) (by omega) d_Lake_fieldAt_31 (by decide) (fun c_31 => ?_) (fun c_31 => ?_)
    · refine tt_iconst (v := (-1)) d_Lake_fieldAt_45 (by decide) ?_
      refine tt_iret rfl d_Lake_fieldAt_46 ?_
      refine ⟨congrArg (fun w => some (Value.int w)) ?_, rfl⟩
      first
        | exact absurd c_31 (by decide)
        | exact absurd rfl c_31
        | exact (if_pos ⟨fa_nlt c_1, fa_nle c_9, fa_nlt c_13, fa_nle c_21⟩).symm
        | exact (if_neg (fun q => fa_nlt2 c_1 q.1)).symm
        | exact (if_neg (fun q => fa_nlt2 q.2.1 c_9)).symm
        | exact (if_neg (fun q => fa_nlt2 c_13 q.2.2.1)).symm
        | exact (if_neg (fun q => fa_nlt2 q.2.2.2 c_21)).symm
    · refine tt_iload_n d_Lake_fieldAt_34 rfl ?_
      refine tt_aload_n d_Lake_fieldAt_35 rfl ?_
      refine tn_get d_Lake_fieldAt_36 rfl rfl (by decide) rfl hc ?_
      refine tt_imul d_Lake_fieldAt_39 ?_
      refine tt_iload_n d_Lake_fieldAt_40 rfl ?_
      refine tt_iadd d_Lake_fieldAt_41 ?_
      refine tt_goto (t := 46) d_Lake_fieldAt_42 (by decide) ?_
      refine tt_iret rfl d_Lake_fieldAt_46 ?_
      refine ⟨congrArg (fun w => some (Value.int w)) ?_, rfl⟩
      first
        | exact absurd c_31 (by decide)
        | exact absurd rfl c_31
        | exact (if_pos ⟨fa_nlt c_1, fa_nle c_9, fa_nlt c_13, fa_nle c_21⟩).symm
        | exact (if_neg (fun q => fa_nlt2 c_1 q.1)).symm
        | exact (if_neg (fun q => fa_nlt2 q.2.1 c_9)).symm
        | exact (if_neg (fun q => fa_nlt2 c_13 q.2.2.1)).symm
        | exact (if_neg (fun q => fa_nlt2 q.2.2.2 c_21)).symm
  · refine tt_iload_n d_Lake_fieldAt_4 rfl ?_
    refine tt_aload_n d_Lake_fieldAt_5 rfl ?_
    refine tn_get d_Lake_fieldAt_6 rfl rfl (by decide) rfl hr ?_
    refine tt_ic_ge (t := 28) d_Lake_fieldAt_9 (by decide) (fun c_9 => ?_) (fun c_9 => ?_)
    · refine tt_iconst (v := nI 0) d_Lake_fieldAt_28 (by decide) ?_
      refine tt_istore_n d_Lake_fieldAt_29 (by decide) rfl ?_
      refine tt_iload_n d_Lake_fieldAt_30 rfl ?_
      refine tn_if_eq (t := 45) (by omega) d_Lake_fieldAt_31 (by decide) (fun c_31 => ?_) (fun c_31 => ?_)
      · refine tt_iconst (v := (-1)) d_Lake_fieldAt_45 (by decide) ?_
        refine tt_iret rfl d_Lake_fieldAt_46 ?_
        refine ⟨congrArg (fun w => some (Value.int w)) ?_, rfl⟩
        first
          | exact absurd c_31 (by decide)
          | exact absurd rfl c_31
          | exact (if_pos ⟨fa_nlt c_1, fa_nle c_9, fa_nlt c_13, fa_nle c_21⟩).symm
          | exact (if_neg (fun q => fa_nlt2 c_1 q.1)).symm
          | exact (if_neg (fun q => fa_nlt2 q.2.1 c_9)).symm
          | exact (if_neg (fun q => fa_nlt2 c_13 q.2.2.1)).symm
          | exact (if_neg (fun q => fa_nlt2 q.2.2.2 c_21)).symm
      · refine tt_iload_n d_Lake_fieldAt_34 rfl ?_
        refine tt_aload_n d_Lake_fieldAt_35 rfl ?_
        refine tn_get d_Lake_fieldAt_36 rfl rfl (by decide) rfl hc ?_
        refine tt_imul d_Lake_fieldAt_39 ?_
        refine tt_iload_n d_Lake_fieldAt_40 rfl ?_
        refine tt_iadd d_Lake_fieldAt_41 ?_
        refine tt_goto (t := 46) d_Lake_fieldAt_42 (by decide) ?_
        refine tt_iret rfl d_Lake_fieldAt_46 ?_
        refine ⟨congrArg (fun w => some (Value.int w)) ?_, rfl⟩
        first
          | exact absurd c_31 (by decide)
          | exact absurd rfl c_31
          | exact (if_pos ⟨fa_nlt c_1, fa_nle c_9, fa_nlt c_13, fa_nle c_21⟩).symm
          | exact (if_neg (fun q => fa_nlt2 c_1 q.1)).symm
          | exact (if_neg (fun q => fa_nlt2 q.2.1 c_9)).symm
          | exact (if_neg (fun q => fa_nlt2 c_13 q.2.2.1)).symm
          | exact (if_neg (fun q => fa_nlt2 q.2.2.2 c_21)).symm
    · refine tt_iload_n d_Lake_fieldAt_12 rfl ?_
      refine tt_if_lt (t := 28) d_Lake_fieldAt_13 (by decide) (fun c_13 => ?_) (fun c_13 => ?_)
      · refine tt_iconst (v := nI 0) d_Lake_fieldAt_28 (by decide) ?_
        refine tt_istore_n d_Lake_fieldAt_29 (by decide) rfl ?_
        refine tt_iload_n d_Lake_fieldAt_30 rfl ?_
        refine tn_if_eq (t := 45) (by omega) d_Lake_fieldAt_31 (by decide) (fun c_31 => ?_) (fun c_31 => ?_)
        · refine tt_iconst (v := (-1)) d_Lake_fieldAt_45 (by decide) ?_
          refine tt_iret rfl d_Lake_fieldAt_46 ?_
          refine ⟨congrArg (fun w => some (Value.int w)) ?_, rfl⟩
          first
            | exact absurd c_31 (by decide)
            | exact absurd rfl c_31
            | exact (if_pos ⟨fa_nlt c_1, fa_nle c_9, fa_nlt c_13, fa_nle c_21⟩).symm
            | exact (if_neg (fun q => fa_nlt2 c_1 q.1)).symm
            | exact (if_neg (fun q => fa_nlt2 q.2.1 c_9)).symm
            | exact (if_neg (fun q => fa_nlt2 c_13 q.2.2.1)).symm
            | exact (if_neg (fun q => fa_nlt2 q.2.2.2 c_21)).symm
        · refine tt_iload_n d_Lake_fieldAt_34 rfl ?_
          refine tt_aload_n d_Lake_fieldAt_35 rfl ?_
          refine tn_get d_Lake_fieldAt_36 rfl rfl (by decide) rfl hc ?_
          refine tt_imul d_Lake_fieldAt_39 ?_
          refine tt_iload_n d_Lake_fieldAt_40 rfl ?_
          refine tt_iadd d_Lake_fieldAt_41 ?_
          refine tt_goto (t := 46) d_Lake_fieldAt_42 (by decide) ?_
          refine tt_iret rfl d_Lake_fieldAt_46 ?_
          refine ⟨congrArg (fun w => some (Value.int w)) ?_, rfl⟩
          first
            | exact absurd c_31 (by decide)
            | exact absurd rfl c_31
            | exact (if_pos ⟨fa_nlt c_1, fa_nle c_9, fa_nlt c_13, fa_nle c_21⟩).symm
            | exact (if_neg (fun q => fa_nlt2 c_1 q.1)).symm
            | exact (if_neg (fun q => fa_nlt2 q.2.1 c_9)).symm
            | exact (if_neg (fun q => fa_nlt2 c_13 q.2.2.1)).symm
            | exact (if_neg (fun q => fa_nlt2 q.2.2.2 c_21)).symm
      · refine tt_iload_n d_Lake_fieldAt_16 rfl ?_
        refine tt_aload_n d_Lake_fieldAt_17 rfl ?_
        refine tn_get d_Lake_fieldAt_18 rfl rfl (by decide) rfl hc ?_
        refine tt_ic_ge (t := 28) d_Lake_fieldAt_21 (by decide) (fun c_21 => ?_) (fun c_21 => ?_)
        · refine tt_iconst (v := nI 0) d_Lake_fieldAt_28 (by decide) ?_
          refine tt_istore_n d_Lake_fieldAt_29 (by decide) rfl ?_
          refine tt_iload_n d_Lake_fieldAt_30 rfl ?_
          refine tn_if_eq (t := 45) (by omega) d_Lake_fieldAt_31 (by decide) (fun c_31 => ?_) (fun c_31 => ?_)
          · refine tt_iconst (v := (-1)) d_Lake_fieldAt_45 (by decide) ?_
            refine tt_iret rfl d_Lake_fieldAt_46 ?_
            refine ⟨congrArg (fun w => some (Value.int w)) ?_, rfl⟩
            first
              | exact absurd c_31 (by decide)
              | exact absurd rfl c_31
              | exact (if_pos ⟨fa_nlt c_1, fa_nle c_9, fa_nlt c_13, fa_nle c_21⟩).symm
              | exact (if_neg (fun q => fa_nlt2 c_1 q.1)).symm
              | exact (if_neg (fun q => fa_nlt2 q.2.1 c_9)).symm
              | exact (if_neg (fun q => fa_nlt2 c_13 q.2.2.1)).symm
              | exact (if_neg (fun q => fa_nlt2 q.2.2.2 c_21)).symm
          · refine tt_iload_n d_Lake_fieldAt_34 rfl ?_
            refine tt_aload_n d_Lake_fieldAt_35 rfl ?_
            refine tn_get d_Lake_fieldAt_36 rfl rfl (by decide) rfl hc ?_
            refine tt_imul d_Lake_fieldAt_39 ?_
            refine tt_iload_n d_Lake_fieldAt_40 rfl ?_
            refine tt_iadd d_Lake_fieldAt_41 ?_
            refine tt_goto (t := 46) d_Lake_fieldAt_42 (by decide) ?_
            refine tt_iret rfl d_Lake_fieldAt_46 ?_
            refine ⟨congrArg (fun w => some (Value.int w)) ?_, rfl⟩
            first
              | exact absurd c_31 (by decide)
              | exact absurd rfl c_31
              | exact (if_pos ⟨fa_nlt c_1, fa_nle c_9, fa_nlt c_13, fa_nle c_21⟩).symm
              | exact (if_neg (fun q => fa_nlt2 c_1 q.1)).symm
              | exact (if_neg (fun q => fa_nlt2 q.2.1 c_9)).symm
              | exact (if_neg (fun q => fa_nlt2 c_13 q.2.2.1)).symm
              | exact (if_neg (fun q => fa_nlt2 q.2.2.2 c_21)).symm
        · refine tt_iconst (v := nI 1) d_Lake_fieldAt_24 (by decide) ?_
          refine tt_goto (t := 29) d_Lake_fieldAt_25 (by decide) ?_
          refine tt_istore_n d_Lake_fieldAt_29 (by decide) rfl ?_
          refine tt_iload_n d_Lake_fieldAt_30 rfl ?_
          refine tn_if_eq (t := 45) (by omega) d_Lake_fieldAt_31 (by decide) (fun c_31 => ?_) (fun c_31 => ?_)
          · refine tt_iconst (v := (-1)) d_Lake_fieldAt_45 (by decide) ?_
            refine tt_iret rfl d_Lake_fieldAt_46 ?_
            refine ⟨congrArg (fun w => some (Value.int w)) ?_, rfl⟩
            first
              | exact absurd c_31 (by decide)
              | exact absurd rfl c_31
              | exact (if_pos ⟨fa_nlt c_1, fa_nle c_9, fa_nlt c_13, fa_nle c_21⟩).symm
              | exact (if_neg (fun q => fa_nlt2 c_1 q.1)).symm
              | exact (if_neg (fun q => fa_nlt2 q.2.1 c_9)).symm
              | exact (if_neg (fun q => fa_nlt2 c_13 q.2.2.1)).symm
              | exact (if_neg (fun q => fa_nlt2 q.2.2.2 c_21)).symm
          · refine tt_iload_n d_Lake_fieldAt_34 rfl ?_
            refine tt_aload_n d_Lake_fieldAt_35 rfl ?_
            refine tn_get d_Lake_fieldAt_36 rfl rfl (by decide) rfl hc ?_
            refine tt_imul d_Lake_fieldAt_39 ?_
            refine tt_iload_n d_Lake_fieldAt_40 rfl ?_
            refine tt_iadd d_Lake_fieldAt_41 ?_
            refine tt_goto (t := 46) d_Lake_fieldAt_42 (by decide) ?_
            refine tt_iret rfl d_Lake_fieldAt_46 ?_
            refine ⟨congrArg (fun w => some (Value.int w)) ?_, rfl⟩
            first
              | exact absurd c_31 (by decide)
              | exact absurd rfl c_31
              | exact (if_pos ⟨fa_nlt c_1, fa_nle c_9, fa_nlt c_13, fa_nle c_21⟩).symm
              | exact (if_neg (fun q => fa_nlt2 c_1 q.1)).symm
              | exact (if_neg (fun q => fa_nlt2 q.2.1 c_9)).symm
              | exact (if_neg (fun q => fa_nlt2 c_13 q.2.2.1)).symm
              | exact (if_neg (fun q => fa_nlt2 q.2.2.2 c_21)).symm

theorem x_Lake_beside {l : xLa} {d : Nat} {σ : xs} {f w : Nat} (hf : f < 2 ^ 31) (hw : w < 4) {R C : Nat} (hr : sf σ 5 0 = nI R) (hc : sf σ 5 1 = nI C) (hR : R ≤ 6) (hC : C ≤ 6) (hC0 : 0 < C) : TE l M_Lake_beside (d + 2) [.ref 5, .int (nI f), .int (nI w)] σ (some (.int (X_bes R C f w))) (σ) := by
  show T l M_Lake_beside (d + 2) 0 _ [] σ _
  refine tt_iload_n d_Lake_beside_0 rfl ?_
  refine tn_if_ne (t := 8) (by omega) d_Lake_beside_1 (by decide) (fun c_1 => ?_) (fun c_1 => ?_)
  · refine tt_iload_n d_Lake_beside_8 rfl ?_
    refine tt_iconst (v := nI 2) d_Lake_beside_9 (by decide) ?_
    refine tn_ic_ne (t := 17) (by omega) (by omega) d_Lake_beside_10 (by decide) (fun c_10 => ?_) (fun c_10 => ?_)
    · refine tt_iconst (v := nI 0) d_Lake_beside_17 (by decide) ?_
      refine tt_istore_n d_Lake_beside_18 (by decide) rfl ?_
      refine tt_iload_n d_Lake_beside_19 rfl ?_
      refine tt_iconst (v := nI 1) d_Lake_beside_20 (by decide) ?_
      refine tn_ic_ne (t := 28) (by omega) (by omega) d_Lake_beside_21 (by decide) (fun c_21 => ?_) (fun c_21 => ?_)
      · refine tt_iload_n d_Lake_beside_28 rfl ?_
        refine tt_iconst (v := nI 3) d_Lake_beside_29 (by decide) ?_
        refine tn_ic_ne (t := 37) (by omega) (by omega) d_Lake_beside_30 (by decide) (fun c_30 => ?_) (fun c_30 => ?_)
        · refine tt_iconst (v := nI 0) d_Lake_beside_37 (by decide) ?_
          refine tt_istore d_Lake_beside_38 (by decide) rfl ?_
          refine tt_aload_n d_Lake_beside_40 rfl ?_
          refine tt_aload_n d_Lake_beside_41 rfl ?_
          refine tt_iload_n d_Lake_beside_42 rfl ?_
          refine tt_callV (x_Lake_rowOf (d := d) (k := f) (by omega) hr hc hR hC hC0) cw_Lake_rowOf rfl rfl (by decide) rfl (by omega) d_Lake_beside_43 rfl rfl (Nat.le_of_ble_eq_true rfl) (Nat.le_of_ble_eq_true rfl) rfl rfl rfl (fun v σ2 q => ?_)
          obtain ⟨rfl, e9⟩ := q
          rw [e9]
          clear e9
          refine tt_iload_n d_Lake_beside_46 rfl ?_
          refine tt_iadd d_Lake_beside_47 ?_
          refine tt_aload_n d_Lake_beside_48 rfl ?_
          refine tt_iload_n d_Lake_beside_49 rfl ?_
          refine tt_callV (x_Lake_columnOf (d := d) (k := f) (by omega) hr hc hR hC hC0) cw_Lake_columnOf rfl rfl (by decide) rfl (by omega) d_Lake_beside_50 rfl rfl (Nat.le_of_ble_eq_true rfl) (Nat.le_of_ble_eq_true rfl) rfl rfl rfl (fun v σ2 q => ?_)
          obtain ⟨rfl, e9⟩ := q
          rw [e9]
          clear e9
          refine tt_iload d_Lake_beside_53 rfl ?_
          refine tt_iadd d_Lake_beside_55 ?_
          refine tt_callV (x_Lake_fieldAt (d := d) hr hc hR hC hC0) cw_Lake_fieldAt rfl rfl (by decide) rfl (by omega) d_Lake_beside_56 rfl rfl (Nat.le_of_ble_eq_true rfl) (Nat.le_of_ble_eq_true rfl) rfl rfl rfl (fun v σ2 q => ?_)
          obtain ⟨rfl, e9⟩ := q
          rw [e9]
          clear e9
          refine tt_iret rfl d_Lake_beside_59 ?_
          refine ⟨congrArg (fun w => some (Value.int w)) ?_, rfl⟩
          rcases (show w = 0 ∨ w = 1 ∨ w = 2 ∨ w = 3 by omega) with rfl | rfl | rfl | rfl
          all_goals first | (exfalso; omega) | rfl
        · refine tt_iconst (v := (-1)) d_Lake_beside_33 (by decide) ?_
          refine tt_goto (t := 38) d_Lake_beside_34 (by decide) ?_
          refine tt_istore d_Lake_beside_38 (by decide) rfl ?_
          refine tt_aload_n d_Lake_beside_40 rfl ?_
          refine tt_aload_n d_Lake_beside_41 rfl ?_
          refine tt_iload_n d_Lake_beside_42 rfl ?_
          refine tt_callV (x_Lake_rowOf (d := d) (k := f) (by omega) hr hc hR hC hC0) cw_Lake_rowOf rfl rfl (by decide) rfl (by omega) d_Lake_beside_43 rfl rfl (Nat.le_of_ble_eq_true rfl) (Nat.le_of_ble_eq_true rfl) rfl rfl rfl (fun v σ2 q => ?_)
          obtain ⟨rfl, e9⟩ := q
          rw [e9]
          clear e9
          refine tt_iload_n d_Lake_beside_46 rfl ?_
          refine tt_iadd d_Lake_beside_47 ?_
          refine tt_aload_n d_Lake_beside_48 rfl ?_
          refine tt_iload_n d_Lake_beside_49 rfl ?_
          refine tt_callV (x_Lake_columnOf (d := d) (k := f) (by omega) hr hc hR hC hC0) cw_Lake_columnOf rfl rfl (by decide) rfl (by omega) d_Lake_beside_50 rfl rfl (Nat.le_of_ble_eq_true rfl) (Nat.le_of_ble_eq_true rfl) rfl rfl rfl (fun v σ2 q => ?_)
          obtain ⟨rfl, e9⟩ := q
          rw [e9]
          clear e9
          refine tt_iload d_Lake_beside_53 rfl ?_
          refine tt_iadd d_Lake_beside_55 ?_
          refine tt_callV (x_Lake_fieldAt (d := d) hr hc hR hC hC0) cw_Lake_fieldAt rfl rfl (by decide) rfl (by omega) d_Lake_beside_56 rfl rfl (Nat.le_of_ble_eq_true rfl) (Nat.le_of_ble_eq_true rfl) rfl rfl rfl (fun v σ2 q => ?_)
          obtain ⟨rfl, e9⟩ := q
          rw [e9]
          clear e9
          refine tt_iret rfl d_Lake_beside_59 ?_
          refine ⟨congrArg (fun w => some (Value.int w)) ?_, rfl⟩
          rcases (show w = 0 ∨ w = 1 ∨ w = 2 ∨ w = 3 by omega) with rfl | rfl | rfl | rfl
          all_goals first | (exfalso; omega) | rfl
      · refine tt_iconst (v := nI 1) d_Lake_beside_24 (by decide) ?_
        refine tt_goto (t := 38) d_Lake_beside_25 (by decide) ?_
        refine tt_istore d_Lake_beside_38 (by decide) rfl ?_
        refine tt_aload_n d_Lake_beside_40 rfl ?_
        refine tt_aload_n d_Lake_beside_41 rfl ?_
        refine tt_iload_n d_Lake_beside_42 rfl ?_
        refine tt_callV (x_Lake_rowOf (d := d) (k := f) (by omega) hr hc hR hC hC0) cw_Lake_rowOf rfl rfl (by decide) rfl (by omega) d_Lake_beside_43 rfl rfl (Nat.le_of_ble_eq_true rfl) (Nat.le_of_ble_eq_true rfl) rfl rfl rfl (fun v σ2 q => ?_)
        obtain ⟨rfl, e9⟩ := q
        rw [e9]
        clear e9
        refine tt_iload_n d_Lake_beside_46 rfl ?_
        refine tt_iadd d_Lake_beside_47 ?_
        refine tt_aload_n d_Lake_beside_48 rfl ?_
        refine tt_iload_n d_Lake_beside_49 rfl ?_
        refine tt_callV (x_Lake_columnOf (d := d) (k := f) (by omega) hr hc hR hC hC0) cw_Lake_columnOf rfl rfl (by decide) rfl (by omega) d_Lake_beside_50 rfl rfl (Nat.le_of_ble_eq_true rfl) (Nat.le_of_ble_eq_true rfl) rfl rfl rfl (fun v σ2 q => ?_)
        obtain ⟨rfl, e9⟩ := q
        rw [e9]
        clear e9
        refine tt_iload d_Lake_beside_53 rfl ?_
        refine tt_iadd d_Lake_beside_55 ?_
        refine tt_callV (x_Lake_fieldAt (d := d) hr hc hR hC hC0) cw_Lake_fieldAt rfl rfl (by decide) rfl (by omega) d_Lake_beside_56 rfl rfl (Nat.le_of_ble_eq_true rfl) (Nat.le_of_ble_eq_true rfl) rfl rfl rfl (fun v σ2 q => ?_)
        obtain ⟨rfl, e9⟩ := q
        rw [e9]
        clear e9
        refine tt_iret rfl d_Lake_beside_59 ?_
        refine ⟨congrArg (fun w => some (Value.int w)) ?_, rfl⟩
        rcases (show w = 0 ∨ w = 1 ∨ w = 2 ∨ w = 3 by omega) with rfl | rfl | rfl | rfl
        all_goals first | (exfalso; omega) | rfl
    · refine tt_iconst (v := nI 1) d_Lake_beside_13 (by decide) ?_
      refine tt_goto (t := 18) d_Lake_beside_14 (by decide) ?_
      refine tt_istore_n d_Lake_beside_18 (by decide) rfl ?_
      refine tt_iload_n d_Lake_beside_19 rfl ?_
      refine tt_iconst (v := nI 1) d_Lake_beside_20 (by decide) ?_
      refine tn_ic_ne (t := 28) (by omega) (by omega) d_Lake_beside_21 (by decide) (fun c_21 => ?_) (fun c_21 => ?_)
      · refine tt_iload_n d_Lake_beside_28 rfl ?_
        refine tt_iconst (v := nI 3) d_Lake_beside_29 (by decide) ?_
        refine tn_ic_ne (t := 37) (by omega) (by omega) d_Lake_beside_30 (by decide) (fun c_30 => ?_) (fun c_30 => ?_)
        · refine tt_iconst (v := nI 0) d_Lake_beside_37 (by decide) ?_
          refine tt_istore d_Lake_beside_38 (by decide) rfl ?_
          refine tt_aload_n d_Lake_beside_40 rfl ?_
          refine tt_aload_n d_Lake_beside_41 rfl ?_
          refine tt_iload_n d_Lake_beside_42 rfl ?_
          refine tt_callV (x_Lake_rowOf (d := d) (k := f) (by omega) hr hc hR hC hC0) cw_Lake_rowOf rfl rfl (by decide) rfl (by omega) d_Lake_beside_43 rfl rfl (Nat.le_of_ble_eq_true rfl) (Nat.le_of_ble_eq_true rfl) rfl rfl rfl (fun v σ2 q => ?_)
          obtain ⟨rfl, e9⟩ := q
          rw [e9]
          clear e9
          refine tt_iload_n d_Lake_beside_46 rfl ?_
          refine tt_iadd d_Lake_beside_47 ?_
          refine tt_aload_n d_Lake_beside_48 rfl ?_
          refine tt_iload_n d_Lake_beside_49 rfl ?_
          refine tt_callV (x_Lake_columnOf (d := d) (k := f) (by omega) hr hc hR hC hC0) cw_Lake_columnOf rfl rfl (by decide) rfl (by omega) d_Lake_beside_50 rfl rfl (Nat.le_of_ble_eq_true rfl) (Nat.le_of_ble_eq_true rfl) rfl rfl rfl (fun v σ2 q => ?_)
          obtain ⟨rfl, e9⟩ := q
          rw [e9]
          clear e9
          refine tt_iload d_Lake_beside_53 rfl ?_
          refine tt_iadd d_Lake_beside_55 ?_
          refine tt_callV (x_Lake_fieldAt (d := d) hr hc hR hC hC0) cw_Lake_fieldAt rfl rfl (by decide) rfl (by omega) d_Lake_beside_56 rfl rfl (Nat.le_of_ble_eq_true rfl) (Nat.le_of_ble_eq_true rfl) rfl rfl rfl (fun v σ2 q => ?_)
          obtain ⟨rfl, e9⟩ := q
          rw [e9]
          clear e9
          refine tt_iret rfl d_Lake_beside_59 ?_
          refine ⟨congrArg (fun w => some (Value.int w)) ?_, rfl⟩
          rcases (show w = 0 ∨ w = 1 ∨ w = 2 ∨ w = 3 by omega) with rfl | rfl | rfl | rfl
          all_goals first | (exfalso; omega) | rfl
        · refine tt_iconst (v := (-1)) d_Lake_beside_33 (by decide) ?_
          refine tt_goto (t := 38) d_Lake_beside_34 (by decide) ?_
          refine tt_istore d_Lake_beside_38 (by decide) rfl ?_
          refine tt_aload_n d_Lake_beside_40 rfl ?_
          refine tt_aload_n d_Lake_beside_41 rfl ?_
          refine tt_iload_n d_Lake_beside_42 rfl ?_
          refine tt_callV (x_Lake_rowOf (d := d) (k := f) (by omega) hr hc hR hC hC0) cw_Lake_rowOf rfl rfl (by decide) rfl (by omega) d_Lake_beside_43 rfl rfl (Nat.le_of_ble_eq_true rfl) (Nat.le_of_ble_eq_true rfl) rfl rfl rfl (fun v σ2 q => ?_)
          obtain ⟨rfl, e9⟩ := q
          rw [e9]
          clear e9
          refine tt_iload_n d_Lake_beside_46 rfl ?_
          refine tt_iadd d_Lake_beside_47 ?_
          refine tt_aload_n d_Lake_beside_48 rfl ?_
          refine tt_iload_n d_Lake_beside_49 rfl ?_
          refine tt_callV (x_Lake_columnOf (d := d) (k := f) (by omega) hr hc hR hC hC0) cw_Lake_columnOf rfl rfl (by decide) rfl (by omega) d_Lake_beside_50 rfl rfl (Nat.le_of_ble_eq_true rfl) (Nat.le_of_ble_eq_true rfl) rfl rfl rfl (fun v σ2 q => ?_)
          obtain ⟨rfl, e9⟩ := q
          rw [e9]
          clear e9
          refine tt_iload d_Lake_beside_53 rfl ?_
          refine tt_iadd d_Lake_beside_55 ?_
          refine tt_callV (x_Lake_fieldAt (d := d) hr hc hR hC hC0) cw_Lake_fieldAt rfl rfl (by decide) rfl (by omega) d_Lake_beside_56 rfl rfl (Nat.le_of_ble_eq_true rfl) (Nat.le_of_ble_eq_true rfl) rfl rfl rfl (fun v σ2 q => ?_)
          obtain ⟨rfl, e9⟩ := q
          rw [e9]
          clear e9
          refine tt_iret rfl d_Lake_beside_59 ?_
          refine ⟨congrArg (fun w => some (Value.int w)) ?_, rfl⟩
          rcases (show w = 0 ∨ w = 1 ∨ w = 2 ∨ w = 3 by omega) with rfl | rfl | rfl | rfl
          all_goals first | (exfalso; omega) | rfl
      · refine tt_iconst (v := nI 1) d_Lake_beside_24 (by decide) ?_
        refine tt_goto (t := 38) d_Lake_beside_25 (by decide) ?_
        refine tt_istore d_Lake_beside_38 (by decide) rfl ?_
        refine tt_aload_n d_Lake_beside_40 rfl ?_
        refine tt_aload_n d_Lake_beside_41 rfl ?_
        refine tt_iload_n d_Lake_beside_42 rfl ?_
        refine tt_callV (x_Lake_rowOf (d := d) (k := f) (by omega) hr hc hR hC hC0) cw_Lake_rowOf rfl rfl (by decide) rfl (by omega) d_Lake_beside_43 rfl rfl (Nat.le_of_ble_eq_true rfl) (Nat.le_of_ble_eq_true rfl) rfl rfl rfl (fun v σ2 q => ?_)
        obtain ⟨rfl, e9⟩ := q
        rw [e9]
        clear e9
        refine tt_iload_n d_Lake_beside_46 rfl ?_
        refine tt_iadd d_Lake_beside_47 ?_
        refine tt_aload_n d_Lake_beside_48 rfl ?_
        refine tt_iload_n d_Lake_beside_49 rfl ?_
        refine tt_callV (x_Lake_columnOf (d := d) (k := f) (by omega) hr hc hR hC hC0) cw_Lake_columnOf rfl rfl (by decide) rfl (by omega) d_Lake_beside_50 rfl rfl (Nat.le_of_ble_eq_true rfl) (Nat.le_of_ble_eq_true rfl) rfl rfl rfl (fun v σ2 q => ?_)
        obtain ⟨rfl, e9⟩ := q
        rw [e9]
        clear e9
        refine tt_iload d_Lake_beside_53 rfl ?_
        refine tt_iadd d_Lake_beside_55 ?_
        refine tt_callV (x_Lake_fieldAt (d := d) hr hc hR hC hC0) cw_Lake_fieldAt rfl rfl (by decide) rfl (by omega) d_Lake_beside_56 rfl rfl (Nat.le_of_ble_eq_true rfl) (Nat.le_of_ble_eq_true rfl) rfl rfl rfl (fun v σ2 q => ?_)
        obtain ⟨rfl, e9⟩ := q
        rw [e9]
        clear e9
        refine tt_iret rfl d_Lake_beside_59 ?_
        refine ⟨congrArg (fun w => some (Value.int w)) ?_, rfl⟩
        rcases (show w = 0 ∨ w = 1 ∨ w = 2 ∨ w = 3 by omega) with rfl | rfl | rfl | rfl
        all_goals first | (exfalso; omega) | rfl
  · refine tt_iconst (v := (-1)) d_Lake_beside_4 (by decide) ?_
    refine tt_goto (t := 18) d_Lake_beside_5 (by decide) ?_
    refine tt_istore_n d_Lake_beside_18 (by decide) rfl ?_
    refine tt_iload_n d_Lake_beside_19 rfl ?_
    refine tt_iconst (v := nI 1) d_Lake_beside_20 (by decide) ?_
    refine tn_ic_ne (t := 28) (by omega) (by omega) d_Lake_beside_21 (by decide) (fun c_21 => ?_) (fun c_21 => ?_)
    · refine tt_iload_n d_Lake_beside_28 rfl ?_
      refine tt_iconst (v := nI 3) d_Lake_beside_29 (by decide) ?_
      refine tn_ic_ne (t := 37) (by omega) (by omega) d_Lake_beside_30 (by decide) (fun c_30 => ?_) (fun c_30 => ?_)
      · refine tt_iconst (v := nI 0) d_Lake_beside_37 (by decide) ?_
        refine tt_istore d_Lake_beside_38 (by decide) rfl ?_
        refine tt_aload_n d_Lake_beside_40 rfl ?_
        refine tt_aload_n d_Lake_beside_41 rfl ?_
        refine tt_iload_n d_Lake_beside_42 rfl ?_
        refine tt_callV (x_Lake_rowOf (d := d) (k := f) (by omega) hr hc hR hC hC0) cw_Lake_rowOf rfl rfl (by decide) rfl (by omega) d_Lake_beside_43 rfl rfl (Nat.le_of_ble_eq_true rfl) (Nat.le_of_ble_eq_true rfl) rfl rfl rfl (fun v σ2 q => ?_)
        obtain ⟨rfl, e9⟩ := q
        rw [e9]
        clear e9
        refine tt_iload_n d_Lake_beside_46 rfl ?_
        refine tt_iadd d_Lake_beside_47 ?_
        refine tt_aload_n d_Lake_beside_48 rfl ?_
        refine tt_iload_n d_Lake_beside_49 rfl ?_
        refine tt_callV (x_Lake_columnOf (d := d) (k := f) (by omega) hr hc hR hC hC0) cw_Lake_columnOf rfl rfl (by decide) rfl (by omega) d_Lake_beside_50 rfl rfl (Nat.le_of_ble_eq_true rfl) (Nat.le_of_ble_eq_true rfl) rfl rfl rfl (fun v σ2 q => ?_)
        obtain ⟨rfl, e9⟩ := q
        rw [e9]
        clear e9
        refine tt_iload d_Lake_beside_53 rfl ?_
        refine tt_iadd d_Lake_beside_55 ?_
        refine tt_callV (x_Lake_fieldAt (d := d) hr hc hR hC hC0) cw_Lake_fieldAt rfl rfl (by decide) rfl (by omega) d_Lake_beside_56 rfl rfl (Nat.le_of_ble_eq_true rfl) (Nat.le_of_ble_eq_true rfl) rfl rfl rfl (fun v σ2 q => ?_)
        obtain ⟨rfl, e9⟩ := q
        rw [e9]
        clear e9
        refine tt_iret rfl d_Lake_beside_59 ?_
        refine ⟨congrArg (fun w => some (Value.int w)) ?_, rfl⟩
        rcases (show w = 0 ∨ w = 1 ∨ w = 2 ∨ w = 3 by omega) with rfl | rfl | rfl | rfl
        all_goals first | (exfalso; omega) | rfl
      · refine tt_iconst (v := (-1)) d_Lake_beside_33 (by decide) ?_
        refine tt_goto (t := 38) d_Lake_beside_34 (by decide) ?_
        refine tt_istore d_Lake_beside_38 (by decide) rfl ?_
        refine tt_aload_n d_Lake_beside_40 rfl ?_
        refine tt_aload_n d_Lake_beside_41 rfl ?_
        refine tt_iload_n d_Lake_beside_42 rfl ?_
        refine tt_callV (x_Lake_rowOf (d := d) (k := f) (by omega) hr hc hR hC hC0) cw_Lake_rowOf rfl rfl (by decide) rfl (by omega) d_Lake_beside_43 rfl rfl (Nat.le_of_ble_eq_true rfl) (Nat.le_of_ble_eq_true rfl) rfl rfl rfl (fun v σ2 q => ?_)
        obtain ⟨rfl, e9⟩ := q
        rw [e9]
        clear e9
        refine tt_iload_n d_Lake_beside_46 rfl ?_
        refine tt_iadd d_Lake_beside_47 ?_
        refine tt_aload_n d_Lake_beside_48 rfl ?_
        refine tt_iload_n d_Lake_beside_49 rfl ?_
        refine tt_callV (x_Lake_columnOf (d := d) (k := f) (by omega) hr hc hR hC hC0) cw_Lake_columnOf rfl rfl (by decide) rfl (by omega) d_Lake_beside_50 rfl rfl (Nat.le_of_ble_eq_true rfl) (Nat.le_of_ble_eq_true rfl) rfl rfl rfl (fun v σ2 q => ?_)
        obtain ⟨rfl, e9⟩ := q
        rw [e9]
        clear e9
        refine tt_iload d_Lake_beside_53 rfl ?_
        refine tt_iadd d_Lake_beside_55 ?_
        refine tt_callV (x_Lake_fieldAt (d := d) hr hc hR hC hC0) cw_Lake_fieldAt rfl rfl (by decide) rfl (by omega) d_Lake_beside_56 rfl rfl (Nat.le_of_ble_eq_true rfl) (Nat.le_of_ble_eq_true rfl) rfl rfl rfl (fun v σ2 q => ?_)
        obtain ⟨rfl, e9⟩ := q
        rw [e9]
        clear e9
        refine tt_iret rfl d_Lake_beside_59 ?_
        refine ⟨congrArg (fun w => some (Value.int w)) ?_, rfl⟩
        rcases (show w = 0 ∨ w = 1 ∨ w = 2 ∨ w = 3 by omega) with rfl | rfl | rfl | rfl
        all_goals first | (exfalso; omega) | rfl
    · refine tt_iconst (v := nI 1) d_Lake_beside_24 (by decide) ?_
      refine tt_goto (t := 38) d_Lake_beside_25 (by decide) ?_
      refine tt_istore d_Lake_beside_38 (by decide) rfl ?_
      refine tt_aload_n d_Lake_beside_40 rfl ?_
      refine tt_aload_n d_Lake_beside_41 rfl ?_
      refine tt_iload_n d_Lake_beside_42 rfl ?_
      refine tt_callV (x_Lake_rowOf (d := d) (k := f) (by omega) hr hc hR hC hC0) cw_Lake_rowOf rfl rfl (by decide) rfl (by omega) d_Lake_beside_43 rfl rfl (Nat.le_of_ble_eq_true rfl) (Nat.le_of_ble_eq_true rfl) rfl rfl rfl (fun v σ2 q => ?_)
      obtain ⟨rfl, e9⟩ := q
      rw [e9]
      clear e9
      refine tt_iload_n d_Lake_beside_46 rfl ?_
      refine tt_iadd d_Lake_beside_47 ?_
      refine tt_aload_n d_Lake_beside_48 rfl ?_
      refine tt_iload_n d_Lake_beside_49 rfl ?_
      refine tt_callV (x_Lake_columnOf (d := d) (k := f) (by omega) hr hc hR hC hC0) cw_Lake_columnOf rfl rfl (by decide) rfl (by omega) d_Lake_beside_50 rfl rfl (Nat.le_of_ble_eq_true rfl) (Nat.le_of_ble_eq_true rfl) rfl rfl rfl (fun v σ2 q => ?_)
      obtain ⟨rfl, e9⟩ := q
      rw [e9]
      clear e9
      refine tt_iload d_Lake_beside_53 rfl ?_
      refine tt_iadd d_Lake_beside_55 ?_
      refine tt_callV (x_Lake_fieldAt (d := d) hr hc hR hC hC0) cw_Lake_fieldAt rfl rfl (by decide) rfl (by omega) d_Lake_beside_56 rfl rfl (Nat.le_of_ble_eq_true rfl) (Nat.le_of_ble_eq_true rfl) rfl rfl rfl (fun v σ2 q => ?_)
      obtain ⟨rfl, e9⟩ := q
      rw [e9]
      clear e9
      refine tt_iret rfl d_Lake_beside_59 ?_
      refine ⟨congrArg (fun w => some (Value.int w)) ?_, rfl⟩
      rcases (show w = 0 ∨ w = 1 ∨ w = 2 ∨ w = 3 by omega) with rfl | rfl | rfl | rfl
      all_goals first | (exfalso; omega) | rfl

/-- the least field beside f that has so many steps, of the ways below w -/
def X_nb (σ : xs) (R C f : Nat) (left : Int32) : Nat → Int32
  | 0 => -1
  | w + 1 => if X_stp σ (R * C) (X_bes R C f w) = left ∧ ¬ X_bes R C f w = -1 ∧ (X_nb σ R C f left w = -1 ∨ X_bes R C f w < X_nb σ R C f left w) then X_bes R C f w else X_nb σ R C f left w
theorem x_Lake_nextBy_l {l : xLa} {d : Nat} {σ : xs} {f : Nat} {left : Int32} (hf : f < 2 ^ 31) {R C : Nat} (hr : sf σ 5 0 = nI R) (hc : sf σ 5 1 = nI C) (hR : R ≤ 6) (hC : C ≤ 6) (hC0 : 0 < C) : ∀ (m : Nat) (w : Nat) (z : Option Int32), 4 - w = m → w ≤ 4 → T l M_Lake_nextBy (d + 4) 5 [some (.ref 5), some (.int (nI f)), some (.int left), some (.int (X_nb σ R C f left w)), some (.int (nI w)), z.map Value.int] [] σ (fun r σ' => r = some (.int (X_nb σ R C f left 4)) ∧ σ' = σ) := by
  intro m
  induction m using Nat.strongRecOn with
  | ind m ih =>
    intro w z hm hi
    refine tt_iload d_Lake_nextBy_5 rfl ?_
    refine tt_iconst (v := nI 4) d_Lake_nextBy_7 (by decide) ?_
    refine tn_ic_ge (t := 56) (by omega) (by omega) d_Lake_nextBy_8 (by decide) (fun c_8 => ?_) (fun c_8 => ?_)
    · obtain rfl : w = 4 := by omega
      refine tt_iload_n d_Lake_nextBy_56 rfl ?_
      refine tt_iret rfl d_Lake_nextBy_57 ?_
      exact ⟨rfl, rfl⟩
    · refine tt_aload_n d_Lake_nextBy_11 rfl ?_
      refine tt_iload_n d_Lake_nextBy_12 rfl ?_
      refine tt_iload d_Lake_nextBy_13 rfl ?_
      refine tt_callV (x_Lake_beside (d := d + 1) hf (by omega) hr hc hR hC hC0) cw_Lake_beside rfl rfl (by decide) rfl (by omega) d_Lake_nextBy_15 rfl rfl (Nat.le_of_ble_eq_true rfl) (Nat.le_of_ble_eq_true rfl) rfl rfl rfl (fun v σ2 q => ?_)
      obtain ⟨rfl, e9⟩ := q
      rw [e9]
      clear e9
      refine tt_istore d_Lake_nextBy_18 (by decide) rfl ?_
      refine tt_aload_n d_Lake_nextBy_20 rfl ?_
      refine tt_iload d_Lake_nextBy_21 rfl ?_
      refine tt_callV (x_Lake_stepsTo (d := d) hr hc hR hC hC0) cw_Lake_stepsTo rfl rfl (by decide) rfl (by omega) d_Lake_nextBy_23 rfl rfl (Nat.le_of_ble_eq_true rfl) (Nat.le_of_ble_eq_true rfl) rfl rfl rfl (fun v σ2 q => ?_)
      obtain ⟨rfl, e9⟩ := q
      rw [e9]
      clear e9
      refine tt_iload_n d_Lake_nextBy_26 rfl ?_
      refine tt_ic_ne (t := 50) d_Lake_nextBy_27 (by decide) (fun c_27 => ?_) (fun c_27 => ?_)
      · refine tt_iinc d_Lake_nextBy_50 rfl (nI_inc _ 1) (by decide) rfl ?_
        refine tt_goto (t := 5) d_Lake_nextBy_53 (by decide) ?_
        have q := ih (4 - (w + 1)) (by omega) (w + 1) (some (X_bes R C f w)) rfl (by omega)
        have q2 : ∀ v, X_nb σ R C f left (w + 1) = v → T l M_Lake_nextBy (d + 4) 5 [some (.ref 5), some (.int (nI f)), some (.int left), some (.int v), some (.int (nI (w + 1))), some (.int (X_bes R C f w))] [] σ (fun r σ' => r = some (.int (X_nb σ R C f left 4)) ∧ σ' = σ) := fun v e => by rw [← e]; exact q
        first
          | exact q2 _ (if_pos (And.intro (Classical.not_not.mp c_27) (And.intro c_33 (Or.inl (id c_38)))))
          | exact q2 _ (if_pos (And.intro (Classical.not_not.mp c_27) (And.intro c_33 (Or.inr (fa_nle c_44)))))
          | exact q2 _ (if_neg (nn1 c_27))
          | exact q2 _ (if_neg (nn2 (nn1 (nnN c_33))))
          | exact q2 _ (if_neg (nn2 (nn2 (nnO c_38 (fa_ngt c_44)))))
      · refine tt_iload d_Lake_nextBy_30 rfl ?_
        refine tt_iconst (v := (-1)) d_Lake_nextBy_32 (by decide) ?_
        refine tt_ic_eq (t := 50) d_Lake_nextBy_33 (by decide) (fun c_33 => ?_) (fun c_33 => ?_)
        · refine tt_iinc d_Lake_nextBy_50 rfl (nI_inc _ 1) (by decide) rfl ?_
          refine tt_goto (t := 5) d_Lake_nextBy_53 (by decide) ?_
          have q := ih (4 - (w + 1)) (by omega) (w + 1) (some (X_bes R C f w)) rfl (by omega)
          have q2 : ∀ v, X_nb σ R C f left (w + 1) = v → T l M_Lake_nextBy (d + 4) 5 [some (.ref 5), some (.int (nI f)), some (.int left), some (.int v), some (.int (nI (w + 1))), some (.int (X_bes R C f w))] [] σ (fun r σ' => r = some (.int (X_nb σ R C f left 4)) ∧ σ' = σ) := fun v e => by rw [← e]; exact q
          first
            | exact q2 _ (if_pos (And.intro (Classical.not_not.mp c_27) (And.intro c_33 (Or.inl (id c_38)))))
            | exact q2 _ (if_pos (And.intro (Classical.not_not.mp c_27) (And.intro c_33 (Or.inr (fa_nle c_44)))))
            | exact q2 _ (if_neg (nn1 c_27))
            | exact q2 _ (if_neg (nn2 (nn1 (nnN c_33))))
            | exact q2 _ (if_neg (nn2 (nn2 (nnO c_38 (fa_ngt c_44)))))
        · refine tt_iload_n d_Lake_nextBy_36 rfl ?_
          refine tt_iconst (v := (-1)) d_Lake_nextBy_37 (by decide) ?_
          refine tt_ic_eq (t := 47) d_Lake_nextBy_38 (by decide) (fun c_38 => ?_) (fun c_38 => ?_)
          · refine tt_iload d_Lake_nextBy_47 rfl ?_
            refine tt_istore_n d_Lake_nextBy_49 (by decide) rfl ?_
            refine tt_iinc d_Lake_nextBy_50 rfl (nI_inc _ 1) (by decide) rfl ?_
            refine tt_goto (t := 5) d_Lake_nextBy_53 (by decide) ?_
            have q := ih (4 - (w + 1)) (by omega) (w + 1) (some (X_bes R C f w)) rfl (by omega)
            have q2 : ∀ v, X_nb σ R C f left (w + 1) = v → T l M_Lake_nextBy (d + 4) 5 [some (.ref 5), some (.int (nI f)), some (.int left), some (.int v), some (.int (nI (w + 1))), some (.int (X_bes R C f w))] [] σ (fun r σ' => r = some (.int (X_nb σ R C f left 4)) ∧ σ' = σ) := fun v e => by rw [← e]; exact q
            first
              | exact q2 _ (if_pos (And.intro (Classical.not_not.mp c_27) (And.intro c_33 (Or.inl (id c_38)))))
              | exact q2 _ (if_pos (And.intro (Classical.not_not.mp c_27) (And.intro c_33 (Or.inr (fa_nle c_44)))))
              | exact q2 _ (if_neg (nn1 c_27))
              | exact q2 _ (if_neg (nn2 (nn1 (nnN c_33))))
              | exact q2 _ (if_neg (nn2 (nn2 (nnO c_38 (fa_ngt c_44)))))
          · refine tt_iload d_Lake_nextBy_41 rfl ?_
            refine tt_iload_n d_Lake_nextBy_43 rfl ?_
            refine tt_ic_ge (t := 50) d_Lake_nextBy_44 (by decide) (fun c_44 => ?_) (fun c_44 => ?_)
            · refine tt_iinc d_Lake_nextBy_50 rfl (nI_inc _ 1) (by decide) rfl ?_
              refine tt_goto (t := 5) d_Lake_nextBy_53 (by decide) ?_
              have q := ih (4 - (w + 1)) (by omega) (w + 1) (some (X_bes R C f w)) rfl (by omega)
              have q2 : ∀ v, X_nb σ R C f left (w + 1) = v → T l M_Lake_nextBy (d + 4) 5 [some (.ref 5), some (.int (nI f)), some (.int left), some (.int v), some (.int (nI (w + 1))), some (.int (X_bes R C f w))] [] σ (fun r σ' => r = some (.int (X_nb σ R C f left 4)) ∧ σ' = σ) := fun v e => by rw [← e]; exact q
              first
                | exact q2 _ (if_pos (And.intro (Classical.not_not.mp c_27) (And.intro c_33 (Or.inl (id c_38)))))
                | exact q2 _ (if_pos (And.intro (Classical.not_not.mp c_27) (And.intro c_33 (Or.inr (fa_nle c_44)))))
                | exact q2 _ (if_neg (nn1 c_27))
                | exact q2 _ (if_neg (nn2 (nn1 (nnN c_33))))
                | exact q2 _ (if_neg (nn2 (nn2 (nnO c_38 (fa_ngt c_44)))))
            · refine tt_iload d_Lake_nextBy_47 rfl ?_
              refine tt_istore_n d_Lake_nextBy_49 (by decide) rfl ?_
              refine tt_iinc d_Lake_nextBy_50 rfl (nI_inc _ 1) (by decide) rfl ?_
              refine tt_goto (t := 5) d_Lake_nextBy_53 (by decide) ?_
              have q := ih (4 - (w + 1)) (by omega) (w + 1) (some (X_bes R C f w)) rfl (by omega)
              have q2 : ∀ v, X_nb σ R C f left (w + 1) = v → T l M_Lake_nextBy (d + 4) 5 [some (.ref 5), some (.int (nI f)), some (.int left), some (.int v), some (.int (nI (w + 1))), some (.int (X_bes R C f w))] [] σ (fun r σ' => r = some (.int (X_nb σ R C f left 4)) ∧ σ' = σ) := fun v e => by rw [← e]; exact q
              first
                | exact q2 _ (if_pos (And.intro (Classical.not_not.mp c_27) (And.intro c_33 (Or.inl (id c_38)))))
                | exact q2 _ (if_pos (And.intro (Classical.not_not.mp c_27) (And.intro c_33 (Or.inr (fa_nle c_44)))))
                | exact q2 _ (if_neg (nn1 c_27))
                | exact q2 _ (if_neg (nn2 (nn1 (nnN c_33))))
                | exact q2 _ (if_neg (nn2 (nn2 (nnO c_38 (fa_ngt c_44)))))

theorem x_Lake_nextBy {l : xLa} {d : Nat} {σ : xs} {f : Nat} {left : Int32} (hf : f < 2 ^ 31) {R C : Nat} (hr : sf σ 5 0 = nI R) (hc : sf σ 5 1 = nI C) (hR : R ≤ 6) (hC : C ≤ 6) (hC0 : 0 < C) : TE l M_Lake_nextBy (d + 4) [.ref 5, .int (nI f), .int left] σ (some (.int (X_nb σ R C f left 4))) (σ) := by
  show T l M_Lake_nextBy (d + 4) 0 _ [] σ _
  refine tt_iconst (v := (-1)) d_Lake_nextBy_0 (by decide) ?_
  refine tt_istore_n d_Lake_nextBy_1 (by decide) rfl ?_
  refine tt_iconst (v := nI 0) d_Lake_nextBy_2 (by decide) ?_
  refine tt_istore d_Lake_nextBy_3 (by decide) rfl ?_
  exact x_Lake_nextBy_l hf hr hc hR hC hC0 4 0 none (by omega) (by omega)

def X_tk0 (σ : xs) (n : Nat) : xs := wF (wF σ 5 0 (X_dig σ n 0)) 5 1 (X_dig σ n 1)
def X_tk (σ : xs) (n i : Nat) : xs := wA (X_tk0 σ n) 6 (cpN (fun j => if X_at σ n (2 + j) = nI 35 then nI 1 else nI 0) (si σ 6) i)
theorem x_Lake_take_l {l : xLa} {d : Nat} {σ : xs} {n : Nat} (hn : sf σ 1 1 = nI n) (hz : n ≤ 80) : ∀ (m : Nat) (i : Nat), 36 - i = m → i ≤ 36 → T l M_Lake_take (d + 3) 20 [some (.ref 5), some (.ref 1), some (.int (nI i))] [] (X_tk σ n i) (fun r σ' => r = none ∧ σ' = X_tk σ n 36) := by
  intro m
  induction m using Nat.strongRecOn with
  | ind m ih =>
    intro i hm hi
    refine tt_iload_n d_Lake_take_20 rfl ?_
    refine tt_bipush (v := nI 36) d_Lake_take_21 (by decide) ?_
    refine tn_ic_ge (t := 55) (by omega) (by omega) d_Lake_take_23 (by decide) (fun c_23 => ?_) (fun c_23 => ?_)
    · obtain rfl : i = 36 := by omega
      refine tt_vret rfl d_Lake_take_55 ?_
      exact ⟨rfl, rfl⟩
    · refine tt_aload_n d_Lake_take_26 rfl ?_
      refine tt_getR d_Lake_take_27 rfl rfl (by decide) rfl rfl ?_
      refine tt_iload_n d_Lake_take_30 rfl ?_
      refine tt_aload_n d_Lake_take_31 rfl ?_
      refine tt_iconst (v := nI 2) d_Lake_take_32 (by decide) ?_
      refine tt_iload_n d_Lake_take_33 rfl ?_
      refine tn_iadd d_Lake_take_34 ?_
      refine tt_callV (x_Text_at (σ := X_tk σ n i) (d := d + 1) (n := n) (j := 2 + i) hn hz (by omega)) cw_Text_at rfl rfl (by decide) rfl (by omega) d_Lake_take_35 rfl rfl (Nat.le_of_ble_eq_true rfl) (Nat.le_of_ble_eq_true rfl) rfl rfl rfl (fun v σ2 q => ?_)
      obtain ⟨rfl, e9⟩ := q
      rw [e9, X_at_c (σ := σ) (τ := X_tk σ n i) rfl]
      clear e9
      refine tt_bipush (v := nI 35) d_Lake_take_38 (by decide) ?_
      refine tt_ic_ne (t := 47) d_Lake_take_40 (by decide) (fun c_40 => ?_) (fun c_40 => ?_)
      · refine tt_iconst (v := nI 0) d_Lake_take_47 (by decide) ?_
        refine tn_zast d_Lake_take_48 rfl (by decide) (by omega) rfl ?_
        refine tt_iinc d_Lake_take_49 rfl (nI_inc _ 1) (by decide) rfl ?_
        refine tt_goto (t := 20) d_Lake_take_52 (by decide) ?_
        refine T_cong (τ := X_tk σ n (i + 1)) ?_ (ih (36 - (i + 1)) (by omega) (i + 1) rfl (by omega))
        first
          | (have e : (if X_at σ n (2 + i) = nI 35 then nI 1 else nI 0) = nI 0 := if_neg c_40
             exact (congrArg (fun w => wI (X_tk σ n i) 6 i w) e.symm).trans cpN_g)
          | (have e : (if X_at σ n (2 + i) = nI 35 then nI 1 else nI 0) = nI 1 := if_pos (Classical.not_not.mp c_40)
             exact (congrArg (fun w => wI (X_tk σ n i) 6 i w) e.symm).trans cpN_g)
      · refine tt_iconst (v := nI 1) d_Lake_take_43 (by decide) ?_
        refine tt_goto (t := 48) d_Lake_take_44 (by decide) ?_
        refine tn_zast d_Lake_take_48 rfl (by decide) (by omega) rfl ?_
        refine tt_iinc d_Lake_take_49 rfl (nI_inc _ 1) (by decide) rfl ?_
        refine tt_goto (t := 20) d_Lake_take_52 (by decide) ?_
        refine T_cong (τ := X_tk σ n (i + 1)) ?_ (ih (36 - (i + 1)) (by omega) (i + 1) rfl (by omega))
        first
          | (have e : (if X_at σ n (2 + i) = nI 35 then nI 1 else nI 0) = nI 0 := if_neg c_40
             exact (congrArg (fun w => wI (X_tk σ n i) 6 i w) e.symm).trans cpN_g)
          | (have e : (if X_at σ n (2 + i) = nI 35 then nI 1 else nI 0) = nI 1 := if_pos (Classical.not_not.mp c_40)
             exact (congrArg (fun w => wI (X_tk σ n i) 6 i w) e.symm).trans cpN_g)

theorem x_Lake_take {l : xLa} {d : Nat} {σ : xs} {n : Nat} (hn : sf σ 1 1 = nI n) (hz : n ≤ 80) : TE l M_Lake_take (d + 3) [.ref 5, .ref 1] σ (none) (X_tk σ n 36) := by
  show T l M_Lake_take (d + 3) 0 _ [] σ _
  refine tt_aload_n d_Lake_take_0 rfl ?_
  refine tt_aload_n d_Lake_take_1 rfl ?_
  refine tt_iconst (v := nI 0) d_Lake_take_2 (by decide) ?_
  refine tt_callV (x_Text_digit (d := d) (n := n) (j := 0) hn hz (by omega)) cw_Text_digit rfl rfl (by decide) rfl (by omega) d_Lake_take_3 rfl rfl (Nat.le_of_ble_eq_true rfl) (Nat.le_of_ble_eq_true rfl) rfl rfl rfl (fun v σ2 q => ?_)
  obtain ⟨rfl, e9⟩ := q
  rw [e9]
  clear e9
  refine tt_putI d_Lake_take_6 rfl rfl (by decide) rfl (xpok_int rfl) rfl ?_
  refine tt_aload_n d_Lake_take_9 rfl ?_
  refine tt_aload_n d_Lake_take_10 rfl ?_
  refine tt_iconst (v := nI 1) d_Lake_take_11 (by decide) ?_
  refine tt_callV (x_Text_digit (σ := wF σ 5 0 (X_dig σ n 0)) (d := d) (n := n) (j := 1) hn hz (by omega)) cw_Text_digit rfl rfl (by decide) rfl (by omega) d_Lake_take_12 rfl rfl (Nat.le_of_ble_eq_true rfl) (Nat.le_of_ble_eq_true rfl) rfl rfl rfl (fun v σ2 q => ?_)
  obtain ⟨rfl, e9⟩ := q
  rw [e9, X_dig_c (σ := σ) (τ := wF σ 5 0 (X_dig σ n 0)) rfl]
  clear e9
  refine tt_putI d_Lake_take_15 rfl rfl (by decide) rfl (xpok_int rfl) rfl ?_
  refine tt_iconst (v := nI 0) d_Lake_take_18 (by decide) ?_
  refine tt_istore_n d_Lake_take_19 (by decide) rfl ?_
  have q := x_Lake_take_l (l := l) (d := d) (σ := σ) hn hz 36 0 (by omega) (by omega)
  rw [show X_tk σ n 0 = X_tk0 σ n from wA_g] at q
  exact q

/-- the first of the places from i on, below e, that is neither . nor #; -1: none -/
def X_lf (σ : xs) (n e : Nat) : Nat → Nat → Int32
  | 0, _ => if n ≤ e then -1 else nI e
  | k + 1, i => if e ≤ i then (if n ≤ e then -1 else nI e) else if ¬ X_at σ n i = nI 46 ∧ ¬ X_at σ n i = nI 35 then nI i else X_lf σ n e k (i + 1)
theorem X_lf_end {σ : xs} {n e k i : Nat} (h : e ≤ i) : X_lf σ n e k i = if n ≤ e then -1 else nI e := by
  cases k with
  | zero => rfl
  | succ k => exact if_pos h
theorem x_Lake_fault_l {l : xLa} {d : Nat} {σ : xs} {n : Nat} (hn : sf σ 1 1 = nI n) (hz : n ≤ 80) {x y : Int32} {e : Nat} (he : e ≤ 38) : ∀ (m : Nat) (i : Nat), e - i = m → 2 ≤ i ∧ i ≤ e → T l M_Lake_faultIn (d + 3) 48 [some (.ref 5), some (.ref 1), some (.int x), some (.int y), some (.int (nI e)), some (.int (nI i))] [] σ (fun r σ' => r = some (.int (X_lf σ n e (e - i) i)) ∧ σ' = σ) := by
  intro m
  induction m using Nat.strongRecOn with
  | ind m ih =>
    intro i hm hi
    refine tt_iload d_Lake_faultIn_48 rfl ?_
    refine tt_iload d_Lake_faultIn_50 rfl ?_
    refine tn_ic_ge (t := 86) (by omega) (by omega) d_Lake_faultIn_52 (by decide) (fun c_52 => ?_) (fun c_52 => ?_)
    · refine tt_aload_n d_Lake_faultIn_86 rfl ?_
      refine tt_callV (x_Text_length (d := d + 1)) cw_Text_length rfl rfl (by decide) rfl (by omega) d_Lake_faultIn_87 rfl rfl (Nat.le_of_ble_eq_true rfl) (Nat.le_of_ble_eq_true rfl) rfl rfl rfl (fun v σ2 q => ?_)
      obtain ⟨rfl, e9⟩ := q
      rw [e9, hn]
      clear e9
      refine tt_iload d_Lake_faultIn_90 rfl ?_
      refine tn_ic_le (t := 100) (by omega) (by omega) d_Lake_faultIn_92 (by decide) (fun c_92 => ?_) (fun c_92 => ?_)
      · refine tt_iconst (v := (-1)) d_Lake_faultIn_100 (by decide) ?_
        refine tt_iret rfl d_Lake_faultIn_101 ?_
        refine ⟨congrArg (fun w => some (Value.int w)) ?_, rfl⟩
        rw [X_lf_end (by omega)]
        first | exact (if_pos c_92).symm | exact (if_neg (by omega)).symm
      · refine tt_iload d_Lake_faultIn_95 rfl ?_
        refine tt_goto (t := 101) d_Lake_faultIn_97 (by decide) ?_
        refine tt_iret rfl d_Lake_faultIn_101 ?_
        refine ⟨congrArg (fun w => some (Value.int w)) ?_, rfl⟩
        rw [X_lf_end (by omega)]
        first | exact (if_pos c_92).symm | exact (if_neg (by omega)).symm
    · refine tt_aload_n d_Lake_faultIn_55 rfl ?_
      refine tt_iload d_Lake_faultIn_56 rfl ?_
      refine tt_callV (x_Text_at (d := d + 1) (n := n) (j := i) hn hz (by omega)) cw_Text_at rfl rfl (by decide) rfl (by omega) d_Lake_faultIn_58 rfl rfl (Nat.le_of_ble_eq_true rfl) (Nat.le_of_ble_eq_true rfl) rfl rfl rfl (fun v σ2 q => ?_)
      obtain ⟨rfl, e9⟩ := q
      rw [e9]
      clear e9
      refine tt_bipush (v := nI 46) d_Lake_faultIn_61 (by decide) ?_
      refine tt_ic_eq (t := 80) d_Lake_faultIn_63 (by decide) (fun c_63 => ?_) (fun c_63 => ?_)
      · refine tt_iinc d_Lake_faultIn_80 rfl (nI_inc _ 1) (by decide) rfl ?_
        refine tt_goto (t := 48) d_Lake_faultIn_83 (by decide) ?_
        have q := ih (e - (i + 1)) (by omega) (i + 1) rfl (by omega)
        rw [show X_lf σ n e (e - i) i = X_lf σ n e (e - (i + 1)) (i + 1) by rw [show e - i = (e - (i + 1)) + 1 by omega]; exact (if_neg (by omega)).trans (by first | exact if_neg (nn1 (nnN c_63)) | exact if_neg (nn2 (nnN c_74)))]
        exact q
      · refine tt_aload_n d_Lake_faultIn_66 rfl ?_
        refine tt_iload d_Lake_faultIn_67 rfl ?_
        refine tt_callV (x_Text_at (d := d + 1) (n := n) (j := i) hn hz (by omega)) cw_Text_at rfl rfl (by decide) rfl (by omega) d_Lake_faultIn_69 rfl rfl (Nat.le_of_ble_eq_true rfl) (Nat.le_of_ble_eq_true rfl) rfl rfl rfl (fun v σ2 q => ?_)
        obtain ⟨rfl, e9⟩ := q
        rw [e9]
        clear e9
        refine tt_bipush (v := nI 35) d_Lake_faultIn_72 (by decide) ?_
        refine tt_ic_eq (t := 80) d_Lake_faultIn_74 (by decide) (fun c_74 => ?_) (fun c_74 => ?_)
        · refine tt_iinc d_Lake_faultIn_80 rfl (nI_inc _ 1) (by decide) rfl ?_
          refine tt_goto (t := 48) d_Lake_faultIn_83 (by decide) ?_
          have q := ih (e - (i + 1)) (by omega) (i + 1) rfl (by omega)
          rw [show X_lf σ n e (e - i) i = X_lf σ n e (e - (i + 1)) (i + 1) by rw [show e - i = (e - (i + 1)) + 1 by omega]; exact (if_neg (by omega)).trans (by first | exact if_neg (nn1 (nnN c_63)) | exact if_neg (nn2 (nnN c_74)))]
          exact q
        · refine tt_iload d_Lake_faultIn_77 rfl ?_
          refine tt_iret rfl d_Lake_faultIn_79 ?_
          refine ⟨congrArg (fun w => some (Value.int w)) ?_, rfl⟩
          rw [show e - i = (e - (i + 1)) + 1 by omega]
          exact ((if_neg (by omega)).trans (if_pos ⟨c_63, c_74⟩)).symm

