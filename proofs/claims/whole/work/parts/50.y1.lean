/-! FishFerryModel: object 154. Small methods. Printed by wip/whole. -/
theorem lg_lt (x y : Int64) : lg_cmp x y < 0 ↔ x < y := by
  unfold lg_cmp
  by_cases h : y < x
  · rw [if_pos h]
    exact ⟨fun q => absurd q (by decide), fun q => absurd (Int64.lt_trans h q) (Int64.lt_irrefl)⟩
  · rw [if_neg h]
    by_cases g : x = y
    · rw [if_pos g]; subst g
      exact ⟨fun q => absurd q (by decide), fun q => absurd q h⟩
    · rw [if_neg g]
      refine ⟨fun _ => ?_, fun _ => by decide⟩
      rcases Int64.lt_or_eq_of_le (Int64.not_lt.mp h) with z | z
      · exact z
      · exact absurd z g
theorem lg_gt (x y : Int64) : 0 < lg_cmp x y ↔ y < x := by
  unfold lg_cmp
  by_cases h : y < x
  · rw [if_pos h]; exact ⟨fun _ => h, fun _ => by decide⟩
  · rw [if_neg h]
    by_cases g : x = y
    · rw [if_pos g]; exact ⟨fun q => absurd q (by decide), fun q => absurd q h⟩
    · rw [if_neg g]; exact ⟨fun q => absurd q (by decide), fun q => absurd q h⟩
theorem lg_eq (x y : Int64) : lg_cmp x y = 0 ↔ x = y := by
  unfold lg_cmp
  by_cases h : y < x
  · rw [if_pos h]
    exact ⟨fun q => absurd q (by decide), fun q => absurd (q ▸ h) (Int64.lt_irrefl)⟩
  · rw [if_neg h]
    by_cases g : x = y
    · rw [if_pos g]; exact ⟨fun _ => g, fun _ => rfl⟩
    · rw [if_neg g]; exact ⟨fun q => absurd q (by decide), fun q => absurd q g⟩
def Yin (a b c : Int64) : Int32 := if b ≤ a ∧ a ≤ c then nI 1 else nI 0
theorem Yin_toInt (a b c : Int64) : Yin a b c = if b.toInt ≤ a.toInt ∧ a.toInt ≤ c.toInt then nI 1 else nI 0 := by
  unfold Yin
  simp only [Int64.le_iff_toInt_le]
theorem Yin_X {i : Int32} {n : Nat} (hn : n < 2 ^ 30) : Yin i.toInt64 0 (nI n - nI 1).toInt64 = X_in i n := by
  rw [Yin_toInt]
  unfold X_in
  rw [Int32.toInt_toInt64, Int32.toInt_toInt64, pk_sub_toInt hn (by omega)]
  have : (0 : Int64).toInt = 0 := rfl
  rw [this]
  by_cases c : 0 ≤ i.toInt ∧ i.toInt < n
  · rw [if_pos (by omega), if_pos c]
  · rw [if_neg (by omega), if_neg c]
/-- between two numbers, that are given -/
theorem Yin_N {i : Int32} {a b : Nat} (x : Int64) (y : Int64) (hx : x.toInt = a) (hy : y.toInt = b) : Yin i.toInt64 x y = if (a : Int) ≤ i.toInt ∧ i.toInt ≤ b then nI 1 else nI 0 := by
  rw [Yin_toInt, Int32.toInt_toInt64, hx, hy]
theorem has_t : ∀ m, m < 256 → ∀ k, k < 8 → ((nI m).toInt64 >>> ((nI k).toInt64 &&& 63) &&& 1 = 1 ↔ m.testBit k = true) := by decide +kernel
def tbI (m k : Nat) : Int32 := if m.testBit k = true then nI 1 else nI 0
theorem tbI_0 {m k : Nat} : tbI m k = 0 ↔ ¬ m.testBit k = true := by
  unfold tbI
  by_cases c : m.testBit k = true
  · rw [if_pos c]; exact ⟨fun q => absurd q (by decide), fun q => absurd c q⟩
  · rw [if_neg c]; exact ⟨fun _ => c, fun _ => rfl⟩
def flI (z : Int32) : Int32 := if z = 0 then nI 0 else nI 1
/-- the reference's environment -/
def isY (b : Nat) : Prop := b = 160 ∨ b = 161
theorem xY_sh {b : Nat} (h : isY b) : xSh[b]? = some (1, 0, 38) := by rcases h with rfl | rfl <;> rfl
def EYb (σ : xs) (e : xe) : Prop := (sf σ 154 3 = nI (eR e) ∧ sf σ 154 4 = nI (eC e) ∧ sf σ 154 5 = nI (eN e) ∧ sf σ 154 7 = nI (eL e)) ∧ (∀ i, i < eN e → si σ 158 i = nI (eK e i) ∧ si σ 159 i = nI (eS e i)) ∧ (∀ i, i < eL e → si σ 157 i = nI (eF e i)) ∧ ∀ f, f < eR e * eC e → si σ 156 f = nI (eB e f)
/-- a row of the reference shows v -/
def SY (σ : xs) (b n : Nat) (v : sv) : Prop := (si σ b 0 = nI (v 0 0) ∧ si σ b 33 = nI (v 0 5) ∧ si σ b 34 = nI (v 0 1) ∧ si σ b 35 = nI (v 0 2) ∧ si σ b 36 = nI (v 0 3) ∧ si σ b 37 = nI (v 0 4)) ∧ ∀ i, i < n → si σ b (1 + i) = nI (v 1 i) ∧ si σ b (9 + i) = nI (v 2 i) ∧ si σ b (17 + i) = gI (v 3 i) ∧ si σ b (25 + i) = if v 3 i = 0 then -1 else nI (v 4 i)
theorem y_in {l : xLa} {d : Nat} {σ : xs} {a b c : Int64} : TE l M_Y_in (d + 1) [.long a, .long b, .long c] σ (some (.int (Yin a b c))) (σ) := by
  show T l M_Y_in (d + 1) 0 _ [] σ _
  refine tt_lload_n d_Y_in_0 rfl ?_
  refine tt_lload_n d_Y_in_1 rfl ?_
  refine tt_lcmp d_Y_in_2 ?_
  refine tt_if_lt (t := 17) d_Y_in_3 (by decide) (fun c_3 => ?_) (fun c_3 => ?_)
  · refine tt_iconst (v := nI 0) d_Y_in_17 (by decide) ?_
    refine tt_zret rfl rfl d_Y_in_18 ?_
    refine ⟨congrArg (fun w => some (Value.int w)) ?_, rfl⟩
    unfold Yin
    first
      | exact (if_neg (nn1 (Int64.not_le.mpr ((lg_lt _ _).mp c_3)))).symm
      | exact (if_neg (nn2 (Int64.not_le.mpr ((lg_gt _ _).mp c_10)))).symm
      | exact (if_pos (And.intro (Int64.not_lt.mp (fun q => c_3 ((lg_lt _ _).mpr q))) (Int64.not_lt.mp (fun q => c_10 ((lg_gt _ _).mpr q))))).symm
  · refine tt_lload_n d_Y_in_6 rfl ?_
    refine tt_lload d_Y_in_7 rfl ?_
    refine tt_lcmp d_Y_in_9 ?_
    refine tt_if_gt (t := 17) d_Y_in_10 (by decide) (fun c_10 => ?_) (fun c_10 => ?_)
    · refine tt_iconst (v := nI 0) d_Y_in_17 (by decide) ?_
      refine tt_zret rfl rfl d_Y_in_18 ?_
      refine ⟨congrArg (fun w => some (Value.int w)) ?_, rfl⟩
      unfold Yin
      first
        | exact (if_neg (nn1 (Int64.not_le.mpr ((lg_lt _ _).mp c_3)))).symm
        | exact (if_neg (nn2 (Int64.not_le.mpr ((lg_gt _ _).mp c_10)))).symm
        | exact (if_pos (And.intro (Int64.not_lt.mp (fun q => c_3 ((lg_lt _ _).mpr q))) (Int64.not_lt.mp (fun q => c_10 ((lg_gt _ _).mpr q))))).symm
    · refine tt_iconst (v := nI 1) d_Y_in_13 (by decide) ?_
      refine tt_goto (t := 18) d_Y_in_14 (by decide) ?_
      refine tt_zret rfl rfl d_Y_in_18 ?_
      refine ⟨congrArg (fun w => some (Value.int w)) ?_, rfl⟩
      unfold Yin
      first
        | exact (if_neg (nn1 (Int64.not_le.mpr ((lg_lt _ _).mp c_3)))).symm
        | exact (if_neg (nn2 (Int64.not_le.mpr ((lg_gt _ _).mp c_10)))).symm
        | exact (if_pos (And.intro (Int64.not_lt.mp (fun q => c_3 ((lg_lt _ _).mpr q))) (Int64.not_lt.mp (fun q => c_10 ((lg_gt _ _).mpr q))))).symm

theorem y_has {l : xLa} {d : Nat} {σ : xs} {m k : Nat} (hm : m < 256) (hk : k < 8) : TE l M_Y_has (d + 1) [.long (nI m).toInt64, .int (nI k)] σ (some (.int (tbI m k))) (σ) := by
  show T l M_Y_has (d + 1) 0 _ [] σ _
  refine tt_lload_n d_Y_has_0 rfl ?_
  refine tt_iload_n d_Y_has_1 rfl ?_
  refine tt_lshr d_Y_has_2 ?_
  refine tt_lconst (v := 1) d_Y_has_3 (by decide) ?_
  refine tt_land d_Y_has_4 ?_
  refine tt_lconst (v := 1) d_Y_has_5 (by decide) ?_
  refine tt_lcmp d_Y_has_6 ?_
  refine tt_if_ne (t := 14) d_Y_has_7 (by decide) (fun c_7 => ?_) (fun c_7 => ?_)
  · refine tt_iconst (v := nI 0) d_Y_has_14 (by decide) ?_
    refine tt_zret rfl rfl d_Y_has_15 ?_
    refine ⟨congrArg (fun w => some (Value.int w)) ?_, rfl⟩
    unfold tbI
    first
      | exact (if_neg (fun q => c_7 ((lg_eq _ _).mpr ((has_t m hm k hk).mpr q)))).symm
      | exact (if_pos ((has_t m hm k hk).mp ((lg_eq _ _).mp (Classical.not_not.mp c_7)))).symm
  · refine tt_iconst (v := nI 1) d_Y_has_10 (by decide) ?_
    refine tt_goto (t := 15) d_Y_has_11 (by decide) ?_
    refine tt_zret rfl rfl d_Y_has_15 ?_
    refine ⟨congrArg (fun w => some (Value.int w)) ?_, rfl⟩
    unfold tbI
    first
      | exact (if_neg (fun q => c_7 ((lg_eq _ _).mpr ((has_t m hm k hk).mpr q)))).symm
      | exact (if_pos ((has_t m hm k hk).mp ((lg_eq _ _).mp (Classical.not_not.mp c_7)))).symm

theorem y_flag {l : xLa} {d : Nat} {σ : xs} {z : Int32} : TE l M_Y_flag (d + 1) [.int z] σ (some (.int (flI z))) (σ) := by
  show T l M_Y_flag (d + 1) 0 _ [] σ _
  refine tt_iload_n d_Y_flag_0 rfl ?_
  refine tt_if_eq (t := 8) d_Y_flag_1 (by decide) (fun c_1 => ?_) (fun c_1 => ?_)
  · refine tt_iconst (v := nI 0) d_Y_flag_8 (by decide) ?_
    refine tt_iret rfl d_Y_flag_9 ?_
    refine ⟨congrArg (fun w => some (Value.int w)) ?_, rfl⟩
    unfold flI
    first
      | exact (if_pos c_1).symm
      | exact (if_neg c_1).symm
  · refine tt_iconst (v := nI 1) d_Y_flag_4 (by decide) ?_
    refine tt_goto (t := 9) d_Y_flag_5 (by decide) ?_
    refine tt_iret rfl d_Y_flag_9 ?_
    refine ⟨congrArg (fun w => some (Value.int w)) ?_, rfl⟩
    unfold flI
    first
      | exact (if_pos c_1).symm
      | exact (if_neg c_1).symm

theorem y_fields {l : xLa} {d : Nat} {σ : xs} {R C : Nat} (hr : sf σ 154 3 = nI R) (hc : sf σ 154 4 = nI C) (hR : R ≤ 6) (hC : C ≤ 6) (hC0 : 0 < C) : TE l M_Y_fields (d + 1) [.ref 154] σ (some (.int (nI (R * C)))) (σ) := by
  show T l M_Y_fields (d + 1) 0 _ [] σ _
  refine tt_aload_n d_Y_fields_0 rfl ?_
  refine tn_get d_Y_fields_1 rfl rfl (by decide) rfl hr ?_
  refine tt_aload_n d_Y_fields_4 rfl ?_
  refine tn_get d_Y_fields_5 rfl rfl (by decide) rfl hc ?_
  refine tn_imul d_Y_fields_8 ?_
  refine tt_iret rfl d_Y_fields_9 ?_
  exact ⟨rfl, rfl⟩

theorem y_isField {l : xLa} {d : Nat} {σ : xs} {i : Int32} {R C : Nat} (hr : sf σ 154 3 = nI R) (hc : sf σ 154 4 = nI C) (hR : R ≤ 6) (hC : C ≤ 6) (hC0 : 0 < C) : TE l M_Y_isField (d + 2) [.ref 154, .int i] σ (some (.int (X_in i (R * C)))) (σ) := by
  show T l M_Y_isField (d + 2) 0 _ [] σ _
  have hRC : R * C ≤ 36 := Nat.mul_le_mul hR hC
  refine tt_iload_n d_Y_isField_0 rfl ?_
  refine tt_i2l d_Y_isField_1 ?_
  refine tt_lconst (v := 0) d_Y_isField_2 (by decide) ?_
  refine tt_aload_n d_Y_isField_3 rfl ?_
  refine tt_callV (y_fields (d := d) hr hc hR hC hC0) cw_Y_fields rfl rfl (by decide) rfl (by omega) d_Y_isField_4 rfl rfl (Nat.le_of_ble_eq_true rfl) (Nat.le_of_ble_eq_true rfl) rfl rfl rfl (fun v σ2 q => ?_)
  obtain ⟨rfl, e9⟩ := q
  rw [e9]
  clear e9
  refine tt_iconst (v := nI 1) d_Y_isField_7 (by decide) ?_
  refine tt_isub d_Y_isField_8 ?_
  refine tt_i2l d_Y_isField_9 ?_
  refine tt_callS (y_in (d := d)) cw_Y_in rfl (by omega) d_Y_isField_10 rfl rfl (Nat.le_of_ble_eq_true rfl) (Nat.le_of_ble_eq_true rfl) rfl rfl rfl (fun v σ2 q => ?_)
  obtain ⟨rfl, e9⟩ := q
  rw [e9, Yin_X (by omega)]
  clear e9
  refine tt_zret rfl (by unfold X_in; split <;> rfl) d_Y_isField_13 ?_
  exact ⟨rfl, rfl⟩

theorem y_isFish {l : xLa} {d : Nat} {σ : xs} {i : Int32} {n : Nat} (hn : sf σ 154 5 = nI n) (hn8 : n ≤ 8) : TE l M_Y_isFish (d + 2) [.ref 154, .int i] σ (some (.int (X_in i n))) (σ) := by
  show T l M_Y_isFish (d + 2) 0 _ [] σ _
  refine tt_iload_n d_Y_isFish_0 rfl ?_
  refine tt_i2l d_Y_isFish_1 ?_
  refine tt_lconst (v := 0) d_Y_isFish_2 (by decide) ?_
  refine tt_aload_n d_Y_isFish_3 rfl ?_
  refine tn_get d_Y_isFish_4 rfl rfl (by decide) rfl hn ?_
  refine tt_iconst (v := nI 1) d_Y_isFish_7 (by decide) ?_
  refine tt_isub d_Y_isFish_8 ?_
  refine tt_i2l d_Y_isFish_9 ?_
  refine tt_callS (y_in (d := d)) cw_Y_in rfl (by omega) d_Y_isFish_10 rfl rfl (Nat.le_of_ble_eq_true rfl) (Nat.le_of_ble_eq_true rfl) rfl rfl rfl (fun v σ2 q => ?_)
  obtain ⟨rfl, e9⟩ := q
  rw [e9, Yin_X (by omega)]
  clear e9
  refine tt_zret rfl (by unfold X_in; split <;> rfl) d_Y_isFish_13 ?_
  exact ⟨rfl, rfl⟩

theorem y_far {l : xLa} {d : Nat} {σ : xs} {a b : Nat} (ha : a < 2 ^ 20) (hb : b < 2 ^ 20) {R C : Nat} (hr : sf σ 154 3 = nI R) (hc : sf σ 154 4 = nI C) (hR : R ≤ 6) (hC : C ≤ 6) (hC0 : 0 < C) : TE l M_Y_far (d + 1) [.ref 154, .int (nI a), .int (nI b)] σ (some (.int (nI (gpN C a b)))) (σ) := by
  show T l M_Y_far (d + 1) 0 _ [] σ _
  refine tt_iload_n d_Y_far_0 rfl ?_
  refine tt_aload_n d_Y_far_1 rfl ?_
  refine tn_get d_Y_far_2 rfl rfl (by decide) rfl hc ?_
  refine tn_idiv (by omega) (by omega) (by omega) d_Y_far_5 ?_
  refine tt_iload_n d_Y_far_6 rfl ?_
  refine tt_aload_n d_Y_far_7 rfl ?_
  refine tn_get d_Y_far_8 rfl rfl (by decide) rfl hc ?_
  refine tn_idiv (by omega) (by omega) (by omega) d_Y_far_11 ?_
  refine tt_isub d_Y_far_12 ?_
  refine tt_abs d_Y_far_13 rfl (Nat.le_of_ble_eq_true rfl) ?_
  refine tt_iload_n d_Y_far_16 rfl ?_
  refine tt_aload_n d_Y_far_17 rfl ?_
  refine tn_get d_Y_far_18 rfl rfl (by decide) rfl hc ?_
  refine tn_irem (by omega) (by omega) (by omega) d_Y_far_21 ?_
  refine tt_iload_n d_Y_far_22 rfl ?_
  refine tt_aload_n d_Y_far_23 rfl ?_
  refine tn_get d_Y_far_24 rfl rfl (by decide) rfl hc ?_
  refine tn_irem (by omega) (by omega) (by omega) d_Y_far_27 ?_
  refine tt_isub d_Y_far_28 ?_
  refine tt_abs d_Y_far_29 rfl (Nat.le_of_ble_eq_true rfl) ?_
  refine tt_iadd d_Y_far_32 ?_
  refine tt_iret rfl d_Y_far_33 ?_
  refine ⟨congrArg (fun w => some (Value.int w)) ?_, rfl⟩
  exact X_gap_N ha hb

theorem y_fogOn {l : xLa} {d : Nat} {σ : xs} {h L : Nat} {F : Nat → Nat} (hh : h < 2 ^ 31) (hl : sf σ 154 7 = nI L) (hL0 : 0 < L) (hL : L ≤ 20) (hF : ∀ i, i < L → si σ 157 i = nI (F i)) : TE l M_Y_fogOn (d + 1) [.ref 154, .int (nI h)] σ (some (.int (nI (F (h % L))))) (σ) := by
  show T l M_Y_fogOn (d + 1) 0 _ [] σ _
  have hm := Nat.mod_lt h hL0
  refine tt_aload_n d_Y_fogOn_0 rfl ?_
  refine tt_getR d_Y_fogOn_1 rfl rfl (by decide) rfl rfl ?_
  refine tt_iload_n d_Y_fogOn_4 rfl ?_
  refine tt_aload_n d_Y_fogOn_5 rfl ?_
  refine tn_get d_Y_fogOn_6 rfl rfl (by decide) rfl hl ?_
  refine tn_irem (by omega) (by omega) (by omega) d_Y_fogOn_9 ?_
  refine tn_iald d_Y_fogOn_10 rfl (by decide) (by omega) (hF _ hm) ?_
  refine tt_iret rfl d_Y_fogOn_11 ?_
  exact ⟨rfl, rfl⟩

theorem Yin_c {i : Int32} {n : Nat} (hn : n < 2 ^ 30) : (0 ≤ i ∧ i < nI n) ↔ ¬ X_in i n = 0 := by
  unfold X_in
  rw [fa_le', fa_lt', nI_toInt (by omega)]
  have : (0 : Int32).toInt = 0 := rfl
  rw [this]
  by_cases c : 0 ≤ i.toInt ∧ i.toInt < n
  · rw [if_pos c]; exact ⟨fun _ => by decide, fun _ => c⟩
  · rw [if_neg c]; exact ⟨fun q => absurd q c, fun q => absurd rfl q⟩
theorem y_beside {l : xLa} {d : Nat} {σ : xs} {f w : Nat} (hf : f < 2 ^ 31) (hw : w < 4) {R C : Nat} (hr : sf σ 154 3 = nI R) (hc : sf σ 154 4 = nI C) (hR : R ≤ 6) (hC : C ≤ 6) (hC0 : 0 < C) : TE l M_Y_beside (d + 2) [.ref 154, .int (nI f), .int (nI w)] σ (some (.int (X_bes R C f w))) (σ) := by
  show T l M_Y_beside (d + 2) 0 _ [] σ _
  refine tt_iload_n d_Y_beside_0 rfl ?_
  refine tt_aload_n d_Y_beside_1 rfl ?_
  refine tn_get d_Y_beside_2 rfl rfl (by decide) rfl hc ?_
  refine tn_idiv (by omega) (by omega) (by omega) d_Y_beside_5 ?_
  refine tt_iload_n d_Y_beside_6 rfl ?_
  refine tt_iconst (v := nI 2) d_Y_beside_7 (by decide) ?_
  refine tn_ic_ne (t := 15) (by omega) (by omega) d_Y_beside_8 (by decide) (fun c_8 => ?_) (fun c_8 => ?_)
  · refine tt_iload_n d_Y_beside_15 rfl ?_
    refine tn_if_ne (t := 23) (by omega) d_Y_beside_16 (by decide) (fun c_16 => ?_) (fun c_16 => ?_)
    · refine tt_iconst (v := nI 0) d_Y_beside_23 (by decide) ?_
      refine tt_iadd d_Y_beside_24 ?_
      refine tt_istore_n d_Y_beside_25 (by decide) rfl ?_
      refine tt_iload_n d_Y_beside_26 rfl ?_
      refine tt_aload_n d_Y_beside_27 rfl ?_
      refine tn_get d_Y_beside_28 rfl rfl (by decide) rfl hc ?_
      refine tn_irem (by omega) (by omega) (by omega) d_Y_beside_31 ?_
      refine tt_iload_n d_Y_beside_32 rfl ?_
      refine tt_iconst (v := nI 1) d_Y_beside_33 (by decide) ?_
      refine tn_ic_ne (t := 41) (by omega) (by omega) d_Y_beside_34 (by decide) (fun c_34 => ?_) (fun c_34 => ?_)
      · refine tt_iload_n d_Y_beside_41 rfl ?_
        refine tt_iconst (v := nI 3) d_Y_beside_42 (by decide) ?_
        refine tn_ic_ne (t := 50) (by omega) (by omega) d_Y_beside_43 (by decide) (fun c_43 => ?_) (fun c_43 => ?_)
        · refine tt_iconst (v := nI 0) d_Y_beside_50 (by decide) ?_
          refine tt_iadd d_Y_beside_51 ?_
          refine tt_istore d_Y_beside_52 (by decide) rfl ?_
          refine tt_iload_n d_Y_beside_54 rfl ?_
          refine tt_i2l d_Y_beside_55 ?_
          refine tt_lconst (v := 0) d_Y_beside_56 (by decide) ?_
          refine tt_aload_n d_Y_beside_57 rfl ?_
          refine tn_get d_Y_beside_58 rfl rfl (by decide) rfl hr ?_
          refine tt_iconst (v := nI 1) d_Y_beside_61 (by decide) ?_
          refine tt_isub d_Y_beside_62 ?_
          refine tt_i2l d_Y_beside_63 ?_
          refine tt_callS (y_in (d := d)) cw_Y_in rfl (by omega) d_Y_beside_64 rfl rfl (Nat.le_of_ble_eq_true rfl) (Nat.le_of_ble_eq_true rfl) rfl rfl rfl (fun v σ2 q => ?_)
          obtain ⟨rfl, e9⟩ := q
          rw [e9, Yin_X (by omega)]
          clear e9
          refine tt_if_eq (t := 99) d_Y_beside_67 (by decide) (fun c_67 => ?_) (fun c_67 => ?_)
          · refine tt_iconst (v := (-1)) d_Y_beside_99 (by decide) ?_
            refine tt_iret rfl d_Y_beside_100 ?_
            refine ⟨congrArg (fun w => some (Value.int w)) ?_, rfl⟩
            rcases (show w = 0 ∨ w = 1 ∨ w = 2 ∨ w = 3 by omega) with rfl | rfl | rfl | rfl
            all_goals first | (exfalso; omega) | skip
            all_goals unfold X_bes X_fa
            all_goals first
              | exact (if_neg (fun q => absurd c_67 ((Yin_c (by omega)).mp ⟨q.1, q.2.1⟩))).symm
              | exact (if_neg (fun q => absurd c_84 ((Yin_c (by omega)).mp ⟨q.2.2.1, q.2.2.2⟩))).symm
              | exact ((if_pos ⟨((Yin_c (by omega)).mpr c_67).1, ((Yin_c (by omega)).mpr c_67).2, (Yin_c (by omega)).mpr c_84⟩).trans (by rw [Int32.mul_comm]; rfl)).symm
          · refine tt_iload d_Y_beside_70 rfl ?_
            refine tt_i2l d_Y_beside_72 ?_
            refine tt_lconst (v := 0) d_Y_beside_73 (by decide) ?_
            refine tt_aload_n d_Y_beside_74 rfl ?_
            refine tn_get d_Y_beside_75 rfl rfl (by decide) rfl hc ?_
            refine tt_iconst (v := nI 1) d_Y_beside_78 (by decide) ?_
            refine tt_isub d_Y_beside_79 ?_
            refine tt_i2l d_Y_beside_80 ?_
            refine tt_callS (y_in (d := d)) cw_Y_in rfl (by omega) d_Y_beside_81 rfl rfl (Nat.le_of_ble_eq_true rfl) (Nat.le_of_ble_eq_true rfl) rfl rfl rfl (fun v σ2 q => ?_)
            obtain ⟨rfl, e9⟩ := q
            rw [e9, Yin_X (by omega)]
            clear e9
            refine tt_if_eq (t := 99) d_Y_beside_84 (by decide) (fun c_84 => ?_) (fun c_84 => ?_)
            · refine tt_iconst (v := (-1)) d_Y_beside_99 (by decide) ?_
              refine tt_iret rfl d_Y_beside_100 ?_
              refine ⟨congrArg (fun w => some (Value.int w)) ?_, rfl⟩
              rcases (show w = 0 ∨ w = 1 ∨ w = 2 ∨ w = 3 by omega) with rfl | rfl | rfl | rfl
              all_goals first | (exfalso; omega) | skip
              all_goals unfold X_bes X_fa
              all_goals first
                | exact (if_neg (fun q => absurd c_67 ((Yin_c (by omega)).mp ⟨q.1, q.2.1⟩))).symm
                | exact (if_neg (fun q => absurd c_84 ((Yin_c (by omega)).mp ⟨q.2.2.1, q.2.2.2⟩))).symm
                | exact ((if_pos ⟨((Yin_c (by omega)).mpr c_67).1, ((Yin_c (by omega)).mpr c_67).2, (Yin_c (by omega)).mpr c_84⟩).trans (by rw [Int32.mul_comm]; rfl)).symm
            · refine tt_aload_n d_Y_beside_87 rfl ?_
              refine tn_get d_Y_beside_88 rfl rfl (by decide) rfl hc ?_
              refine tt_iload_n d_Y_beside_91 rfl ?_
              refine tt_imul d_Y_beside_92 ?_
              refine tt_iload d_Y_beside_93 rfl ?_
              refine tt_iadd d_Y_beside_95 ?_
              refine tt_goto (t := 100) d_Y_beside_96 (by decide) ?_
              refine tt_iret rfl d_Y_beside_100 ?_
              refine ⟨congrArg (fun w => some (Value.int w)) ?_, rfl⟩
              rcases (show w = 0 ∨ w = 1 ∨ w = 2 ∨ w = 3 by omega) with rfl | rfl | rfl | rfl
              all_goals first | (exfalso; omega) | skip
              all_goals unfold X_bes X_fa
              all_goals first
                | exact (if_neg (fun q => absurd c_67 ((Yin_c (by omega)).mp ⟨q.1, q.2.1⟩))).symm
                | exact (if_neg (fun q => absurd c_84 ((Yin_c (by omega)).mp ⟨q.2.2.1, q.2.2.2⟩))).symm
                | exact ((if_pos ⟨((Yin_c (by omega)).mpr c_67).1, ((Yin_c (by omega)).mpr c_67).2, (Yin_c (by omega)).mpr c_84⟩).trans (by rw [Int32.mul_comm]; rfl)).symm
        · refine tt_iconst (v := (-1)) d_Y_beside_46 (by decide) ?_
          refine tt_goto (t := 51) d_Y_beside_47 (by decide) ?_
          refine tt_iadd d_Y_beside_51 ?_
          refine tt_istore d_Y_beside_52 (by decide) rfl ?_
          refine tt_iload_n d_Y_beside_54 rfl ?_
          refine tt_i2l d_Y_beside_55 ?_
          refine tt_lconst (v := 0) d_Y_beside_56 (by decide) ?_
          refine tt_aload_n d_Y_beside_57 rfl ?_
          refine tn_get d_Y_beside_58 rfl rfl (by decide) rfl hr ?_
          refine tt_iconst (v := nI 1) d_Y_beside_61 (by decide) ?_
          refine tt_isub d_Y_beside_62 ?_
          refine tt_i2l d_Y_beside_63 ?_
          refine tt_callS (y_in (d := d)) cw_Y_in rfl (by omega) d_Y_beside_64 rfl rfl (Nat.le_of_ble_eq_true rfl) (Nat.le_of_ble_eq_true rfl) rfl rfl rfl (fun v σ2 q => ?_)
          obtain ⟨rfl, e9⟩ := q
          rw [e9, Yin_X (by omega)]
          clear e9
          refine tt_if_eq (t := 99) d_Y_beside_67 (by decide) (fun c_67 => ?_) (fun c_67 => ?_)
          · refine tt_iconst (v := (-1)) d_Y_beside_99 (by decide) ?_
            refine tt_iret rfl d_Y_beside_100 ?_
            refine ⟨congrArg (fun w => some (Value.int w)) ?_, rfl⟩
            rcases (show w = 0 ∨ w = 1 ∨ w = 2 ∨ w = 3 by omega) with rfl | rfl | rfl | rfl
            all_goals first | (exfalso; omega) | skip
            all_goals unfold X_bes X_fa
            all_goals first
              | exact (if_neg (fun q => absurd c_67 ((Yin_c (by omega)).mp ⟨q.1, q.2.1⟩))).symm
              | exact (if_neg (fun q => absurd c_84 ((Yin_c (by omega)).mp ⟨q.2.2.1, q.2.2.2⟩))).symm
              | exact ((if_pos ⟨((Yin_c (by omega)).mpr c_67).1, ((Yin_c (by omega)).mpr c_67).2, (Yin_c (by omega)).mpr c_84⟩).trans (by rw [Int32.mul_comm]; rfl)).symm
          · refine tt_iload d_Y_beside_70 rfl ?_
            refine tt_i2l d_Y_beside_72 ?_
            refine tt_lconst (v := 0) d_Y_beside_73 (by decide) ?_
            refine tt_aload_n d_Y_beside_74 rfl ?_
            refine tn_get d_Y_beside_75 rfl rfl (by decide) rfl hc ?_
            refine tt_iconst (v := nI 1) d_Y_beside_78 (by decide) ?_
            refine tt_isub d_Y_beside_79 ?_
            refine tt_i2l d_Y_beside_80 ?_
            refine tt_callS (y_in (d := d)) cw_Y_in rfl (by omega) d_Y_beside_81 rfl rfl (Nat.le_of_ble_eq_true rfl) (Nat.le_of_ble_eq_true rfl) rfl rfl rfl (fun v σ2 q => ?_)
            obtain ⟨rfl, e9⟩ := q
            rw [e9, Yin_X (by omega)]
            clear e9
            refine tt_if_eq (t := 99) d_Y_beside_84 (by decide) (fun c_84 => ?_) (fun c_84 => ?_)
            · refine tt_iconst (v := (-1)) d_Y_beside_99 (by decide) ?_
              refine tt_iret rfl d_Y_beside_100 ?_
              refine ⟨congrArg (fun w => some (Value.int w)) ?_, rfl⟩
              rcases (show w = 0 ∨ w = 1 ∨ w = 2 ∨ w = 3 by omega) with rfl | rfl | rfl | rfl
              all_goals first | (exfalso; omega) | skip
              all_goals unfold X_bes X_fa
              all_goals first
                | exact (if_neg (fun q => absurd c_67 ((Yin_c (by omega)).mp ⟨q.1, q.2.1⟩))).symm
                | exact (if_neg (fun q => absurd c_84 ((Yin_c (by omega)).mp ⟨q.2.2.1, q.2.2.2⟩))).symm
                | exact ((if_pos ⟨((Yin_c (by omega)).mpr c_67).1, ((Yin_c (by omega)).mpr c_67).2, (Yin_c (by omega)).mpr c_84⟩).trans (by rw [Int32.mul_comm]; rfl)).symm
            · refine tt_aload_n d_Y_beside_87 rfl ?_
              refine tn_get d_Y_beside_88 rfl rfl (by decide) rfl hc ?_
              refine tt_iload_n d_Y_beside_91 rfl ?_
              refine tt_imul d_Y_beside_92 ?_
              refine tt_iload d_Y_beside_93 rfl ?_
              refine tt_iadd d_Y_beside_95 ?_
              refine tt_goto (t := 100) d_Y_beside_96 (by decide) ?_
              refine tt_iret rfl d_Y_beside_100 ?_
              refine ⟨congrArg (fun w => some (Value.int w)) ?_, rfl⟩
              rcases (show w = 0 ∨ w = 1 ∨ w = 2 ∨ w = 3 by omega) with rfl | rfl | rfl | rfl
              all_goals first | (exfalso; omega) | skip
              all_goals unfold X_bes X_fa
              all_goals first
                | exact (if_neg (fun q => absurd c_67 ((Yin_c (by omega)).mp ⟨q.1, q.2.1⟩))).symm
                | exact (if_neg (fun q => absurd c_84 ((Yin_c (by omega)).mp ⟨q.2.2.1, q.2.2.2⟩))).symm
                | exact ((if_pos ⟨((Yin_c (by omega)).mpr c_67).1, ((Yin_c (by omega)).mpr c_67).2, (Yin_c (by omega)).mpr c_84⟩).trans (by rw [Int32.mul_comm]; rfl)).symm
      · refine tt_iconst (v := nI 1) d_Y_beside_37 (by decide) ?_
        refine tt_goto (t := 51) d_Y_beside_38 (by decide) ?_
        refine tt_iadd d_Y_beside_51 ?_
        refine tt_istore d_Y_beside_52 (by decide) rfl ?_
        refine tt_iload_n d_Y_beside_54 rfl ?_
        refine tt_i2l d_Y_beside_55 ?_
        refine tt_lconst (v := 0) d_Y_beside_56 (by decide) ?_
        refine tt_aload_n d_Y_beside_57 rfl ?_
        refine tn_get d_Y_beside_58 rfl rfl (by decide) rfl hr ?_
        refine tt_iconst (v := nI 1) d_Y_beside_61 (by decide) ?_
        refine tt_isub d_Y_beside_62 ?_
        refine tt_i2l d_Y_beside_63 ?_
        refine tt_callS (y_in (d := d)) cw_Y_in rfl (by omega) d_Y_beside_64 rfl rfl (Nat.le_of_ble_eq_true rfl) (Nat.le_of_ble_eq_true rfl) rfl rfl rfl (fun v σ2 q => ?_)
        obtain ⟨rfl, e9⟩ := q
        rw [e9, Yin_X (by omega)]
        clear e9
        refine tt_if_eq (t := 99) d_Y_beside_67 (by decide) (fun c_67 => ?_) (fun c_67 => ?_)
        · refine tt_iconst (v := (-1)) d_Y_beside_99 (by decide) ?_
          refine tt_iret rfl d_Y_beside_100 ?_
          refine ⟨congrArg (fun w => some (Value.int w)) ?_, rfl⟩
          rcases (show w = 0 ∨ w = 1 ∨ w = 2 ∨ w = 3 by omega) with rfl | rfl | rfl | rfl
          all_goals first | (exfalso; omega) | skip
          all_goals unfold X_bes X_fa
          all_goals first
            | exact (if_neg (fun q => absurd c_67 ((Yin_c (by omega)).mp ⟨q.1, q.2.1⟩))).symm
            | exact (if_neg (fun q => absurd c_84 ((Yin_c (by omega)).mp ⟨q.2.2.1, q.2.2.2⟩))).symm
            | exact ((if_pos ⟨((Yin_c (by omega)).mpr c_67).1, ((Yin_c (by omega)).mpr c_67).2, (Yin_c (by omega)).mpr c_84⟩).trans (by rw [Int32.mul_comm]; rfl)).symm
        · refine tt_iload d_Y_beside_70 rfl ?_
          refine tt_i2l d_Y_beside_72 ?_
          refine tt_lconst (v := 0) d_Y_beside_73 (by decide) ?_
          refine tt_aload_n d_Y_beside_74 rfl ?_
          refine tn_get d_Y_beside_75 rfl rfl (by decide) rfl hc ?_
          refine tt_iconst (v := nI 1) d_Y_beside_78 (by decide) ?_
          refine tt_isub d_Y_beside_79 ?_
          refine tt_i2l d_Y_beside_80 ?_
          refine tt_callS (y_in (d := d)) cw_Y_in rfl (by omega) d_Y_beside_81 rfl rfl (Nat.le_of_ble_eq_true rfl) (Nat.le_of_ble_eq_true rfl) rfl rfl rfl (fun v σ2 q => ?_)
          obtain ⟨rfl, e9⟩ := q
          rw [e9, Yin_X (by omega)]
          clear e9
          refine tt_if_eq (t := 99) d_Y_beside_84 (by decide) (fun c_84 => ?_) (fun c_84 => ?_)
          · refine tt_iconst (v := (-1)) d_Y_beside_99 (by decide) ?_
            refine tt_iret rfl d_Y_beside_100 ?_
            refine ⟨congrArg (fun w => some (Value.int w)) ?_, rfl⟩
            rcases (show w = 0 ∨ w = 1 ∨ w = 2 ∨ w = 3 by omega) with rfl | rfl | rfl | rfl
            all_goals first | (exfalso; omega) | skip
            all_goals unfold X_bes X_fa
            all_goals first
              | exact (if_neg (fun q => absurd c_67 ((Yin_c (by omega)).mp ⟨q.1, q.2.1⟩))).symm
              | exact (if_neg (fun q => absurd c_84 ((Yin_c (by omega)).mp ⟨q.2.2.1, q.2.2.2⟩))).symm
              | exact ((if_pos ⟨((Yin_c (by omega)).mpr c_67).1, ((Yin_c (by omega)).mpr c_67).2, (Yin_c (by omega)).mpr c_84⟩).trans (by rw [Int32.mul_comm]; rfl)).symm
          · refine tt_aload_n d_Y_beside_87 rfl ?_
            refine tn_get d_Y_beside_88 rfl rfl (by decide) rfl hc ?_
            refine tt_iload_n d_Y_beside_91 rfl ?_
            refine tt_imul d_Y_beside_92 ?_
            refine tt_iload d_Y_beside_93 rfl ?_
            refine tt_iadd d_Y_beside_95 ?_
            refine tt_goto (t := 100) d_Y_beside_96 (by decide) ?_
            refine tt_iret rfl d_Y_beside_100 ?_
            refine ⟨congrArg (fun w => some (Value.int w)) ?_, rfl⟩
            rcases (show w = 0 ∨ w = 1 ∨ w = 2 ∨ w = 3 by omega) with rfl | rfl | rfl | rfl
            all_goals first | (exfalso; omega) | skip
            all_goals unfold X_bes X_fa
            all_goals first
              | exact (if_neg (fun q => absurd c_67 ((Yin_c (by omega)).mp ⟨q.1, q.2.1⟩))).symm
              | exact (if_neg (fun q => absurd c_84 ((Yin_c (by omega)).mp ⟨q.2.2.1, q.2.2.2⟩))).symm
              | exact ((if_pos ⟨((Yin_c (by omega)).mpr c_67).1, ((Yin_c (by omega)).mpr c_67).2, (Yin_c (by omega)).mpr c_84⟩).trans (by rw [Int32.mul_comm]; rfl)).symm
    · refine tt_iconst (v := (-1)) d_Y_beside_19 (by decide) ?_
      refine tt_goto (t := 24) d_Y_beside_20 (by decide) ?_
      refine tt_iadd d_Y_beside_24 ?_
      refine tt_istore_n d_Y_beside_25 (by decide) rfl ?_
      refine tt_iload_n d_Y_beside_26 rfl ?_
      refine tt_aload_n d_Y_beside_27 rfl ?_
      refine tn_get d_Y_beside_28 rfl rfl (by decide) rfl hc ?_
      refine tn_irem (by omega) (by omega) (by omega) d_Y_beside_31 ?_
      refine tt_iload_n d_Y_beside_32 rfl ?_
      refine tt_iconst (v := nI 1) d_Y_beside_33 (by decide) ?_
      refine tn_ic_ne (t := 41) (by omega) (by omega) d_Y_beside_34 (by decide) (fun c_34 => ?_) (fun c_34 => ?_)
      · refine tt_iload_n d_Y_beside_41 rfl ?_
        refine tt_iconst (v := nI 3) d_Y_beside_42 (by decide) ?_
        refine tn_ic_ne (t := 50) (by omega) (by omega) d_Y_beside_43 (by decide) (fun c_43 => ?_) (fun c_43 => ?_)
        · refine tt_iconst (v := nI 0) d_Y_beside_50 (by decide) ?_
          refine tt_iadd d_Y_beside_51 ?_
          refine tt_istore d_Y_beside_52 (by decide) rfl ?_
          refine tt_iload_n d_Y_beside_54 rfl ?_
          refine tt_i2l d_Y_beside_55 ?_
          refine tt_lconst (v := 0) d_Y_beside_56 (by decide) ?_
          refine tt_aload_n d_Y_beside_57 rfl ?_
          refine tn_get d_Y_beside_58 rfl rfl (by decide) rfl hr ?_
          refine tt_iconst (v := nI 1) d_Y_beside_61 (by decide) ?_
          refine tt_isub d_Y_beside_62 ?_
          refine tt_i2l d_Y_beside_63 ?_
          refine tt_callS (y_in (d := d)) cw_Y_in rfl (by omega) d_Y_beside_64 rfl rfl (Nat.le_of_ble_eq_true rfl) (Nat.le_of_ble_eq_true rfl) rfl rfl rfl (fun v σ2 q => ?_)
          obtain ⟨rfl, e9⟩ := q
          rw [e9, Yin_X (by omega)]
          clear e9
          refine tt_if_eq (t := 99) d_Y_beside_67 (by decide) (fun c_67 => ?_) (fun c_67 => ?_)
          · refine tt_iconst (v := (-1)) d_Y_beside_99 (by decide) ?_
            refine tt_iret rfl d_Y_beside_100 ?_
            refine ⟨congrArg (fun w => some (Value.int w)) ?_, rfl⟩
            rcases (show w = 0 ∨ w = 1 ∨ w = 2 ∨ w = 3 by omega) with rfl | rfl | rfl | rfl
            all_goals first | (exfalso; omega) | skip
            all_goals unfold X_bes X_fa
            all_goals first
              | exact (if_neg (fun q => absurd c_67 ((Yin_c (by omega)).mp ⟨q.1, q.2.1⟩))).symm
              | exact (if_neg (fun q => absurd c_84 ((Yin_c (by omega)).mp ⟨q.2.2.1, q.2.2.2⟩))).symm
              | exact ((if_pos ⟨((Yin_c (by omega)).mpr c_67).1, ((Yin_c (by omega)).mpr c_67).2, (Yin_c (by omega)).mpr c_84⟩).trans (by rw [Int32.mul_comm]; rfl)).symm
          · refine tt_iload d_Y_beside_70 rfl ?_
            refine tt_i2l d_Y_beside_72 ?_
            refine tt_lconst (v := 0) d_Y_beside_73 (by decide) ?_
            refine tt_aload_n d_Y_beside_74 rfl ?_
            refine tn_get d_Y_beside_75 rfl rfl (by decide) rfl hc ?_
            refine tt_iconst (v := nI 1) d_Y_beside_78 (by decide) ?_
            refine tt_isub d_Y_beside_79 ?_
            refine tt_i2l d_Y_beside_80 ?_
            refine tt_callS (y_in (d := d)) cw_Y_in rfl (by omega) d_Y_beside_81 rfl rfl (Nat.le_of_ble_eq_true rfl) (Nat.le_of_ble_eq_true rfl) rfl rfl rfl (fun v σ2 q => ?_)
            obtain ⟨rfl, e9⟩ := q
            rw [e9, Yin_X (by omega)]
            clear e9
            refine tt_if_eq (t := 99) d_Y_beside_84 (by decide) (fun c_84 => ?_) (fun c_84 => ?_)
            · refine tt_iconst (v := (-1)) d_Y_beside_99 (by decide) ?_
              refine tt_iret rfl d_Y_beside_100 ?_
              refine ⟨congrArg (fun w => some (Value.int w)) ?_, rfl⟩
              rcases (show w = 0 ∨ w = 1 ∨ w = 2 ∨ w = 3 by omega) with rfl | rfl | rfl | rfl
              all_goals first | (exfalso; omega) | skip
              all_goals unfold X_bes X_fa
              all_goals first
                | exact (if_neg (fun q => absurd c_67 ((Yin_c (by omega)).mp ⟨q.1, q.2.1⟩))).symm
                | exact (if_neg (fun q => absurd c_84 ((Yin_c (by omega)).mp ⟨q.2.2.1, q.2.2.2⟩))).symm
                | exact ((if_pos ⟨((Yin_c (by omega)).mpr c_67).1, ((Yin_c (by omega)).mpr c_67).2, (Yin_c (by omega)).mpr c_84⟩).trans (by rw [Int32.mul_comm]; rfl)).symm
            · refine tt_aload_n d_Y_beside_87 rfl ?_
              refine tn_get d_Y_beside_88 rfl rfl (by decide) rfl hc ?_
              refine tt_iload_n d_Y_beside_91 rfl ?_
              refine tt_imul d_Y_beside_92 ?_
              refine tt_iload d_Y_beside_93 rfl ?_
              refine tt_iadd d_Y_beside_95 ?_
              refine tt_goto (t := 100) d_Y_beside_96 (by decide) ?_
              refine tt_iret rfl d_Y_beside_100 ?_
              refine ⟨congrArg (fun w => some (Value.int w)) ?_, rfl⟩
              rcases (show w = 0 ∨ w = 1 ∨ w = 2 ∨ w = 3 by omega) with rfl | rfl | rfl | rfl
              all_goals first | (exfalso; omega) | skip
              all_goals unfold X_bes X_fa
              all_goals first
                | exact (if_neg (fun q => absurd c_67 ((Yin_c (by omega)).mp ⟨q.1, q.2.1⟩))).symm
                | exact (if_neg (fun q => absurd c_84 ((Yin_c (by omega)).mp ⟨q.2.2.1, q.2.2.2⟩))).symm
                | exact ((if_pos ⟨((Yin_c (by omega)).mpr c_67).1, ((Yin_c (by omega)).mpr c_67).2, (Yin_c (by omega)).mpr c_84⟩).trans (by rw [Int32.mul_comm]; rfl)).symm
        · refine tt_iconst (v := (-1)) d_Y_beside_46 (by decide) ?_
          refine tt_goto (t := 51) d_Y_beside_47 (by decide) ?_
          refine tt_iadd d_Y_beside_51 ?_
          refine tt_istore d_Y_beside_52 (by decide) rfl ?_
          refine tt_iload_n d_Y_beside_54 rfl ?_
          refine tt_i2l d_Y_beside_55 ?_
          refine tt_lconst (v := 0) d_Y_beside_56 (by decide) ?_
          refine tt_aload_n d_Y_beside_57 rfl ?_
          refine tn_get d_Y_beside_58 rfl rfl (by decide) rfl hr ?_
          refine tt_iconst (v := nI 1) d_Y_beside_61 (by decide) ?_
          refine tt_isub d_Y_beside_62 ?_
          refine tt_i2l d_Y_beside_63 ?_
          refine tt_callS (y_in (d := d)) cw_Y_in rfl (by omega) d_Y_beside_64 rfl rfl (Nat.le_of_ble_eq_true rfl) (Nat.le_of_ble_eq_true rfl) rfl rfl rfl (fun v σ2 q => ?_)
          obtain ⟨rfl, e9⟩ := q
          rw [e9, Yin_X (by omega)]
          clear e9
          refine tt_if_eq (t := 99) d_Y_beside_67 (by decide) (fun c_67 => ?_) (fun c_67 => ?_)
          · refine tt_iconst (v := (-1)) d_Y_beside_99 (by decide) ?_
            refine tt_iret rfl d_Y_beside_100 ?_
            refine ⟨congrArg (fun w => some (Value.int w)) ?_, rfl⟩
            rcases (show w = 0 ∨ w = 1 ∨ w = 2 ∨ w = 3 by omega) with rfl | rfl | rfl | rfl
            all_goals first | (exfalso; omega) | skip
            all_goals unfold X_bes X_fa
            all_goals first
              | exact (if_neg (fun q => absurd c_67 ((Yin_c (by omega)).mp ⟨q.1, q.2.1⟩))).symm
              | exact (if_neg (fun q => absurd c_84 ((Yin_c (by omega)).mp ⟨q.2.2.1, q.2.2.2⟩))).symm
              | exact ((if_pos ⟨((Yin_c (by omega)).mpr c_67).1, ((Yin_c (by omega)).mpr c_67).2, (Yin_c (by omega)).mpr c_84⟩).trans (by rw [Int32.mul_comm]; rfl)).symm
          · refine tt_iload d_Y_beside_70 rfl ?_
            refine tt_i2l d_Y_beside_72 ?_
            refine tt_lconst (v := 0) d_Y_beside_73 (by decide) ?_
            refine tt_aload_n d_Y_beside_74 rfl ?_
            refine tn_get d_Y_beside_75 rfl rfl (by decide) rfl hc ?_
            refine tt_iconst (v := nI 1) d_Y_beside_78 (by decide) ?_
            refine tt_isub d_Y_beside_79 ?_
            refine tt_i2l d_Y_beside_80 ?_
            refine tt_callS (y_in (d := d)) cw_Y_in rfl (by omega) d_Y_beside_81 rfl rfl (Nat.le_of_ble_eq_true rfl) (Nat.le_of_ble_eq_true rfl) rfl rfl rfl (fun v σ2 q => ?_)
            obtain ⟨rfl, e9⟩ := q
            rw [e9, Yin_X (by omega)]
            clear e9
            refine tt_if_eq (t := 99) d_Y_beside_84 (by decide) (fun c_84 => ?_) (fun c_84 => ?_)
            · refine tt_iconst (v := (-1)) d_Y_beside_99 (by decide) ?_
              refine tt_iret rfl d_Y_beside_100 ?_
              refine ⟨congrArg (fun w => some (Value.int w)) ?_, rfl⟩
              rcases (show w = 0 ∨ w = 1 ∨ w = 2 ∨ w = 3 by omega) with rfl | rfl | rfl | rfl
              all_goals first | (exfalso; omega) | skip
              all_goals unfold X_bes X_fa
              all_goals first
                | exact (if_neg (fun q => absurd c_67 ((Yin_c (by omega)).mp ⟨q.1, q.2.1⟩))).symm
                | exact (if_neg (fun q => absurd c_84 ((Yin_c (by omega)).mp ⟨q.2.2.1, q.2.2.2⟩))).symm
                | exact ((if_pos ⟨((Yin_c (by omega)).mpr c_67).1, ((Yin_c (by omega)).mpr c_67).2, (Yin_c (by omega)).mpr c_84⟩).trans (by rw [Int32.mul_comm]; rfl)).symm
            · refine tt_aload_n d_Y_beside_87 rfl ?_
              refine tn_get d_Y_beside_88 rfl rfl (by decide) rfl hc ?_
              refine tt_iload_n d_Y_beside_91 rfl ?_
              refine tt_imul d_Y_beside_92 ?_
              refine tt_iload d_Y_beside_93 rfl ?_
              refine tt_iadd d_Y_beside_95 ?_
              refine tt_goto (t := 100) d_Y_beside_96 (by decide) ?_
              refine tt_iret rfl d_Y_beside_100 ?_
              refine ⟨congrArg (fun w => some (Value.int w)) ?_, rfl⟩
              rcases (show w = 0 ∨ w = 1 ∨ w = 2 ∨ w = 3 by omega) with rfl | rfl | rfl | rfl
              all_goals first | (exfalso; omega) | skip
              all_goals unfold X_bes X_fa
              all_goals first
                | exact (if_neg (fun q => absurd c_67 ((Yin_c (by omega)).mp ⟨q.1, q.2.1⟩))).symm
                | exact (if_neg (fun q => absurd c_84 ((Yin_c (by omega)).mp ⟨q.2.2.1, q.2.2.2⟩))).symm
                | exact ((if_pos ⟨((Yin_c (by omega)).mpr c_67).1, ((Yin_c (by omega)).mpr c_67).2, (Yin_c (by omega)).mpr c_84⟩).trans (by rw [Int32.mul_comm]; rfl)).symm
      · refine tt_iconst (v := nI 1) d_Y_beside_37 (by decide) ?_
        refine tt_goto (t := 51) d_Y_beside_38 (by decide) ?_
        refine tt_iadd d_Y_beside_51 ?_
        refine tt_istore d_Y_beside_52 (by decide) rfl ?_
        refine tt_iload_n d_Y_beside_54 rfl ?_
        refine tt_i2l d_Y_beside_55 ?_
        refine tt_lconst (v := 0) d_Y_beside_56 (by decide) ?_
        refine tt_aload_n d_Y_beside_57 rfl ?_
        refine tn_get d_Y_beside_58 rfl rfl (by decide) rfl hr ?_
        refine tt_iconst (v := nI 1) d_Y_beside_61 (by decide) ?_
        refine tt_isub d_Y_beside_62 ?_
        refine tt_i2l d_Y_beside_63 ?_
        refine tt_callS (y_in (d := d)) cw_Y_in rfl (by omega) d_Y_beside_64 rfl rfl (Nat.le_of_ble_eq_true rfl) (Nat.le_of_ble_eq_true rfl) rfl rfl rfl (fun v σ2 q => ?_)
        obtain ⟨rfl, e9⟩ := q
        rw [e9, Yin_X (by omega)]
        clear e9
        refine tt_if_eq (t := 99) d_Y_beside_67 (by decide) (fun c_67 => ?_) (fun c_67 => ?_)
        · refine tt_iconst (v := (-1)) d_Y_beside_99 (by decide) ?_
          refine tt_iret rfl d_Y_beside_100 ?_
          refine ⟨congrArg (fun w => some (Value.int w)) ?_, rfl⟩
          rcases (show w = 0 ∨ w = 1 ∨ w = 2 ∨ w = 3 by omega) with rfl | rfl | rfl | rfl
          all_goals first | (exfalso; omega) | skip
          all_goals unfold X_bes X_fa
          all_goals first
            | exact (if_neg (fun q => absurd c_67 ((Yin_c (by omega)).mp ⟨q.1, q.2.1⟩))).symm
            | exact (if_neg (fun q => absurd c_84 ((Yin_c (by omega)).mp ⟨q.2.2.1, q.2.2.2⟩))).symm
            | exact ((if_pos ⟨((Yin_c (by omega)).mpr c_67).1, ((Yin_c (by omega)).mpr c_67).2, (Yin_c (by omega)).mpr c_84⟩).trans (by rw [Int32.mul_comm]; rfl)).symm
        · refine tt_iload d_Y_beside_70 rfl ?_
          refine tt_i2l d_Y_beside_72 ?_
          refine tt_lconst (v := 0) d_Y_beside_73 (by decide) ?_
          refine tt_aload_n d_Y_beside_74 rfl ?_
          refine tn_get d_Y_beside_75 rfl rfl (by decide) rfl hc ?_
          refine tt_iconst (v := nI 1) d_Y_beside_78 (by decide) ?_
          refine tt_isub d_Y_beside_79 ?_
          refine tt_i2l d_Y_beside_80 ?_
          refine tt_callS (y_in (d := d)) cw_Y_in rfl (by omega) d_Y_beside_81 rfl rfl (Nat.le_of_ble_eq_true rfl) (Nat.le_of_ble_eq_true rfl) rfl rfl rfl (fun v σ2 q => ?_)
          obtain ⟨rfl, e9⟩ := q
          rw [e9, Yin_X (by omega)]
          clear e9
          refine tt_if_eq (t := 99) d_Y_beside_84 (by decide) (fun c_84 => ?_) (fun c_84 => ?_)
          · refine tt_iconst (v := (-1)) d_Y_beside_99 (by decide) ?_
            refine tt_iret rfl d_Y_beside_100 ?_
            refine ⟨congrArg (fun w => some (Value.int w)) ?_, rfl⟩
            rcases (show w = 0 ∨ w = 1 ∨ w = 2 ∨ w = 3 by omega) with rfl | rfl | rfl | rfl
            all_goals first | (exfalso; omega) | skip
            all_goals unfold X_bes X_fa
            all_goals first
              | exact (if_neg (fun q => absurd c_67 ((Yin_c (by omega)).mp ⟨q.1, q.2.1⟩))).symm
              | exact (if_neg (fun q => absurd c_84 ((Yin_c (by omega)).mp ⟨q.2.2.1, q.2.2.2⟩))).symm
              | exact ((if_pos ⟨((Yin_c (by omega)).mpr c_67).1, ((Yin_c (by omega)).mpr c_67).2, (Yin_c (by omega)).mpr c_84⟩).trans (by rw [Int32.mul_comm]; rfl)).symm
          · refine tt_aload_n d_Y_beside_87 rfl ?_
            refine tn_get d_Y_beside_88 rfl rfl (by decide) rfl hc ?_
            refine tt_iload_n d_Y_beside_91 rfl ?_
            refine tt_imul d_Y_beside_92 ?_
            refine tt_iload d_Y_beside_93 rfl ?_
            refine tt_iadd d_Y_beside_95 ?_
            refine tt_goto (t := 100) d_Y_beside_96 (by decide) ?_
            refine tt_iret rfl d_Y_beside_100 ?_
            refine ⟨congrArg (fun w => some (Value.int w)) ?_, rfl⟩
            rcases (show w = 0 ∨ w = 1 ∨ w = 2 ∨ w = 3 by omega) with rfl | rfl | rfl | rfl
            all_goals first | (exfalso; omega) | skip
            all_goals unfold X_bes X_fa
            all_goals first
              | exact (if_neg (fun q => absurd c_67 ((Yin_c (by omega)).mp ⟨q.1, q.2.1⟩))).symm
              | exact (if_neg (fun q => absurd c_84 ((Yin_c (by omega)).mp ⟨q.2.2.1, q.2.2.2⟩))).symm
              | exact ((if_pos ⟨((Yin_c (by omega)).mpr c_67).1, ((Yin_c (by omega)).mpr c_67).2, (Yin_c (by omega)).mpr c_84⟩).trans (by rw [Int32.mul_comm]; rfl)).symm
  · refine tt_iconst (v := nI 1) d_Y_beside_11 (by decide) ?_
    refine tt_goto (t := 24) d_Y_beside_12 (by decide) ?_
    refine tt_iadd d_Y_beside_24 ?_
    refine tt_istore_n d_Y_beside_25 (by decide) rfl ?_
    refine tt_iload_n d_Y_beside_26 rfl ?_
    refine tt_aload_n d_Y_beside_27 rfl ?_
    refine tn_get d_Y_beside_28 rfl rfl (by decide) rfl hc ?_
    refine tn_irem (by omega) (by omega) (by omega) d_Y_beside_31 ?_
    refine tt_iload_n d_Y_beside_32 rfl ?_
    refine tt_iconst (v := nI 1) d_Y_beside_33 (by decide) ?_
    refine tn_ic_ne (t := 41) (by omega) (by omega) d_Y_beside_34 (by decide) (fun c_34 => ?_) (fun c_34 => ?_)
    · refine tt_iload_n d_Y_beside_41 rfl ?_
      refine tt_iconst (v := nI 3) d_Y_beside_42 (by decide) ?_
      refine tn_ic_ne (t := 50) (by omega) (by omega) d_Y_beside_43 (by decide) (fun c_43 => ?_) (fun c_43 => ?_)
      · refine tt_iconst (v := nI 0) d_Y_beside_50 (by decide) ?_
        refine tt_iadd d_Y_beside_51 ?_
        refine tt_istore d_Y_beside_52 (by decide) rfl ?_
        refine tt_iload_n d_Y_beside_54 rfl ?_
        refine tt_i2l d_Y_beside_55 ?_
        refine tt_lconst (v := 0) d_Y_beside_56 (by decide) ?_
        refine tt_aload_n d_Y_beside_57 rfl ?_
        refine tn_get d_Y_beside_58 rfl rfl (by decide) rfl hr ?_
        refine tt_iconst (v := nI 1) d_Y_beside_61 (by decide) ?_
        refine tt_isub d_Y_beside_62 ?_
        refine tt_i2l d_Y_beside_63 ?_
        refine tt_callS (y_in (d := d)) cw_Y_in rfl (by omega) d_Y_beside_64 rfl rfl (Nat.le_of_ble_eq_true rfl) (Nat.le_of_ble_eq_true rfl) rfl rfl rfl (fun v σ2 q => ?_)
        obtain ⟨rfl, e9⟩ := q
        rw [e9, Yin_X (by omega)]
        clear e9
        refine tt_if_eq (t := 99) d_Y_beside_67 (by decide) (fun c_67 => ?_) (fun c_67 => ?_)
        · refine tt_iconst (v := (-1)) d_Y_beside_99 (by decide) ?_
          refine tt_iret rfl d_Y_beside_100 ?_
          refine ⟨congrArg (fun w => some (Value.int w)) ?_, rfl⟩
          rcases (show w = 0 ∨ w = 1 ∨ w = 2 ∨ w = 3 by omega) with rfl | rfl | rfl | rfl
          all_goals first | (exfalso; omega) | skip
          all_goals unfold X_bes X_fa
          all_goals first
            | exact (if_neg (fun q => absurd c_67 ((Yin_c (by omega)).mp ⟨q.1, q.2.1⟩))).symm
            | exact (if_neg (fun q => absurd c_84 ((Yin_c (by omega)).mp ⟨q.2.2.1, q.2.2.2⟩))).symm
            | exact ((if_pos ⟨((Yin_c (by omega)).mpr c_67).1, ((Yin_c (by omega)).mpr c_67).2, (Yin_c (by omega)).mpr c_84⟩).trans (by rw [Int32.mul_comm]; rfl)).symm
        · refine tt_iload d_Y_beside_70 rfl ?_
          refine tt_i2l d_Y_beside_72 ?_
          refine tt_lconst (v := 0) d_Y_beside_73 (by decide) ?_
          refine tt_aload_n d_Y_beside_74 rfl ?_
          refine tn_get d_Y_beside_75 rfl rfl (by decide) rfl hc ?_
          refine tt_iconst (v := nI 1) d_Y_beside_78 (by decide) ?_
          refine tt_isub d_Y_beside_79 ?_
          refine tt_i2l d_Y_beside_80 ?_
          refine tt_callS (y_in (d := d)) cw_Y_in rfl (by omega) d_Y_beside_81 rfl rfl (Nat.le_of_ble_eq_true rfl) (Nat.le_of_ble_eq_true rfl) rfl rfl rfl (fun v σ2 q => ?_)
          obtain ⟨rfl, e9⟩ := q
          rw [e9, Yin_X (by omega)]
          clear e9
          refine tt_if_eq (t := 99) d_Y_beside_84 (by decide) (fun c_84 => ?_) (fun c_84 => ?_)
          · refine tt_iconst (v := (-1)) d_Y_beside_99 (by decide) ?_
            refine tt_iret rfl d_Y_beside_100 ?_
            refine ⟨congrArg (fun w => some (Value.int w)) ?_, rfl⟩
            rcases (show w = 0 ∨ w = 1 ∨ w = 2 ∨ w = 3 by omega) with rfl | rfl | rfl | rfl
            all_goals first | (exfalso; omega) | skip
            all_goals unfold X_bes X_fa
            all_goals first
              | exact (if_neg (fun q => absurd c_67 ((Yin_c (by omega)).mp ⟨q.1, q.2.1⟩))).symm
              | exact (if_neg (fun q => absurd c_84 ((Yin_c (by omega)).mp ⟨q.2.2.1, q.2.2.2⟩))).symm
              | exact ((if_pos ⟨((Yin_c (by omega)).mpr c_67).1, ((Yin_c (by omega)).mpr c_67).2, (Yin_c (by omega)).mpr c_84⟩).trans (by rw [Int32.mul_comm]; rfl)).symm
          · refine tt_aload_n d_Y_beside_87 rfl ?_
            refine tn_get d_Y_beside_88 rfl rfl (by decide) rfl hc ?_
            refine tt_iload_n d_Y_beside_91 rfl ?_
            refine tt_imul d_Y_beside_92 ?_
            refine tt_iload d_Y_beside_93 rfl ?_
            refine tt_iadd d_Y_beside_95 ?_
            refine tt_goto (t := 100) d_Y_beside_96 (by decide) ?_
            refine tt_iret rfl d_Y_beside_100 ?_
            refine ⟨congrArg (fun w => some (Value.int w)) ?_, rfl⟩
            rcases (show w = 0 ∨ w = 1 ∨ w = 2 ∨ w = 3 by omega) with rfl | rfl | rfl | rfl
            all_goals first | (exfalso; omega) | skip
            all_goals unfold X_bes X_fa
            all_goals first
              | exact (if_neg (fun q => absurd c_67 ((Yin_c (by omega)).mp ⟨q.1, q.2.1⟩))).symm
              | exact (if_neg (fun q => absurd c_84 ((Yin_c (by omega)).mp ⟨q.2.2.1, q.2.2.2⟩))).symm
              | exact ((if_pos ⟨((Yin_c (by omega)).mpr c_67).1, ((Yin_c (by omega)).mpr c_67).2, (Yin_c (by omega)).mpr c_84⟩).trans (by rw [Int32.mul_comm]; rfl)).symm
      · refine tt_iconst (v := (-1)) d_Y_beside_46 (by decide) ?_
        refine tt_goto (t := 51) d_Y_beside_47 (by decide) ?_
        refine tt_iadd d_Y_beside_51 ?_
        refine tt_istore d_Y_beside_52 (by decide) rfl ?_
        refine tt_iload_n d_Y_beside_54 rfl ?_
        refine tt_i2l d_Y_beside_55 ?_
        refine tt_lconst (v := 0) d_Y_beside_56 (by decide) ?_
        refine tt_aload_n d_Y_beside_57 rfl ?_
        refine tn_get d_Y_beside_58 rfl rfl (by decide) rfl hr ?_
        refine tt_iconst (v := nI 1) d_Y_beside_61 (by decide) ?_
        refine tt_isub d_Y_beside_62 ?_
        refine tt_i2l d_Y_beside_63 ?_
        refine tt_callS (y_in (d := d)) cw_Y_in rfl (by omega) d_Y_beside_64 rfl rfl (Nat.le_of_ble_eq_true rfl) (Nat.le_of_ble_eq_true rfl) rfl rfl rfl (fun v σ2 q => ?_)
        obtain ⟨rfl, e9⟩ := q
        rw [e9, Yin_X (by omega)]
        clear e9
        refine tt_if_eq (t := 99) d_Y_beside_67 (by decide) (fun c_67 => ?_) (fun c_67 => ?_)
        · refine tt_iconst (v := (-1)) d_Y_beside_99 (by decide) ?_
          refine tt_iret rfl d_Y_beside_100 ?_
          refine ⟨congrArg (fun w => some (Value.int w)) ?_, rfl⟩
          rcases (show w = 0 ∨ w = 1 ∨ w = 2 ∨ w = 3 by omega) with rfl | rfl | rfl | rfl
          all_goals first | (exfalso; omega) | skip
          all_goals unfold X_bes X_fa
          all_goals first
            | exact (if_neg (fun q => absurd c_67 ((Yin_c (by omega)).mp ⟨q.1, q.2.1⟩))).symm
            | exact (if_neg (fun q => absurd c_84 ((Yin_c (by omega)).mp ⟨q.2.2.1, q.2.2.2⟩))).symm
            | exact ((if_pos ⟨((Yin_c (by omega)).mpr c_67).1, ((Yin_c (by omega)).mpr c_67).2, (Yin_c (by omega)).mpr c_84⟩).trans (by rw [Int32.mul_comm]; rfl)).symm
        · refine tt_iload d_Y_beside_70 rfl ?_
          refine tt_i2l d_Y_beside_72 ?_
          refine tt_lconst (v := 0) d_Y_beside_73 (by decide) ?_
          refine tt_aload_n d_Y_beside_74 rfl ?_
          refine tn_get d_Y_beside_75 rfl rfl (by decide) rfl hc ?_
          refine tt_iconst (v := nI 1) d_Y_beside_78 (by decide) ?_
          refine tt_isub d_Y_beside_79 ?_
          refine tt_i2l d_Y_beside_80 ?_
          refine tt_callS (y_in (d := d)) cw_Y_in rfl (by omega) d_Y_beside_81 rfl rfl (Nat.le_of_ble_eq_true rfl) (Nat.le_of_ble_eq_true rfl) rfl rfl rfl (fun v σ2 q => ?_)
          obtain ⟨rfl, e9⟩ := q
          rw [e9, Yin_X (by omega)]
          clear e9
          refine tt_if_eq (t := 99) d_Y_beside_84 (by decide) (fun c_84 => ?_) (fun c_84 => ?_)
          · refine tt_iconst (v := (-1)) d_Y_beside_99 (by decide) ?_
            refine tt_iret rfl d_Y_beside_100 ?_
            refine ⟨congrArg (fun w => some (Value.int w)) ?_, rfl⟩
            rcases (show w = 0 ∨ w = 1 ∨ w = 2 ∨ w = 3 by omega) with rfl | rfl | rfl | rfl
            all_goals first | (exfalso; omega) | skip
            all_goals unfold X_bes X_fa
            all_goals first
              | exact (if_neg (fun q => absurd c_67 ((Yin_c (by omega)).mp ⟨q.1, q.2.1⟩))).symm
              | exact (if_neg (fun q => absurd c_84 ((Yin_c (by omega)).mp ⟨q.2.2.1, q.2.2.2⟩))).symm
              | exact ((if_pos ⟨((Yin_c (by omega)).mpr c_67).1, ((Yin_c (by omega)).mpr c_67).2, (Yin_c (by omega)).mpr c_84⟩).trans (by rw [Int32.mul_comm]; rfl)).symm
          · refine tt_aload_n d_Y_beside_87 rfl ?_
            refine tn_get d_Y_beside_88 rfl rfl (by decide) rfl hc ?_
            refine tt_iload_n d_Y_beside_91 rfl ?_
            refine tt_imul d_Y_beside_92 ?_
            refine tt_iload d_Y_beside_93 rfl ?_
            refine tt_iadd d_Y_beside_95 ?_
            refine tt_goto (t := 100) d_Y_beside_96 (by decide) ?_
            refine tt_iret rfl d_Y_beside_100 ?_
            refine ⟨congrArg (fun w => some (Value.int w)) ?_, rfl⟩
            rcases (show w = 0 ∨ w = 1 ∨ w = 2 ∨ w = 3 by omega) with rfl | rfl | rfl | rfl
            all_goals first | (exfalso; omega) | skip
            all_goals unfold X_bes X_fa
            all_goals first
              | exact (if_neg (fun q => absurd c_67 ((Yin_c (by omega)).mp ⟨q.1, q.2.1⟩))).symm
              | exact (if_neg (fun q => absurd c_84 ((Yin_c (by omega)).mp ⟨q.2.2.1, q.2.2.2⟩))).symm
              | exact ((if_pos ⟨((Yin_c (by omega)).mpr c_67).1, ((Yin_c (by omega)).mpr c_67).2, (Yin_c (by omega)).mpr c_84⟩).trans (by rw [Int32.mul_comm]; rfl)).symm
    · refine tt_iconst (v := nI 1) d_Y_beside_37 (by decide) ?_
      refine tt_goto (t := 51) d_Y_beside_38 (by decide) ?_
      refine tt_iadd d_Y_beside_51 ?_
      refine tt_istore d_Y_beside_52 (by decide) rfl ?_
      refine tt_iload_n d_Y_beside_54 rfl ?_
      refine tt_i2l d_Y_beside_55 ?_
      refine tt_lconst (v := 0) d_Y_beside_56 (by decide) ?_
      refine tt_aload_n d_Y_beside_57 rfl ?_
      refine tn_get d_Y_beside_58 rfl rfl (by decide) rfl hr ?_
      refine tt_iconst (v := nI 1) d_Y_beside_61 (by decide) ?_
      refine tt_isub d_Y_beside_62 ?_
      refine tt_i2l d_Y_beside_63 ?_
      refine tt_callS (y_in (d := d)) cw_Y_in rfl (by omega) d_Y_beside_64 rfl rfl (Nat.le_of_ble_eq_true rfl) (Nat.le_of_ble_eq_true rfl) rfl rfl rfl (fun v σ2 q => ?_)
      obtain ⟨rfl, e9⟩ := q
      rw [e9, Yin_X (by omega)]
      clear e9
      refine tt_if_eq (t := 99) d_Y_beside_67 (by decide) (fun c_67 => ?_) (fun c_67 => ?_)
      · refine tt_iconst (v := (-1)) d_Y_beside_99 (by decide) ?_
        refine tt_iret rfl d_Y_beside_100 ?_
        refine ⟨congrArg (fun w => some (Value.int w)) ?_, rfl⟩
        rcases (show w = 0 ∨ w = 1 ∨ w = 2 ∨ w = 3 by omega) with rfl | rfl | rfl | rfl
        all_goals first | (exfalso; omega) | skip
        all_goals unfold X_bes X_fa
        all_goals first
          | exact (if_neg (fun q => absurd c_67 ((Yin_c (by omega)).mp ⟨q.1, q.2.1⟩))).symm
          | exact (if_neg (fun q => absurd c_84 ((Yin_c (by omega)).mp ⟨q.2.2.1, q.2.2.2⟩))).symm
          | exact ((if_pos ⟨((Yin_c (by omega)).mpr c_67).1, ((Yin_c (by omega)).mpr c_67).2, (Yin_c (by omega)).mpr c_84⟩).trans (by rw [Int32.mul_comm]; rfl)).symm
      · refine tt_iload d_Y_beside_70 rfl ?_
        refine tt_i2l d_Y_beside_72 ?_
        refine tt_lconst (v := 0) d_Y_beside_73 (by decide) ?_
        refine tt_aload_n d_Y_beside_74 rfl ?_
        refine tn_get d_Y_beside_75 rfl rfl (by decide) rfl hc ?_
        refine tt_iconst (v := nI 1) d_Y_beside_78 (by decide) ?_
        refine tt_isub d_Y_beside_79 ?_
        refine tt_i2l d_Y_beside_80 ?_
        refine tt_callS (y_in (d := d)) cw_Y_in rfl (by omega) d_Y_beside_81 rfl rfl (Nat.le_of_ble_eq_true rfl) (Nat.le_of_ble_eq_true rfl) rfl rfl rfl (fun v σ2 q => ?_)
        obtain ⟨rfl, e9⟩ := q
        rw [e9, Yin_X (by omega)]
        clear e9
        refine tt_if_eq (t := 99) d_Y_beside_84 (by decide) (fun c_84 => ?_) (fun c_84 => ?_)
        · refine tt_iconst (v := (-1)) d_Y_beside_99 (by decide) ?_
          refine tt_iret rfl d_Y_beside_100 ?_
          refine ⟨congrArg (fun w => some (Value.int w)) ?_, rfl⟩
          rcases (show w = 0 ∨ w = 1 ∨ w = 2 ∨ w = 3 by omega) with rfl | rfl | rfl | rfl
          all_goals first | (exfalso; omega) | skip
          all_goals unfold X_bes X_fa
          all_goals first
            | exact (if_neg (fun q => absurd c_67 ((Yin_c (by omega)).mp ⟨q.1, q.2.1⟩))).symm
            | exact (if_neg (fun q => absurd c_84 ((Yin_c (by omega)).mp ⟨q.2.2.1, q.2.2.2⟩))).symm
            | exact ((if_pos ⟨((Yin_c (by omega)).mpr c_67).1, ((Yin_c (by omega)).mpr c_67).2, (Yin_c (by omega)).mpr c_84⟩).trans (by rw [Int32.mul_comm]; rfl)).symm
        · refine tt_aload_n d_Y_beside_87 rfl ?_
          refine tn_get d_Y_beside_88 rfl rfl (by decide) rfl hc ?_
          refine tt_iload_n d_Y_beside_91 rfl ?_
          refine tt_imul d_Y_beside_92 ?_
          refine tt_iload d_Y_beside_93 rfl ?_
          refine tt_iadd d_Y_beside_95 ?_
          refine tt_goto (t := 100) d_Y_beside_96 (by decide) ?_
          refine tt_iret rfl d_Y_beside_100 ?_
          refine ⟨congrArg (fun w => some (Value.int w)) ?_, rfl⟩
          rcases (show w = 0 ∨ w = 1 ∨ w = 2 ∨ w = 3 by omega) with rfl | rfl | rfl | rfl
          all_goals first | (exfalso; omega) | skip
          all_goals unfold X_bes X_fa
          all_goals first
            | exact (if_neg (fun q => absurd c_67 ((Yin_c (by omega)).mp ⟨q.1, q.2.1⟩))).symm
            | exact (if_neg (fun q => absurd c_84 ((Yin_c (by omega)).mp ⟨q.2.2.1, q.2.2.2⟩))).symm
            | exact ((if_pos ⟨((Yin_c (by omega)).mpr c_67).1, ((Yin_c (by omega)).mpr c_67).2, (Yin_c (by omega)).mpr c_84⟩).trans (by rw [Int32.mul_comm]; rfl)).symm

