/-! FishFerryModel: ways and pulls. Printed by wip/whole. -/
def rlV (e : xe) (v : sv) (i : Nat) : Nat := if 0 < rtV e v i then 1 else 3
abbrev tmV (e : xe) (v : sv) (i : Nat) : Prop := ¬ v 3 i = 0 ∧ ¬ v 3 i - 1 = v 0 0 ∧ X_abs (dnV e v i) = X_abs (rtV e v i)
def wbV (e : xe) (v : sv) (i : Nat) : Nat := if X_abs (rtV e v i) ≤ X_abs (dnV e v i) then hUp (dnV e v i) else rlV e v i
/-- the way of fish i, as the reference names it; 4: both -/
def wyV (e : xe) (v : sv) (i : Nat) : Nat := if eK e i = 3 ∧ tmV e v i then 4 else if eK e i = 1 then (wbV e v i + 2) % 4 else wbV e v i
theorem gI_lt {g : Nat} (h : g < 2 ^ 30) : gI g < 0 ↔ g = 0 := by
  cases g with
  | zero => exact ⟨fun _ => rfl, fun _ => by decide⟩
  | succ k =>
    refine ⟨fun q => ?_, fun q => by omega⟩
    rw [fa_lt', show gI (k + 1) = nI k from rfl, nI_toInt (by omega)] at q
    have : (0 : Int32).toInt = 0 := rfl
    omega
theorem SY.g {σ : xs} {b n : Nat} {v : sv} {i : Nat} (h : SY σ b n v) (hi : i < n) (hg : ¬ v 3 i = 0) (h3 : v 3 i < 2 ^ 31) : si σ b (17 + i) = nI (v 3 i - 1) := (h.2 i hi).2.2.1.trans ((gI_c h3).2 hg)
theorem y_rows {l : xLa} {d : Nat} {σ : xs} {b i : Nat} {e : xe} {v : sv} (hb : isY b) (hi : i < eN e) (he : okE e) (hv : okV e v) (hE : EYb σ e) (hS : SY σ b (eN e) v) (hg : ¬ v 3 i = 0) : TE l M_Y_rowsBetween (d + 1) [.ref 154, .ref b, .int (nI i)] σ (some (.int (dnV e v i))) (σ) := by
  show T l M_Y_rowsBetween (d + 1) 0 _ [] σ _
  have he0 := he
  obtain ⟨⟨e1, e2, e3, e4, e5, e6, e7⟩, e8, e9x, e10⟩ := he
  have hRC : eR e * eC e ≤ 36 := Nat.mul_le_mul e2 e4
  obtain ⟨w1, w2, w3, w4⟩ := hv.2.2.2.2.2.2 i hi
  have hv0 := hv.1
  refine tt_aload_n d_Y_rowsBetween_0 rfl ?_
  refine tt_bipush (v := nI 17) d_Y_rowsBetween_1 (by decide) ?_
  refine tt_iload_n d_Y_rowsBetween_3 rfl ?_
  refine tn_iadd d_Y_rowsBetween_4 ?_
  refine tn_iald d_Y_rowsBetween_5 (xY_sh hb) (by decide) (by omega) (hS.g hi hg (by omega)) ?_
  refine tt_aload_n d_Y_rowsBetween_6 rfl ?_
  refine tn_get d_Y_rowsBetween_7 rfl rfl (by decide) rfl hE.1.2.1 ?_
  refine tn_idiv (by omega) (by omega) (by omega) d_Y_rowsBetween_10 ?_
  refine tt_aload_n d_Y_rowsBetween_11 rfl ?_
  refine tt_iconst (v := nI 0) d_Y_rowsBetween_12 (by decide) ?_
  refine tn_iald d_Y_rowsBetween_13 (xY_sh hb) (by decide) (by omega) hS.1.1 ?_
  refine tt_aload_n d_Y_rowsBetween_14 rfl ?_
  refine tn_get d_Y_rowsBetween_15 rfl rfl (by decide) rfl hE.1.2.1 ?_
  refine tn_idiv (by omega) (by omega) (by omega) d_Y_rowsBetween_18 ?_
  refine tt_isub d_Y_rowsBetween_19 ?_
  refine tt_iret rfl d_Y_rowsBetween_20 ?_
  exact ⟨rfl, rfl⟩

theorem y_cols {l : xLa} {d : Nat} {σ : xs} {b i : Nat} {e : xe} {v : sv} (hb : isY b) (hi : i < eN e) (he : okE e) (hv : okV e v) (hE : EYb σ e) (hS : SY σ b (eN e) v) (hg : ¬ v 3 i = 0) : TE l M_Y_columnsBetween (d + 1) [.ref 154, .ref b, .int (nI i)] σ (some (.int (rtV e v i))) (σ) := by
  show T l M_Y_columnsBetween (d + 1) 0 _ [] σ _
  have he0 := he
  obtain ⟨⟨e1, e2, e3, e4, e5, e6, e7⟩, e8, e9x, e10⟩ := he
  have hRC : eR e * eC e ≤ 36 := Nat.mul_le_mul e2 e4
  obtain ⟨w1, w2, w3, w4⟩ := hv.2.2.2.2.2.2 i hi
  have hv0 := hv.1
  refine tt_aload_n d_Y_columnsBetween_0 rfl ?_
  refine tt_bipush (v := nI 17) d_Y_columnsBetween_1 (by decide) ?_
  refine tt_iload_n d_Y_columnsBetween_3 rfl ?_
  refine tn_iadd d_Y_columnsBetween_4 ?_
  refine tn_iald d_Y_columnsBetween_5 (xY_sh hb) (by decide) (by omega) (hS.g hi hg (by omega)) ?_
  refine tt_aload_n d_Y_columnsBetween_6 rfl ?_
  refine tn_get d_Y_columnsBetween_7 rfl rfl (by decide) rfl hE.1.2.1 ?_
  refine tn_irem (by omega) (by omega) (by omega) d_Y_columnsBetween_10 ?_
  refine tt_aload_n d_Y_columnsBetween_11 rfl ?_
  refine tt_iconst (v := nI 0) d_Y_columnsBetween_12 (by decide) ?_
  refine tn_iald d_Y_columnsBetween_13 (xY_sh hb) (by decide) (by omega) hS.1.1 ?_
  refine tt_aload_n d_Y_columnsBetween_14 rfl ?_
  refine tn_get d_Y_columnsBetween_15 rfl rfl (by decide) rfl hE.1.2.1 ?_
  refine tn_irem (by omega) (by omega) (by omega) d_Y_columnsBetween_18 ?_
  refine tt_isub d_Y_columnsBetween_19 ?_
  refine tt_iret rfl d_Y_columnsBetween_20 ?_
  exact ⟨rfl, rfl⟩

theorem y_upDown {l : xLa} {d : Nat} {σ : xs} {b i : Nat} {e : xe} {v : sv} (hb : isY b) (hi : i < eN e) (he : okE e) (hv : okV e v) (hE : EYb σ e) (hS : SY σ b (eN e) v) (hg : ¬ v 3 i = 0) : TE l M_Y_upOrDown (d + 2) [.ref 154, .ref b, .int (nI i)] σ (some (.int (nI (hUp (dnV e v i))))) (σ) := by
  show T l M_Y_upOrDown (d + 2) 0 _ [] σ _
  have he0 := he
  obtain ⟨⟨e1, e2, e3, e4, e5, e6, e7⟩, e8, e9x, e10⟩ := he
  have hRC : eR e * eC e ≤ 36 := Nat.mul_le_mul e2 e4
  obtain ⟨w1, w2, w3, w4⟩ := hv.2.2.2.2.2.2 i hi
  have hv0 := hv.1
  refine tt_aload_n d_Y_upOrDown_0 rfl ?_
  refine tt_aload_n d_Y_upOrDown_1 rfl ?_
  refine tt_iload_n d_Y_upOrDown_2 rfl ?_
  refine tt_callV (y_rows (d := d) hb hi he0 hv hE hS hg) cw_Y_rowsBetween rfl rfl (by decide) rfl (by omega) d_Y_upOrDown_3 rfl rfl (Nat.le_of_ble_eq_true rfl) (Nat.le_of_ble_eq_true rfl) rfl rfl rfl (fun v σ2 q => ?_)
  obtain ⟨rfl, e9⟩ := q
  rw [e9]
  clear e9
  refine tt_if_ge (t := 13) d_Y_upOrDown_6 (by decide) (fun c_6 => ?_) (fun c_6 => ?_)
  · refine tt_iconst (v := nI 2) d_Y_upOrDown_13 (by decide) ?_
    refine tt_iret rfl d_Y_upOrDown_14 ?_
    refine ⟨congrArg (fun w => some (Value.int w)) ?_, rfl⟩
    unfold hUp
    first
      | (rw [if_pos c_6])
      | (rw [if_neg c_6])
  · refine tt_iconst (v := nI 0) d_Y_upOrDown_9 (by decide) ?_
    refine tt_goto (t := 14) d_Y_upOrDown_10 (by decide) ?_
    refine tt_iret rfl d_Y_upOrDown_14 ?_
    refine ⟨congrArg (fun w => some (Value.int w)) ?_, rfl⟩
    unfold hUp
    first
      | (rw [if_pos c_6])
      | (rw [if_neg c_6])

theorem y_rightLeft {l : xLa} {d : Nat} {σ : xs} {b i : Nat} {e : xe} {v : sv} (hb : isY b) (hi : i < eN e) (he : okE e) (hv : okV e v) (hE : EYb σ e) (hS : SY σ b (eN e) v) (hg : ¬ v 3 i = 0) : TE l M_Y_rightOrLeft (d + 2) [.ref 154, .ref b, .int (nI i)] σ (some (.int (nI (rlV e v i)))) (σ) := by
  show T l M_Y_rightOrLeft (d + 2) 0 _ [] σ _
  have he0 := he
  obtain ⟨⟨e1, e2, e3, e4, e5, e6, e7⟩, e8, e9x, e10⟩ := he
  have hRC : eR e * eC e ≤ 36 := Nat.mul_le_mul e2 e4
  obtain ⟨w1, w2, w3, w4⟩ := hv.2.2.2.2.2.2 i hi
  have hv0 := hv.1
  refine tt_aload_n d_Y_rightOrLeft_0 rfl ?_
  refine tt_aload_n d_Y_rightOrLeft_1 rfl ?_
  refine tt_iload_n d_Y_rightOrLeft_2 rfl ?_
  refine tt_callV (y_cols (d := d) hb hi he0 hv hE hS hg) cw_Y_columnsBetween rfl rfl (by decide) rfl (by omega) d_Y_rightOrLeft_3 rfl rfl (Nat.le_of_ble_eq_true rfl) (Nat.le_of_ble_eq_true rfl) rfl rfl rfl (fun v σ2 q => ?_)
  obtain ⟨rfl, e9⟩ := q
  rw [e9]
  clear e9
  refine tt_if_le (t := 13) d_Y_rightOrLeft_6 (by decide) (fun c_6 => ?_) (fun c_6 => ?_)
  · refine tt_iconst (v := nI 3) d_Y_rightOrLeft_13 (by decide) ?_
    refine tt_iret rfl d_Y_rightOrLeft_14 ?_
    refine ⟨congrArg (fun w => some (Value.int w)) ?_, rfl⟩
    unfold rlV
    first
      | (rw [if_neg (fa_ngt c_6)])
      | (rw [if_pos (fa_nle c_6)])
  · refine tt_iconst (v := nI 1) d_Y_rightOrLeft_9 (by decide) ?_
    refine tt_goto (t := 14) d_Y_rightOrLeft_10 (by decide) ?_
    refine tt_iret rfl d_Y_rightOrLeft_14 ?_
    refine ⟨congrArg (fun w => some (Value.int w)) ?_, rfl⟩
    unfold rlV
    first
      | (rw [if_neg (fa_ngt c_6)])
      | (rw [if_pos (fa_nle c_6)])

theorem y_minds2 {l : xLa} {d : Nat} {σ : xs} {b i : Nat} {e : xe} {v : sv} (hb : isY b) (hi : i < eN e) (he : okE e) (hv : okV e v) (hE : EYb σ e) (hS : SY σ b (eN e) v) : TE l M_Y_isOfTwoMinds (d + 2) [.ref 154, .ref b, .int (nI i)] σ (some (.int (if tmV e v i then nI 1 else nI 0))) (σ) := by
  show T l M_Y_isOfTwoMinds (d + 2) 0 _ [] σ _
  have he0 := he
  obtain ⟨⟨e1, e2, e3, e4, e5, e6, e7⟩, e8, e9x, e10⟩ := he
  have hRC : eR e * eC e ≤ 36 := Nat.mul_le_mul e2 e4
  obtain ⟨w1, w2, w3, w4⟩ := hv.2.2.2.2.2.2 i hi
  have hv0 := hv.1
  refine tt_aload_n d_Y_isOfTwoMinds_0 rfl ?_
  refine tt_bipush (v := nI 17) d_Y_isOfTwoMinds_1 (by decide) ?_
  refine tt_iload_n d_Y_isOfTwoMinds_3 rfl ?_
  refine tn_iadd d_Y_isOfTwoMinds_4 ?_
  refine tn_iald d_Y_isOfTwoMinds_5 (xY_sh hb) (by decide) (by omega) (hS.2 i hi).2.2.1 ?_
  refine tt_if_lt (t := 46) d_Y_isOfTwoMinds_6 (by decide) (fun c_6 => ?_) (fun c_6 => ?_)
  · have hg0 : v 3 i = 0 := (gI_lt (by omega)).mp c_6
    refine tt_iconst (v := nI 0) d_Y_isOfTwoMinds_46 (by decide) ?_
    refine tt_zret rfl rfl d_Y_isOfTwoMinds_47 ?_
    refine ⟨congrArg (fun w => some (Value.int w)) ?_, rfl⟩
    first
      | exact (if_neg (nn1 (nnN hg0))).symm
      | exact (if_neg (nn2 (nn1 (nnN c_18)))).symm
      | exact (if_neg (nn2 (nn2 c_39))).symm
      | exact (if_pos ⟨hg, c_18, Classical.not_not.mp c_39⟩).symm
  · have hg : ¬ v 3 i = 0 := fun q => c_6 ((gI_lt (by omega)).mpr q)
    refine tt_aload_n d_Y_isOfTwoMinds_9 rfl ?_
    refine tt_bipush (v := nI 17) d_Y_isOfTwoMinds_10 (by decide) ?_
    refine tt_iload_n d_Y_isOfTwoMinds_12 rfl ?_
    refine tn_iadd d_Y_isOfTwoMinds_13 ?_
    refine tn_iald d_Y_isOfTwoMinds_14 (xY_sh hb) (by decide) (by omega) (hS.g hi hg (by omega)) ?_
    refine tt_aload_n d_Y_isOfTwoMinds_15 rfl ?_
    refine tt_iconst (v := nI 0) d_Y_isOfTwoMinds_16 (by decide) ?_
    refine tn_iald d_Y_isOfTwoMinds_17 (xY_sh hb) (by decide) (by omega) hS.1.1 ?_
    refine tn_ic_eq (t := 46) (by omega) (by omega) d_Y_isOfTwoMinds_18 (by decide) (fun c_18 => ?_) (fun c_18 => ?_)
    · refine tt_iconst (v := nI 0) d_Y_isOfTwoMinds_46 (by decide) ?_
      refine tt_zret rfl rfl d_Y_isOfTwoMinds_47 ?_
      refine ⟨congrArg (fun w => some (Value.int w)) ?_, rfl⟩
      first
        | exact (if_neg (nn1 (nnN hg0))).symm
        | exact (if_neg (nn2 (nn1 (nnN c_18)))).symm
        | exact (if_neg (nn2 (nn2 c_39))).symm
        | exact (if_pos ⟨hg, c_18, Classical.not_not.mp c_39⟩).symm
    · refine tt_aload_n d_Y_isOfTwoMinds_21 rfl ?_
      refine tt_aload_n d_Y_isOfTwoMinds_22 rfl ?_
      refine tt_iload_n d_Y_isOfTwoMinds_23 rfl ?_
      refine tt_callV (y_rows (d := d) hb hi he0 hv hE hS hg) cw_Y_rowsBetween rfl rfl (by decide) rfl (by omega) d_Y_isOfTwoMinds_24 rfl rfl (Nat.le_of_ble_eq_true rfl) (Nat.le_of_ble_eq_true rfl) rfl rfl rfl (fun v σ2 q => ?_)
      obtain ⟨rfl, e9⟩ := q
      rw [e9]
      clear e9
      refine tt_abs d_Y_isOfTwoMinds_27 rfl (Nat.le_of_ble_eq_true rfl) ?_
      refine tt_aload_n d_Y_isOfTwoMinds_30 rfl ?_
      refine tt_aload_n d_Y_isOfTwoMinds_31 rfl ?_
      refine tt_iload_n d_Y_isOfTwoMinds_32 rfl ?_
      refine tt_callV (y_cols (d := d) hb hi he0 hv hE hS hg) cw_Y_columnsBetween rfl rfl (by decide) rfl (by omega) d_Y_isOfTwoMinds_33 rfl rfl (Nat.le_of_ble_eq_true rfl) (Nat.le_of_ble_eq_true rfl) rfl rfl rfl (fun v σ2 q => ?_)
      obtain ⟨rfl, e9⟩ := q
      rw [e9]
      clear e9
      refine tt_abs d_Y_isOfTwoMinds_36 rfl (Nat.le_of_ble_eq_true rfl) ?_
      refine tt_ic_ne (t := 46) d_Y_isOfTwoMinds_39 (by decide) (fun c_39 => ?_) (fun c_39 => ?_)
      · refine tt_iconst (v := nI 0) d_Y_isOfTwoMinds_46 (by decide) ?_
        refine tt_zret rfl rfl d_Y_isOfTwoMinds_47 ?_
        refine ⟨congrArg (fun w => some (Value.int w)) ?_, rfl⟩
        first
          | exact (if_neg (nn1 (nnN hg0))).symm
          | exact (if_neg (nn2 (nn1 (nnN c_18)))).symm
          | exact (if_neg (nn2 (nn2 c_39))).symm
          | exact (if_pos ⟨hg, c_18, Classical.not_not.mp c_39⟩).symm
      · refine tt_iconst (v := nI 1) d_Y_isOfTwoMinds_42 (by decide) ?_
        refine tt_goto (t := 47) d_Y_isOfTwoMinds_43 (by decide) ?_
        refine tt_zret rfl rfl d_Y_isOfTwoMinds_47 ?_
        refine ⟨congrArg (fun w => some (Value.int w)) ?_, rfl⟩
        first
          | exact (if_neg (nn1 (nnN hg0))).symm
          | exact (if_neg (nn2 (nn1 (nnN c_18)))).symm
          | exact (if_neg (nn2 (nn2 c_39))).symm
          | exact (if_pos ⟨hg, c_18, Classical.not_not.mp c_39⟩).symm

theorem wy_le {x y : Nat} {p : Prop} [Decidable p] : (if p then hUp (nI x - nI y) else 0) ≤ 2 := by
  have := hUp_le (nI x - nI y)
  split <;> omega
theorem rl_le (e : xe) (v : sv) (i : Nat) : rlV e v i ≤ 3 := by unfold rlV; split <;> omega
theorem fa_ngt2 {a b : Int32} (h : a < b) : ¬ b ≤ a := fun q => fa_nlt2 h q
theorem tm_0 {e : xe} {v : sv} {i : Nat} (h : (if tmV e v i then nI 1 else nI 0) = 0) : ¬ tmV e v i := by
  intro q; rw [if_pos q] at h; exact absurd h (by decide)
theorem tm_1 {e : xe} {v : sv} {i : Nat} (h : ¬ (if tmV e v i then nI 1 else nI 0) = 0) : tmV e v i := by
  by_cases q : tmV e v i
  · exact q
  · rw [if_neg q] at h; exact absurd rfl h
theorem y_way57 {l : xLa} {d : Nat} {σ : xs} {b i : Nat} {e : xe} {v : sv} (hb : isY b) (hi : i < eN e) (he : okE e) (hv : okV e v) (hE : EYb σ e) (hS : SY σ b (eN e) v) (hg : ¬ v 3 i = 0) {w : Nat} (hw : w ≤ 3) : T l M_Y_wayOf (d + 3) 57 [some (.ref 154), some (.ref b), some (.int (nI i)), none] [.int (nI w)] σ (fun r τ => r = some (.int (nI (if eK e i = 1 then (w + 2) % 4 else w))) ∧ τ = σ) := by
  have he0 := he
  obtain ⟨⟨e1, e2, e3, e4, e5, e6, e7⟩, e8, e9x, e10⟩ := he
  have hRC : eR e * eC e ≤ 36 := Nat.mul_le_mul e2 e4
  obtain ⟨w1, w2, w3, w4⟩ := hv.2.2.2.2.2.2 i hi
  have hv0 := hv.1
  have ek := (e8 i (by omega)).1
  refine tt_istore_n d_Y_wayOf_57 (by decide) rfl ?_
  refine tt_aload_n d_Y_wayOf_58 rfl ?_
  refine tt_getR d_Y_wayOf_59 rfl rfl (by decide) rfl rfl ?_
  refine tt_iload_n d_Y_wayOf_62 rfl ?_
  refine tn_iald d_Y_wayOf_63 rfl (by decide) (by omega) (hE.2.1 i hi).1 ?_
  refine tt_iconst (v := nI 1) d_Y_wayOf_64 (by decide) ?_
  refine tn_ic_ne (t := 76) (by omega) (by omega) d_Y_wayOf_65 (by decide) (fun c_65 => ?_) (fun c_65 => ?_)
  · refine tt_iload_n d_Y_wayOf_76 rfl ?_
    refine tt_iret rfl d_Y_wayOf_77 ?_
    refine ⟨congrArg (fun w => some (Value.int w)) ?_, rfl⟩
    first | rw [if_pos c_65] | rw [if_neg c_65]
  · refine tt_iload_n d_Y_wayOf_68 rfl ?_
    refine tt_iconst (v := nI 2) d_Y_wayOf_69 (by decide) ?_
    refine tn_iadd d_Y_wayOf_70 ?_
    refine tt_iconst (v := nI 4) d_Y_wayOf_71 (by decide) ?_
    refine tn_irem (by omega) (by omega) (by omega) d_Y_wayOf_72 ?_
    refine tt_goto (t := 77) d_Y_wayOf_73 (by decide) ?_
    refine tt_iret rfl d_Y_wayOf_77 ?_
    refine ⟨congrArg (fun w => some (Value.int w)) ?_, rfl⟩
    first | rw [if_pos c_65] | rw [if_neg c_65]

theorem y_way21 {l : xLa} {d : Nat} {σ : xs} {b i : Nat} {e : xe} {v : sv} (hb : isY b) (hi : i < eN e) (he : okE e) (hv : okV e v) (hE : EYb σ e) (hS : SY σ b (eN e) v) (hg : ¬ v 3 i = 0) : T l M_Y_wayOf (d + 3) 21 [some (.ref 154), some (.ref b), some (.int (nI i)), none] [] σ (fun r τ => r = some (.int (nI (if eK e i = 1 then (wbV e v i + 2) % 4 else wbV e v i))) ∧ τ = σ) := by
  have he0 := he
  obtain ⟨⟨e1, e2, e3, e4, e5, e6, e7⟩, e8, e9x, e10⟩ := he
  have hRC : eR e * eC e ≤ 36 := Nat.mul_le_mul e2 e4
  obtain ⟨w1, w2, w3, w4⟩ := hv.2.2.2.2.2.2 i hi
  have hv0 := hv.1
  refine tt_aload_n d_Y_wayOf_21 rfl ?_
  refine tt_aload_n d_Y_wayOf_22 rfl ?_
  refine tt_iload_n d_Y_wayOf_23 rfl ?_
  refine tt_callV (y_rows (d := d) hb hi he0 hv hE hS hg) cw_Y_rowsBetween rfl rfl (by decide) rfl (by omega) d_Y_wayOf_24 rfl rfl (Nat.le_of_ble_eq_true rfl) (Nat.le_of_ble_eq_true rfl) rfl rfl rfl (fun v σ2 q => ?_)
  obtain ⟨rfl, e9⟩ := q
  rw [e9]
  clear e9
  refine tt_abs d_Y_wayOf_27 rfl (Nat.le_of_ble_eq_true rfl) ?_
  refine tt_aload_n d_Y_wayOf_30 rfl ?_
  refine tt_aload_n d_Y_wayOf_31 rfl ?_
  refine tt_iload_n d_Y_wayOf_32 rfl ?_
  refine tt_callV (y_cols (d := d) hb hi he0 hv hE hS hg) cw_Y_columnsBetween rfl rfl (by decide) rfl (by omega) d_Y_wayOf_33 rfl rfl (Nat.le_of_ble_eq_true rfl) (Nat.le_of_ble_eq_true rfl) rfl rfl rfl (fun v σ2 q => ?_)
  obtain ⟨rfl, e9⟩ := q
  rw [e9]
  clear e9
  refine tt_abs d_Y_wayOf_36 rfl (Nat.le_of_ble_eq_true rfl) ?_
  refine tt_ic_lt (t := 51) d_Y_wayOf_39 (by decide) (fun c_39 => ?_) (fun c_39 => ?_)
  · have h39 : X_abs (dnV e v i) < X_abs (rtV e v i) := c_39
    rw [show wbV e v i = rlV e v i from if_neg (fa_ngt2 h39)]
    refine tt_aload_n d_Y_wayOf_51 rfl ?_
    refine tt_aload_n d_Y_wayOf_52 rfl ?_
    refine tt_iload_n d_Y_wayOf_53 rfl ?_
    refine tt_callV (y_rightLeft (d := d) hb hi he0 hv hE hS hg) cw_Y_rightOrLeft rfl rfl (by decide) rfl (by omega) d_Y_wayOf_54 rfl rfl (Nat.le_of_ble_eq_true rfl) (Nat.le_of_ble_eq_true rfl) rfl rfl rfl (fun v σ2 q => ?_)
    obtain ⟨rfl, e9⟩ := q
    rw [e9]
    clear e9
    first
      | exact y_way57 hb hi he0 hv hE hS hg (rl_le e v i)
      | exact y_way57 hb hi he0 hv hE hS hg (Nat.le_trans (hUp_le _) (by decide))
  · have h39 : X_abs (rtV e v i) ≤ X_abs (dnV e v i) := fa_nlt c_39
    rw [show wbV e v i = hUp (dnV e v i) from if_pos h39]
    refine tt_aload_n d_Y_wayOf_42 rfl ?_
    refine tt_aload_n d_Y_wayOf_43 rfl ?_
    refine tt_iload_n d_Y_wayOf_44 rfl ?_
    refine tt_callV (y_upDown (d := d) hb hi he0 hv hE hS hg) cw_Y_upOrDown rfl rfl (by decide) rfl (by omega) d_Y_wayOf_45 rfl rfl (Nat.le_of_ble_eq_true rfl) (Nat.le_of_ble_eq_true rfl) rfl rfl rfl (fun v σ2 q => ?_)
    obtain ⟨rfl, e9⟩ := q
    rw [e9]
    clear e9
    refine tt_goto (t := 57) d_Y_wayOf_48 (by decide) ?_
    first
      | exact y_way57 hb hi he0 hv hE hS hg (rl_le e v i)
      | exact y_way57 hb hi he0 hv hE hS hg (Nat.le_trans (hUp_le _) (by decide))

theorem y_wayOf {l : xLa} {d : Nat} {σ : xs} {b i : Nat} {e : xe} {v : sv} (hb : isY b) (hi : i < eN e) (he : okE e) (hv : okV e v) (hE : EYb σ e) (hS : SY σ b (eN e) v) (hg : ¬ v 3 i = 0) : TE l M_Y_wayOf (d + 3) [.ref 154, .ref b, .int (nI i)] σ (some (.int (nI (wyV e v i)))) (σ) := by
  show T l M_Y_wayOf (d + 3) 0 _ [] σ _
  have he0 := he
  obtain ⟨⟨e1, e2, e3, e4, e5, e6, e7⟩, e8, e9x, e10⟩ := he
  have hRC : eR e * eC e ≤ 36 := Nat.mul_le_mul e2 e4
  obtain ⟨w1, w2, w3, w4⟩ := hv.2.2.2.2.2.2 i hi
  have hv0 := hv.1
  have ek := (e8 i (by omega)).1
  refine tt_aload_n d_Y_wayOf_0 rfl ?_
  refine tt_getR d_Y_wayOf_1 rfl rfl (by decide) rfl rfl ?_
  refine tt_iload_n d_Y_wayOf_4 rfl ?_
  refine tn_iald d_Y_wayOf_5 rfl (by decide) (by omega) (hE.2.1 i hi).1 ?_
  refine tt_iconst (v := nI 3) d_Y_wayOf_6 (by decide) ?_
  refine tn_ic_ne (t := 21) (by omega) (by omega) d_Y_wayOf_7 (by decide) (fun c_7 => ?_) (fun c_7 => ?_)
  · rw [show wyV e v i = _ from (by first | exact if_neg (nn1 c_7) | exact if_neg (nn2 (tm_0 c_16)))]
    exact y_way21 hb hi he0 hv hE hS hg
  · refine tt_aload_n d_Y_wayOf_10 rfl ?_
    refine tt_aload_n d_Y_wayOf_11 rfl ?_
    refine tt_iload_n d_Y_wayOf_12 rfl ?_
    refine tt_callV (y_minds2 (d := d) hb hi he0 hv hE hS) cw_Y_isOfTwoMinds rfl rfl (by decide) rfl (by omega) d_Y_wayOf_13 rfl rfl (Nat.le_of_ble_eq_true rfl) (Nat.le_of_ble_eq_true rfl) rfl rfl rfl (fun v σ2 q => ?_)
    obtain ⟨rfl, e9⟩ := q
    rw [e9]
    clear e9
    refine tt_if_eq (t := 21) d_Y_wayOf_16 (by decide) (fun c_16 => ?_) (fun c_16 => ?_)
    · rw [show wyV e v i = _ from (by first | exact if_neg (nn1 c_7) | exact if_neg (nn2 (tm_0 c_16)))]
      exact y_way21 hb hi he0 hv hE hS hg
    · refine tt_iconst (v := nI 4) d_Y_wayOf_19 (by decide) ?_
      refine tt_iret rfl d_Y_wayOf_20 ?_
      refine ⟨congrArg (fun w => some (Value.int w)) ?_, rfl⟩
      unfold wyV
      rw [if_pos ⟨c_7, tm_1 c_16⟩]

