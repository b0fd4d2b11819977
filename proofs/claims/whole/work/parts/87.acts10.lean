/-! row, where it does not throw; the reference where it does. Printed by wip/whole. -/
set_option maxHeartbeats 4000000 in
theorem xc_row {l : xLa} {d m : Nat} {σ : xs} {w : wv} (ho : okQ w) (hw : XW σ w) (hx : (wD w).1 ≤ 37) (hm : m < (wD w).1) : TC l M_X_row (d + 30) [.ref 0, .int (nI m)] σ (fun r τ => r = some (.long ((wD w).2 m)) ∧ XW τ w ∧ XF σ τ) := by
  show T l M_X_row (d + 30) 0 _ [] σ _
  refine T_lv (lv2 := [_, _]) rfl ?_
  have h := XQ.rf hw.v
  have hd0 := hw.2.2.2.1
  have hb0 := ho.fb
  have hb8 := ho.n8
  refine tt_iload_n d_X_row_0 rfl ?_
  refine tn_if_lt (t := 27) (by omega) d_X_row_1 (by decide) ?_
  refine tt_iload_n d_X_row_4 rfl ?_
  refine tt_aload_n d_X_row_5 rfl ?_
  refine tt_getR d_X_row_6 rfl rfl (by decide) rfl rfl ?_
  refine tn_get d_X_row_9 rfl rfl (by decide) rfl hd0.1 ?_
  refine tn_ic_ge (t := 27) (by omega) (by omega) d_X_row_12 (by decide) (fun c_12 => ?_) (fun c_12 => ?_)
  · omega
  · refine tt_iload_n d_X_row_15 rfl ?_
    refine tt_aload_n d_X_row_16 rfl ?_
    refine tt_getR d_X_row_17 rfl rfl (by decide) rfl rfl ?_
    refine tt_getR d_X_row_20 rfl rfl (by decide) rfl rfl ?_
    refine tt_len d_X_row_23 rfl (by decide) (by decide) rfl ?_
    refine tn_ic_lt (t := 35) (by omega) (by omega) d_X_row_24 (by decide) (fun c_24 => ?_) (fun c_24 => ?_)
    · refine tt_aload_n d_X_row_35 rfl ?_
      refine tt_getR d_X_row_36 rfl rfl (by decide) rfl rfl ?_
      refine tt_getR d_X_row_39 rfl rfl (by decide) rfl rfl ?_
      refine tt_iload_n d_X_row_42 rfl ?_
      refine tn_lald d_X_row_43 rfl (by decide) (by omega) (hd0.2 m hm) ?_
      refine tt_lret rfl d_X_row_44 ?_
      exact ⟨rfl, h.ww hd0, h.2.1⟩
    · omega

set_option maxHeartbeats 4000000 in
theorem yc_row {l : xLa} {d c m : Nat} {σ : xs} {w : wv} (ho : okQ w) (hw : YW σ c w) (hx : (wD w).1 ≤ 37) (hm : m < (wD w).1) : TC l M_Y_row (d + 150) [.ref 154, .int (nI m)] σ (fun r τ => r = some (.long ((wD w).2 m)) ∧ YW τ c w ∧ YF σ τ ∧ sf τ 154 0 = nI 0) := by
  show T l M_Y_row (d + 150) 0 _ [] σ _
  refine T_lv (lv2 := [_, _]) rfl ?_
  have h := YQ.rf hw.v
  have hd0 := hw.2.2.2.1
  have hb0 := ho.fb
  have hb8 := ho.n8
  refine tt_aload_n d_Y_row_0 rfl ?_
  refine tt_iconst (v := nI 0) d_Y_row_1 (by decide) ?_
  refine tt_putI d_Y_row_2 rfl rfl (by decide) rfl (xpok_int rfl) rfl ?_
  replace h := h.thr (x := nI 0)
  replace hd0 := hd0.thr (x := nI 0)
  refine tt_iload_n d_Y_row_5 rfl ?_
  refine tt_i2l d_Y_row_6 ?_
  refine tt_lconst (v := 0) d_Y_row_7 (by decide) ?_
  refine tt_aload_n d_Y_row_8 rfl ?_
  refine tn_get d_Y_row_9 rfl rfl (by decide) rfl hd0.1 ?_
  refine tt_iconst (v := nI 1) d_Y_row_12 (by decide) ?_
  refine tt_isub d_Y_row_13 ?_
  refine tt_top (show nI (wD w).1 - nI 1 = nI ((wD w).1 - 1) from by rw [show (wD w).1 = (wD w).1 - 1 + 1 by omega]; exact nI_sub1 _) ?_
  refine tt_i2l d_Y_row_14 ?_
  refine tt_callS (y_in (d := d)) cw_Y_in rfl (by omega) d_Y_row_15 rfl rfl (Nat.le_of_ble_eq_true rfl) (Nat.le_of_ble_eq_true rfl) rfl rfl rfl (fun v σ2 q => ?_)
  obtain ⟨rfl, e9⟩ := q
  rw [e9, show Yin (nI m).toInt64 0 (nI ((wD w).1 - 1)).toInt64 = nI 1 from Yin_t (a := 0) (b := (wD w).1 - 1) rfl (nI_l (by omega)) (by omega) (by omega) (by omega)]
  clear e9
  refine tn_if_ne (t := 28) (by omega) d_Y_row_18 (by decide) (fun c_18 => ?_) (fun c_18 => ?_)
  · refine tt_aload_n d_Y_row_28 rfl ?_
    refine tt_getR d_Y_row_29 rfl rfl (by decide) rfl rfl ?_
    refine tt_iload_n d_Y_row_32 rfl ?_
    refine tn_lald d_Y_row_33 rfl (by decide) (by omega) (hd0.2 m hm) ?_
    refine tt_lret rfl d_Y_row_34 ?_
    exact ⟨rfl, h.ww hd0, h.2, rfl⟩
  · exact absurd c_18 (by decide)

set_option maxHeartbeats 4000000 in
theorem yc_row0 {l : xLa} {d c : Nat} {σ : xs} {w : wv} (ho : okQ w) (hw : YW σ c w) (hx : (wD w).1 ≤ 37) {i : Int32} (hb : i.toInt < 0 ∨ ((wD w).1 : Int) ≤ i.toInt) : TC l M_Y_row (d + 150) [.ref 154, .int i] σ (fun r τ => r = some (.long 0) ∧ YW τ c w ∧ YF σ τ ∧ sf τ 154 0 = nI 1) := by
  show T l M_Y_row (d + 150) 0 _ [] σ _
  refine T_lv (lv2 := [_, _]) rfl ?_
  have h := YQ.rf hw.v
  have hd0 := hw.2.2.2.1
  have hb0 := ho.fb
  have hb8 := ho.n8
  have e0 : Yin i.toInt64 0 (nI (wD w).1 - nI 1).toInt64 = nI 0 := by
    rcases Nat.eq_zero_or_pos (wD w).1 with hz | hz
    · rw [hz, Yin_toInt]
      refine if_neg (fun q => ?_)
      have e1 : (nI 0 - nI 1).toInt64.toInt = -1 := by decide
      have e2 : (0 : Int64).toInt = 0 := by decide
      rw [e1, e2] at q
      omega
    · rw [show nI (wD w).1 - nI 1 = nI ((wD w).1 - 1) from by rw [show (wD w).1 = (wD w).1 - 1 + 1 by omega]; exact nI_sub1 _]
      exact Yin_f (a := 0) (b := (wD w).1 - 1) rfl (nI_l (by omega)) (by decide) (by omega) (by omega)
  refine tt_aload_n d_Y_row_0 rfl ?_
  refine tt_iconst (v := nI 0) d_Y_row_1 (by decide) ?_
  refine tt_putI d_Y_row_2 rfl rfl (by decide) rfl (xpok_int rfl) rfl ?_
  replace h := h.thr (x := nI 0)
  replace hd0 := hd0.thr (x := nI 0)
  refine tt_iload_n d_Y_row_5 rfl ?_
  refine tt_i2l d_Y_row_6 ?_
  refine tt_lconst (v := 0) d_Y_row_7 (by decide) ?_
  refine tt_aload_n d_Y_row_8 rfl ?_
  refine tn_get d_Y_row_9 rfl rfl (by decide) rfl hd0.1 ?_
  refine tt_iconst (v := nI 1) d_Y_row_12 (by decide) ?_
  refine tt_isub d_Y_row_13 ?_
  refine tt_i2l d_Y_row_14 ?_
  refine tt_callS (y_in (d := d)) cw_Y_in rfl (by omega) d_Y_row_15 rfl rfl (Nat.le_of_ble_eq_true rfl) (Nat.le_of_ble_eq_true rfl) rfl rfl rfl (fun v σ2 q => ?_)
  obtain ⟨rfl, e9⟩ := q
  rw [e9, e0]
  clear e9
  refine tn_if_ne (t := 28) (by omega) d_Y_row_18 (by decide) (fun c_18 => ?_) (fun c_18 => ?_)
  · exact absurd rfl c_18
  · refine tt_aload_n d_Y_row_21 rfl ?_
    refine tt_iconst (v := nI 1) d_Y_row_22 (by decide) ?_
    refine tt_putI d_Y_row_23 rfl rfl (by decide) rfl (xpok_int rfl) rfl ?_
    replace h := h.thr (x := nI 1)
    replace hd0 := hd0.thr (x := nI 1)
    refine tt_lconst (v := 0) d_Y_row_26 (by decide) ?_
    refine tt_lret rfl d_Y_row_27 ?_
    exact ⟨rfl, h.ww hd0, h.2, rfl⟩

