/-! one and field: the reference where it refuses. Printed by wip/whole. -/
theorem y_refuse {l : xLa} {d : Nat} {σ : xs} : TE l M_Y_refuse (d + 1) [.ref 154] σ (some (.int (nI 0))) (wF σ 154 0 (nI 1)) := by
  show T l M_Y_refuse (d + 1) 0 _ [] σ _
  refine tt_aload_n d_Y_refuse_0 rfl ?_
  refine tt_iconst (v := nI 1) d_Y_refuse_1 (by decide) ?_
  refine tt_putI d_Y_refuse_2 rfl rfl (by decide) rfl (xpok_int rfl) rfl ?_
  refine tt_iconst (v := nI 0) d_Y_refuse_5 (by decide) ?_
  refine tt_iret rfl d_Y_refuse_6 ?_
  exact ⟨rfl, rfl⟩

set_option maxHeartbeats 4000000 in
theorem yc_field0 {l : xLa} {d c : Nat} {σ : xs} {w : wv} (ho : okQ w) (hw : YW σ c w) {a b : Int32} (hn : inN a (eR (wE w) * eC (wE w)) = none ∨ rgN b 0 2 = none) : TC l M_Y_field (d + 150) [.ref 154, .int a, .int b] σ (fun r τ => r = some (.int (nI 0)) ∧ YW τ c w ∧ YF σ τ ∧ sf τ 154 0 = nI 1) := by
  show T l M_Y_field (d + 150) 0 _ [] σ _
  refine T_lv (lv2 := [_, _, _, _, _]) rfl ?_
  have h := YQ.rf hw.v
  have hd0 := hw.2.2.2.1
  have hb0 := ho.fb
  have hb8 := ho.n8
  rcases inN_c a (eR (wE w) * eC (wE w)) with ⟨m, hm, rfl, hq⟩ | ⟨hq, hb⟩
  · rcases rgN_c b 0 2 with ⟨k, hk1, hk2, hk3, rfl, hq2⟩ | ⟨hq2, hb2⟩
    · rcases hn with y | y
      · rw [hq] at y; cases y
      · rw [hq2] at y; cases y
    · skip
      refine tt_aload_n d_Y_field_0 rfl ?_
      refine tt_iconst (v := nI 0) d_Y_field_1 (by decide) ?_
      refine tt_putI d_Y_field_2 rfl rfl (by decide) rfl (xpok_int rfl) rfl ?_
      replace h := h.thr (x := nI 0)
      replace hd0 := hd0.thr (x := nI 0)
      refine tt_aload_n d_Y_field_5 rfl ?_
      refine tt_iload_n d_Y_field_6 rfl ?_
      refine tt_callV (y_isField (d := d) h.e.1.1 h.e.1.2.1 ho.1.1.2.1 ho.1.1.2.2.2.1 ho.cp) cw_Y_isField rfl rfl (by decide) rfl (by omega) d_Y_field_7 rfl rfl (Nat.le_of_ble_eq_true rfl) (Nat.le_of_ble_eq_true rfl) rfl rfl rfl (fun v σ2 q => ?_)
      obtain ⟨rfl, e9⟩ := q
      rw [e9, X_in_N hm (by omega)]
      clear e9
      refine tn_if_eq (t := 25) (by omega) d_Y_field_10 (by decide) (fun c_10 => ?_) (fun c_10 => ?_)
      · exact absurd c_10 (by decide)
      · refine tt_iload_n d_Y_field_13 rfl ?_
        refine tt_i2l d_Y_field_14 ?_
        refine tt_lconst (v := 0) d_Y_field_15 (by decide) ?_
        refine tt_ldc2_w d_Y_field_16 rfl ?_
        refine tt_callS (y_in (d := d)) cw_Y_in rfl (by omega) d_Y_field_19 rfl rfl (Nat.le_of_ble_eq_true rfl) (Nat.le_of_ble_eq_true rfl) rfl rfl rfl (fun v σ2 q => ?_)
        obtain ⟨rfl, e9⟩ := q
        rw [e9, show Yin b.toInt64 0 2 = nI 0 from Yin_f (a := 0) (b := 2) rfl rfl (by decide) (by decide) hb2]
        clear e9
        refine tn_if_ne (t := 30) (by omega) d_Y_field_22 (by decide) (fun c_22 => ?_) (fun c_22 => ?_)
        · exact absurd rfl c_22
        · refine tt_aload_n d_Y_field_25 rfl ?_
          refine tt_callV (y_refuse (d := d)) cw_Y_refuse rfl rfl (by decide) rfl (by omega) d_Y_field_26 rfl rfl (Nat.le_of_ble_eq_true rfl) (Nat.le_of_ble_eq_true rfl) rfl rfl rfl (fun v σ2 q => ?_)
          obtain ⟨rfl, rfl⟩ := q
          replace h := h.thr (x := nI 1)
          replace hd0 := hd0.thr (x := nI 1)
          refine tt_iret rfl d_Y_field_29 ?_
          exact ⟨rfl, h.ww hd0, h.2, rfl⟩
  · skip
    refine tt_aload_n d_Y_field_0 rfl ?_
    refine tt_iconst (v := nI 0) d_Y_field_1 (by decide) ?_
    refine tt_putI d_Y_field_2 rfl rfl (by decide) rfl (xpok_int rfl) rfl ?_
    replace h := h.thr (x := nI 0)
    replace hd0 := hd0.thr (x := nI 0)
    refine tt_aload_n d_Y_field_5 rfl ?_
    refine tt_iload_n d_Y_field_6 rfl ?_
    refine tt_callV (y_isField (d := d) h.e.1.1 h.e.1.2.1 ho.1.1.2.1 ho.1.1.2.2.2.1 ho.cp) cw_Y_isField rfl rfl (by decide) rfl (by omega) d_Y_field_7 rfl rfl (Nat.le_of_ble_eq_true rfl) (Nat.le_of_ble_eq_true rfl) rfl rfl rfl (fun v σ2 q => ?_)
    obtain ⟨rfl, e9⟩ := q
    rw [e9, X_in_none hb]
    clear e9
    refine tn_if_eq (t := 25) (by omega) d_Y_field_10 (by decide) (fun c_10 => ?_) (fun c_10 => ?_)
    · refine tt_aload_n d_Y_field_25 rfl ?_
      refine tt_callV (y_refuse (d := d)) cw_Y_refuse rfl rfl (by decide) rfl (by omega) d_Y_field_26 rfl rfl (Nat.le_of_ble_eq_true rfl) (Nat.le_of_ble_eq_true rfl) rfl rfl rfl (fun v σ2 q => ?_)
      obtain ⟨rfl, rfl⟩ := q
      replace h := h.thr (x := nI 1)
      replace hd0 := hd0.thr (x := nI 1)
      refine tt_iret rfl d_Y_field_29 ?_
      exact ⟨rfl, h.ww hd0, h.2, rfl⟩
    · exact absurd rfl c_10

set_option maxHeartbeats 4000000 in
theorem yc_one0 {l : xLa} {d c : Nat} {σ : xs} {w : wv} (ho : okQ w) (hw : YW σ c w) {a b : Int32} (hn : inN a (eN (wE w)) = none ∨ rgN b 0 8 = none) : TC l M_Y_one (d + 150) [.ref 154, .int a, .int b] σ (fun r τ => r = some (.int (nI 0)) ∧ YW τ c w ∧ YF σ τ ∧ sf τ 154 0 = nI 1) := by
  show T l M_Y_one (d + 150) 0 _ [] σ _
  refine T_lv (lv2 := [_, _, _]) rfl ?_
  have h := YQ.rf hw.v
  have hd0 := hw.2.2.2.1
  have hb0 := ho.fb
  have hb8 := ho.n8
  rcases inN_c a (eN (wE w)) with ⟨m, hm, rfl, hq⟩ | ⟨hq, hb⟩
  · rcases rgN_c b 0 8 with ⟨k, hk1, hk2, hk3, rfl, hq2⟩ | ⟨hq2, hb2⟩
    · rcases hn with y | y
      · rw [hq] at y; cases y
      · rw [hq2] at y; cases y
    · skip
      refine tt_aload_n d_Y_one_0 rfl ?_
      refine tt_iconst (v := nI 0) d_Y_one_1 (by decide) ?_
      refine tt_putI d_Y_one_2 rfl rfl (by decide) rfl (xpok_int rfl) rfl ?_
      replace h := h.thr (x := nI 0)
      replace hd0 := hd0.thr (x := nI 0)
      refine tt_aload_n d_Y_one_5 rfl ?_
      refine tt_iload_n d_Y_one_6 rfl ?_
      refine tt_callV (y_isFish (d := d) h.e.1.2.2.1 ho.n8) cw_Y_isFish rfl rfl (by decide) rfl (by omega) d_Y_one_7 rfl rfl (Nat.le_of_ble_eq_true rfl) (Nat.le_of_ble_eq_true rfl) rfl rfl rfl (fun v σ2 q => ?_)
      obtain ⟨rfl, e9⟩ := q
      rw [e9, X_in_N hm (by omega)]
      clear e9
      refine tn_if_eq (t := 25) (by omega) d_Y_one_10 (by decide) (fun c_10 => ?_) (fun c_10 => ?_)
      · exact absurd c_10 (by decide)
      · refine tt_iload_n d_Y_one_13 rfl ?_
        refine tt_i2l d_Y_one_14 ?_
        refine tt_lconst (v := 0) d_Y_one_15 (by decide) ?_
        refine tt_ldc2_w d_Y_one_16 rfl ?_
        refine tt_callS (y_in (d := d)) cw_Y_in rfl (by omega) d_Y_one_19 rfl rfl (Nat.le_of_ble_eq_true rfl) (Nat.le_of_ble_eq_true rfl) rfl rfl rfl (fun v σ2 q => ?_)
        obtain ⟨rfl, e9⟩ := q
        rw [e9, show Yin b.toInt64 0 8 = nI 0 from Yin_f (a := 0) (b := 8) rfl rfl (by decide) (by decide) hb2]
        clear e9
        refine tn_if_ne (t := 30) (by omega) d_Y_one_22 (by decide) (fun c_22 => ?_) (fun c_22 => ?_)
        · exact absurd rfl c_22
        · refine tt_aload_n d_Y_one_25 rfl ?_
          refine tt_callV (y_refuse (d := d)) cw_Y_refuse rfl rfl (by decide) rfl (by omega) d_Y_one_26 rfl rfl (Nat.le_of_ble_eq_true rfl) (Nat.le_of_ble_eq_true rfl) rfl rfl rfl (fun v σ2 q => ?_)
          obtain ⟨rfl, rfl⟩ := q
          replace h := h.thr (x := nI 1)
          replace hd0 := hd0.thr (x := nI 1)
          refine tt_iret rfl d_Y_one_29 ?_
          exact ⟨rfl, h.ww hd0, h.2, rfl⟩
  · skip
    refine tt_aload_n d_Y_one_0 rfl ?_
    refine tt_iconst (v := nI 0) d_Y_one_1 (by decide) ?_
    refine tt_putI d_Y_one_2 rfl rfl (by decide) rfl (xpok_int rfl) rfl ?_
    replace h := h.thr (x := nI 0)
    replace hd0 := hd0.thr (x := nI 0)
    refine tt_aload_n d_Y_one_5 rfl ?_
    refine tt_iload_n d_Y_one_6 rfl ?_
    refine tt_callV (y_isFish (d := d) h.e.1.2.2.1 ho.n8) cw_Y_isFish rfl rfl (by decide) rfl (by omega) d_Y_one_7 rfl rfl (Nat.le_of_ble_eq_true rfl) (Nat.le_of_ble_eq_true rfl) rfl rfl rfl (fun v σ2 q => ?_)
    obtain ⟨rfl, e9⟩ := q
    rw [e9, X_in_none hb]
    clear e9
    refine tn_if_eq (t := 25) (by omega) d_Y_one_10 (by decide) (fun c_10 => ?_) (fun c_10 => ?_)
    · refine tt_aload_n d_Y_one_25 rfl ?_
      refine tt_callV (y_refuse (d := d)) cw_Y_refuse rfl rfl (by decide) rfl (by omega) d_Y_one_26 rfl rfl (Nat.le_of_ble_eq_true rfl) (Nat.le_of_ble_eq_true rfl) rfl rfl rfl (fun v σ2 q => ?_)
      obtain ⟨rfl, rfl⟩ := q
      replace h := h.thr (x := nI 1)
      replace hd0 := hd0.thr (x := nI 1)
      refine tt_iret rfl d_Y_one_29 ?_
      exact ⟨rfl, h.ww hd0, h.2, rfl⟩
    · exact absurd rfl c_10

