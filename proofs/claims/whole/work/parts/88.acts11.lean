/-! field, where it does not throw. Printed by wip/whole. -/
theorem bs_y {P : Nat → Bool} {i : Nat} (h : P i = true) : bsN P i ||| 2 ^ i = bsN P (i + 1) := by
  show _ = bsN P i ||| (if P i = true then 2 ^ i else 0)
  rw [if_pos h]
theorem bs_n {P : Nat → Bool} {i : Nat} (h : ¬ P i = true) : bsN P i = bsN P (i + 1) := by
  show _ = bsN P i ||| (if P i = true then 2 ^ i else 0)
  rw [if_neg h, Nat.or_zero]
def fdN (w : wv) (g : Nat) : Nat := bsN (fun i => decide (wV w 3 i = g + 1)) (eN (wE w))
set_option maxHeartbeats 4000000 in
theorem x_field_l {l : xLa} {d : Nat} {σ : xs} {w : wv} {g : Nat} {k : Int32} (ho : okQ w) (hg : g < 36) (h : XQ w σ σ) : ∀ (m : Nat) (i b : Nat) (τ : xs), eN (wE w) - i = m → i ≤ eN (wE w) → τ = σ → b = bsN (fun i => decide (wV w 3 i = g + 1)) i → T l M_X_field (d + 30) 76 [some (.ref 0), some (.int (nI g)), some (.int k), some (.int (nI b)), some (.int (nI i))] [] τ (fun r υ => r = some (.int (nI (fdN w g))) ∧ υ = σ) := by
  have hb0 := ho.fb
  have hb8 := ho.n8
  intro m
  induction m using Nat.strongRecOn with
  | ind m ih =>
    intro i b τ hm hi he hb2
    subst he
    have hgb := gI_b (g := wV w 3 i) (b := g)
    refine tt_iload d_X_field_76 rfl ?_
    refine tt_aload_n d_X_field_78 rfl ?_
    refine tt_getR d_X_field_79 rfl rfl (by decide) rfl rfl ?_
    refine tn_get d_X_field_82 rfl rfl (by decide) rfl h.n ?_
    refine tn_ic_ge (t := 115) (by omega) (by omega) d_X_field_85 (by decide) (fun c_85 => ?_) (fun c_85 => ?_)
    · obtain rfl : i = eN (wE w) := by omega
      subst hb2
      refine tt_iload_n d_X_field_115 rfl ?_
      refine tt_iret rfl d_X_field_116 ?_
      exact ⟨rfl, rfl⟩
    · have h3 := (ho.2.1.2.2.2.2.2.2 i (by omega)).2.2.1
      replace hgb := hgb (by omega) (by omega)
      have hbl := bsN_256 (fun i => decide (wV w 3 i = g + 1)) (n := i) (by omega)
      refine tt_aload_n d_X_field_88 rfl ?_
      refine tt_getR d_X_field_89 rfl rfl (by decide) rfl rfl ?_
      refine tt_getR d_X_field_92 rfl rfl (by decide) rfl rfl ?_
      refine tt_iload d_X_field_95 rfl ?_
      refine tn_iald d_X_field_97 rfl (by decide) (by omega) (h.t3 (by omega)) ?_
      refine tt_iload_n d_X_field_98 rfl ?_
      refine tt_ic_ne (t := 109) d_X_field_99 (by decide) (fun c_99 => ?_) (fun c_99 => ?_)
      · refine tt_iinc (lv2 := [_, _, _, _, _]) d_X_field_109 rfl (nI_inc _ 1) (by decide) rfl ?_
        refine tt_goto (t := 76) d_X_field_112 (by decide) ?_
        exact ih (eN (wE w) - (i + 1)) (by omega) (i + 1) _ _ rfl (by omega) rfl (by rw [hb2]; exact bs_n (by rw [decide_eq_true_iff]; exact fun z => c_99 (hgb.mpr z)))
      · refine tt_iload_n d_X_field_102 rfl ?_
        refine tt_iconst (v := nI 1) d_X_field_103 (by decide) ?_
        refine tt_iload d_X_field_104 rfl ?_
        refine tt_ishl d_X_field_106 ?_
        refine tt_top (shl_9 _ (by omega)) ?_
        refine tt_ior d_X_field_107 ?_
        refine tt_top (or_N _ _) ?_
        refine tt_istore_n (lv2 := [_, _, _, _, _]) d_X_field_108 (by decide) rfl ?_
        refine tt_iinc (lv2 := [_, _, _, _, _]) d_X_field_109 rfl (nI_inc _ 1) (by decide) rfl ?_
        refine tt_goto (t := 76) d_X_field_112 (by decide) ?_
        exact ih (eN (wE w) - (i + 1)) (by omega) (i + 1) _ _ rfl (by omega) rfl (by rw [hb2]; exact bs_y (by rw [decide_eq_true_iff]; exact hgb.mp (Decidable.not_not.mp c_99)))

set_option maxHeartbeats 4000000 in
theorem y_field_l {l : xLa} {d : Nat} {σ : xs} {c : Nat} {w : wv} {g k : Nat} {σ0 : xs} {Q : Option Value → xs → Prop} (ho : okQ w) (hg : g < 36) (h : YQ c w σ0 σ) (hQ : T l M_Y_field (d + 150) 75 [some (.ref 154), some (.int (nI g)), some (.int (nI k)), some (.int (nI (fdN w g))), some (.int (nI (eN (wE w))))] [] σ Q) : ∀ (m : Nat) (i b : Nat) (τ : xs), eN (wE w) - i = m → i ≤ eN (wE w) → τ = σ → b = bsN (fun i => decide (wV w 3 i = g + 1)) i → T l M_Y_field (d + 150) 35 [some (.ref 154), some (.int (nI g)), some (.int (nI k)), some (.int (nI b)), some (.int (nI i))] [] τ Q := by
  have hb0 := ho.fb
  have hb8 := ho.n8
  intro m
  induction m using Nat.strongRecOn with
  | ind m ih =>
    intro i b τ hm hi he hb2
    subst he
    have hgb := gI_b (g := wV w 3 i) (b := g)
    refine tt_iload d_Y_field_35 rfl ?_
    refine tt_aload_n d_Y_field_37 rfl ?_
    refine tn_get d_Y_field_38 rfl rfl (by decide) rfl h.e.1.2.2.1 ?_
    refine tn_ic_ge (t := 75) (by omega) (by omega) d_Y_field_41 (by decide) (fun c_41 => ?_) (fun c_41 => ?_)
    · obtain rfl : i = eN (wE w) := by omega
      subst hb2
      exact hQ
    · have h3 := (ho.2.1.2.2.2.2.2.2 i (by omega)).2.2.1
      replace hgb := hgb (by omega) (by omega)
      have hbl := bsN_256 (fun i => decide (wV w 3 i = g + 1)) (n := i) (by omega)
      refine tt_iload_n d_Y_field_44 rfl ?_
      refine tt_aload_n d_Y_field_45 rfl ?_
      refine tt_getR d_Y_field_46 rfl rfl (by decide) rfl rfl ?_
      refine tt_bipush (v := nI 17) d_Y_field_49 (by decide) ?_
      refine tt_iload d_Y_field_51 rfl ?_
      refine tn_iadd d_Y_field_53 ?_
      refine tn_iald d_Y_field_54 rfl (by decide) (by omega) ((h.1.2.1.2 _ (by omega)).2.2.1) ?_
      refine tt_iload_n d_Y_field_55 rfl ?_
      refine tt_ic_ne (t := 66) d_Y_field_56 (by decide) (fun c_56 => ?_) (fun c_56 => ?_)
      · refine tt_iconst (v := nI 0) d_Y_field_66 (by decide) ?_
        refine tt_ior d_Y_field_67 ?_
        refine tt_top (or_N _ _) ?_
        refine tt_istore_n (lv2 := [_, _, _, _, _]) d_Y_field_68 (by decide) rfl ?_
        refine tt_iinc (lv2 := [_, _, _, _, _]) d_Y_field_69 rfl (nI_inc _ 1) (by decide) rfl ?_
        refine tt_goto (t := 35) d_Y_field_72 (by decide) ?_
        exact ih (eN (wE w) - (i + 1)) (by omega) (i + 1) _ _ rfl (by omega) rfl (by rw [hb2, Nat.or_zero]; exact bs_n (by rw [decide_eq_true_iff]; exact fun z => c_56 (hgb.mpr z)))
      · refine tt_iconst (v := nI 1) d_Y_field_59 (by decide) ?_
        refine tt_iload d_Y_field_60 rfl ?_
        refine tt_ishl d_Y_field_62 ?_
        refine tt_top (shl_9 _ (by omega)) ?_
        refine tt_goto (t := 67) d_Y_field_63 (by decide) ?_
        refine tt_ior d_Y_field_67 ?_
        refine tt_top (or_N _ _) ?_
        refine tt_istore_n (lv2 := [_, _, _, _, _]) d_Y_field_68 (by decide) rfl ?_
        refine tt_iinc (lv2 := [_, _, _, _, _]) d_Y_field_69 rfl (nI_inc _ 1) (by decide) rfl ?_
        refine tt_goto (t := 35) d_Y_field_72 (by decide) ?_
        exact ih (eN (wE w) - (i + 1)) (by omega) (i + 1) _ _ rfl (by omega) rfl (by rw [hb2]; exact bs_y (by rw [decide_eq_true_iff]; exact hgb.mp (Decidable.not_not.mp c_56)))

def a_field (w : wv) (g k : Nat) : Int32 := if k = 0 then nI (eB (wE w) g) else if k = 1 then (if wV w 0 0 = g then nI 1 else nI 0) else nI (fdN w g)
theorem rk_N {σ : xs} {e : xe} {n g : Nat} (hg : g < n) (hn : n ≤ 36) (hB : si σ 6 g = nI (eB e g)) (hb : eB e g ≤ 1) : X_rk σ n (nI g) = nI (eB e g) := by
  unfold X_rk
  rw [nI_toInt (by omega), if_pos (by omega), show ((g : Int)).toNat = g from rfl, hB]
  rcases (show eB e g = 0 ∨ eB e g = 1 by omega) with h | h <;> rw [h] <;> rfl
set_option maxHeartbeats 4000000 in
theorem xc_field {l : xLa} {d g k : Nat} {σ : xs} {w : wv} (ho : okQ w) (hw : XW σ w) (hg : g < eR (wE w) * eC (wE w)) (hk : k ≤ 2) : TC l M_X_field (d + 30) [.ref 0, .int (nI g), .int (nI k)] σ (fun r τ => r = some (.int (a_field w g k)) ∧ XW τ w ∧ XF σ τ) := by
  show T l M_X_field (d + 30) 0 _ [] σ _
  refine T_lv (lv2 := [_, _, _, _, _]) rfl ?_
  have h := XQ.rf hw.v
  have hd0 := hw.2.2.2.1
  have hb0 := ho.fb
  have hb8 := ho.n8
  have hB := ho.1.2.2.2 g (by omega)
  have hbo := ho.2.1.1
  unfold a_field
  refine tt_aload_n d_X_field_0 rfl ?_
  refine tt_getR d_X_field_1 rfl rfl (by decide) rfl rfl ?_
  refine tt_iload_n d_X_field_4 rfl ?_
  refine tt_callV (x_Lake_has (d := d) h.r h.cl ho.1.1.2.1 ho.1.1.2.2.2.1 ho.cp) cw_Lake_has rfl rfl (by decide) rfl (by omega) d_X_field_5 rfl rfl (Nat.le_of_ble_eq_true rfl) (Nat.le_of_ble_eq_true rfl) rfl rfl rfl (fun v σ2 q => ?_)
  obtain ⟨rfl, e9⟩ := q
  rw [e9, X_in_N hg (by omega)]
  clear e9
  refine tn_if_eq (t := 20) (by omega) d_X_field_8 (by decide) (fun c_8 => ?_) (fun c_8 => ?_)
  · exact absurd c_8 (by decide)
  · refine tt_iload_n d_X_field_11 rfl ?_
    refine tn_if_lt (t := 20) (by omega) d_X_field_12 (by decide) ?_
    refine tt_iload_n d_X_field_15 rfl ?_
    refine tt_iconst (v := nI 2) d_X_field_16 (by decide) ?_
    refine tn_ic_le (t := 28) (by omega) (by omega) d_X_field_17 (by decide) (fun c_17 => ?_) (fun c_17 => ?_)
    · refine tt_iload_n d_X_field_28 rfl ?_
      refine tn_if_ne (t := 49) (by omega) d_X_field_29 (by decide) (fun c_29 => ?_) (fun c_29 => ?_)
      · rw [if_neg c_29]
        refine tt_iload_n d_X_field_49 rfl ?_
        refine tt_iconst (v := nI 1) d_X_field_50 (by decide) ?_
        refine tn_ic_ne (t := 71) (by omega) (by omega) d_X_field_51 (by decide) (fun c_51 => ?_) (fun c_51 => ?_)
        · rw [if_neg c_51]
          refine tt_iconst (v := nI 0) d_X_field_71 (by decide) ?_
          refine tt_istore_n (lv2 := [_, _, _, _, _]) d_X_field_72 (by decide) rfl ?_
          refine tt_iconst (v := nI 0) d_X_field_73 (by decide) ?_
          refine tt_istore (lv2 := [_, _, _, _, _]) d_X_field_74 (by decide) rfl ?_
          refine T.mono (x_field_l (d := d) ho (by omega) h (eN (wE w)) 0 0 _ rfl (by omega) rfl rfl) ?_
          rintro r υ ⟨rfl, rfl⟩
          exact ⟨rfl, h.ww hd0, h.2.1⟩
        · rw [if_pos (by omega)]
          refine tt_aload_n d_X_field_54 rfl ?_
          refine tt_getR d_X_field_55 rfl rfl (by decide) rfl rfl ?_
          refine tn_get d_X_field_58 rfl rfl (by decide) rfl (h.v 0 (by decide)) ?_
          refine tt_iload_n d_X_field_61 rfl ?_
          refine tn_ic_ne (t := 69) (by omega) (by omega) d_X_field_62 (by decide) (fun c_62 => ?_) (fun c_62 => ?_)
          · rw [if_neg c_62]
            refine tt_iconst (v := nI 0) d_X_field_69 (by decide) ?_
            refine tt_iret rfl d_X_field_70 ?_
            exact ⟨rfl, h.ww hd0, h.2.1⟩
          · rw [if_pos (by omega)]
            refine tt_iconst (v := nI 1) d_X_field_65 (by decide) ?_
            refine tt_goto (t := 70) d_X_field_66 (by decide) ?_
            refine tt_iret rfl d_X_field_70 ?_
            exact ⟨rfl, h.ww hd0, h.2.1⟩
      · rw [if_pos (by omega)]
        refine tt_aload_n d_X_field_32 rfl ?_
        refine tt_getR d_X_field_33 rfl rfl (by decide) rfl rfl ?_
        refine tt_iload_n d_X_field_36 rfl ?_
        refine tt_callV (x_Lake_isRock (d := d) h.r h.cl ho.1.1.2.1 ho.1.1.2.2.2.1 ho.cp) cw_Lake_isRock rfl rfl (by decide) rfl (by omega) d_X_field_37 rfl rfl (Nat.le_of_ble_eq_true rfl) (Nat.le_of_ble_eq_true rfl) rfl rfl rfl (fun v σ2 q => ?_)
        obtain ⟨rfl, e9⟩ := q
        rw [e9, rk_N (e := wE w) hg hb0 (h.e.2.2.2.1 g (by omega)) hB]
        clear e9
        refine tn_if_eq (t := 47) (by omega) d_X_field_40 (by decide) (fun c_40 => ?_) (fun c_40 => ?_)
        · rw [show eB (wE w) g = 0 by omega]
          refine tt_iconst (v := nI 0) d_X_field_47 (by decide) ?_
          refine tt_iret rfl d_X_field_48 ?_
          exact ⟨rfl, h.ww hd0, h.2.1⟩
        · rw [show eB (wE w) g = 1 by omega]
          refine tt_iconst (v := nI 1) d_X_field_43 (by decide) ?_
          refine tt_goto (t := 48) d_X_field_44 (by decide) ?_
          refine tt_iret rfl d_X_field_48 ?_
          exact ⟨rfl, h.ww hd0, h.2.1⟩
    · omega

set_option maxHeartbeats 4000000 in
theorem yc_field {l : xLa} {d c g k : Nat} {σ : xs} {w : wv} (ho : okQ w) (hw : YW σ c w) (hg : g < eR (wE w) * eC (wE w)) (hk : k ≤ 2) : TC l M_Y_field (d + 150) [.ref 154, .int (nI g), .int (nI k)] σ (fun r τ => r = some (.int (a_field w g k)) ∧ YW τ c w ∧ YF σ τ ∧ sf τ 154 0 = nI 0) := by
  show T l M_Y_field (d + 150) 0 _ [] σ _
  refine T_lv (lv2 := [_, _, _, _, _]) rfl ?_
  have h := YQ.rf hw.v
  have hd0 := hw.2.2.2.1
  have hb0 := ho.fb
  have hb8 := ho.n8
  have hB := ho.1.2.2.2 g (by omega)
  have hbo := ho.2.1.1
  unfold a_field
  refine tt_aload_n d_Y_field_0 rfl ?_
  refine tt_iconst (v := nI 0) d_Y_field_1 (by decide) ?_
  refine tt_putI d_Y_field_2 rfl rfl (by decide) rfl (xpok_int rfl) rfl ?_
  replace h := h.thr (x := nI 0)
  replace hd0 := hd0.thr (x := nI 0)
  refine tt_aload_n d_Y_field_5 rfl ?_
  refine tt_iload_n d_Y_field_6 rfl ?_
  refine tt_callV (y_isField (d := d) h.e.1.1 h.e.1.2.1 ho.1.1.2.1 ho.1.1.2.2.2.1 ho.cp) cw_Y_isField rfl rfl (by decide) rfl (by omega) d_Y_field_7 rfl rfl (Nat.le_of_ble_eq_true rfl) (Nat.le_of_ble_eq_true rfl) rfl rfl rfl (fun v σ2 q => ?_)
  obtain ⟨rfl, e9⟩ := q
  rw [e9, X_in_N hg (by omega)]
  clear e9
  refine tn_if_eq (t := 25) (by omega) d_Y_field_10 (by decide) (fun c_10 => ?_) (fun c_10 => ?_)
  · exact absurd c_10 (by decide)
  · refine tt_iload_n d_Y_field_13 rfl ?_
    refine tt_i2l d_Y_field_14 ?_
    refine tt_lconst (v := 0) d_Y_field_15 (by decide) ?_
    refine tt_ldc2_w d_Y_field_16 rfl ?_
    refine tt_callS (y_in (d := d)) cw_Y_in rfl (by omega) d_Y_field_19 rfl rfl (Nat.le_of_ble_eq_true rfl) (Nat.le_of_ble_eq_true rfl) rfl rfl rfl (fun v σ2 q => ?_)
    obtain ⟨rfl, e9⟩ := q
    rw [e9, show Yin (nI k).toInt64 0 2 = nI 1 from Yin_t (a := 0) (b := 2) rfl rfl (by omega) (by omega) (by decide)]
    clear e9
    refine tn_if_ne (t := 30) (by omega) d_Y_field_22 (by decide) (fun c_22 => ?_) (fun c_22 => ?_)
    · refine tt_iconst (v := nI 0) d_Y_field_30 (by decide) ?_
      refine tt_istore_n (lv2 := [_, _, _, _, _]) d_Y_field_31 (by decide) rfl ?_
      refine tt_iconst (v := nI 0) d_Y_field_32 (by decide) ?_
      refine tt_istore (lv2 := [_, _, _, _, _]) d_Y_field_33 (by decide) rfl ?_
      refine y_field_l (c := c) (σ0 := σ) ho (by omega) h ?_ (eN (wE w)) 0 0 _ rfl (by omega) rfl rfl
      refine tt_iload_n d_Y_field_75 rfl ?_
      refine tn_if_ne (t := 91) (by omega) d_Y_field_76 (by decide) (fun c_76 => ?_) (fun c_76 => ?_)
      · rw [if_neg c_76]
        refine tt_iload_n d_Y_field_91 rfl ?_
        refine tt_iconst (v := nI 1) d_Y_field_92 (by decide) ?_
        refine tn_ic_ne (t := 117) (by omega) (by omega) d_Y_field_93 (by decide) (fun c_93 => ?_) (fun c_93 => ?_)
        · rw [if_neg c_93]
          refine tt_iload_n d_Y_field_117 rfl ?_
          refine tt_iret rfl d_Y_field_118 ?_
          exact ⟨rfl, h.ww hd0, h.2, rfl⟩
        · rw [if_pos (by omega)]
          refine tt_aload_n d_Y_field_96 rfl ?_
          refine tt_getR d_Y_field_97 rfl rfl (by decide) rfl rfl ?_
          refine tt_iconst (v := nI 0) d_Y_field_100 (by decide) ?_
          refine tn_iald d_Y_field_101 rfl (by decide) (by omega) (h.1.2.1.1.1) ?_
          refine tt_iload_n d_Y_field_102 rfl ?_
          refine tn_ic_ne (t := 110) (by omega) (by omega) d_Y_field_103 (by decide) (fun c_103 => ?_) (fun c_103 => ?_)
          · rw [if_neg c_103]
            refine tt_iconst (v := nI 0) d_Y_field_110 (by decide) ?_
            refine tt_callS (y_flagN (d := d) (by omega)) cw_Y_flag rfl (by omega) d_Y_field_111 rfl rfl (Nat.le_of_ble_eq_true rfl) (Nat.le_of_ble_eq_true rfl) rfl rfl rfl (fun v σ2 q => ?_)
            obtain ⟨rfl, e9⟩ := q
            rw [e9]
            clear e9
            refine tt_goto (t := 118) d_Y_field_114 (by decide) ?_
            refine tt_iret rfl d_Y_field_118 ?_
            exact ⟨rfl, h.ww hd0, h.2, rfl⟩
          · rw [if_pos (by omega)]
            refine tt_iconst (v := nI 1) d_Y_field_106 (by decide) ?_
            refine tt_goto (t := 111) d_Y_field_107 (by decide) ?_
            refine tt_callS (y_flagN (d := d) (by omega)) cw_Y_flag rfl (by omega) d_Y_field_111 rfl rfl (Nat.le_of_ble_eq_true rfl) (Nat.le_of_ble_eq_true rfl) rfl rfl rfl (fun v σ2 q => ?_)
            obtain ⟨rfl, e9⟩ := q
            rw [e9]
            clear e9
            refine tt_goto (t := 118) d_Y_field_114 (by decide) ?_
            refine tt_iret rfl d_Y_field_118 ?_
            exact ⟨rfl, h.ww hd0, h.2, rfl⟩
      · rw [if_pos (by omega)]
        refine tt_aload_n d_Y_field_79 rfl ?_
        refine tt_getR d_Y_field_80 rfl rfl (by decide) rfl rfl ?_
        refine tt_iload_n d_Y_field_83 rfl ?_
        refine tn_zald d_Y_field_84 rfl (by decide) (by omega) (h.e.2.2.2 _ hg) ?_
        refine tt_callS (y_flagN (d := d) (by omega)) cw_Y_flag rfl (by omega) d_Y_field_85 rfl rfl (Nat.le_of_ble_eq_true rfl) (Nat.le_of_ble_eq_true rfl) rfl rfl rfl (fun v σ2 q => ?_)
        obtain ⟨rfl, e9⟩ := q
        rw [e9]
        clear e9
        refine tt_goto (t := 118) d_Y_field_88 (by decide) ?_
        refine tt_iret rfl d_Y_field_118 ?_
        exact ⟨rfl, h.ww hd0, h.2, rfl⟩
    · exact absurd c_22 (by decide)

