/-! one, where it does not throw. Printed by wip/whole. -/
def a_one (w : wv) (i : Nat) : Nat → Int32
  | 0 => nI (eK (wE w) i)
  | 1 => nI (eS (wE w) i)
  | 2 => nI (wV w 1 i)
  | 3 => nI (wV w 2 i)
  | 4 => nI (tbN (wV w 0 5) i)
  | 5 => gI (wV w 3 i)
  | 6 => if wV w 3 i = 0 then -1 else nI (wV w 4 i)
  | 7 => plV (wE w) (wV w) i
  | _ => if plV (wE w) (wV w) i = 0 then -1 else nI (wyV (wE w) (wV w) i)
theorem pl_act {e : xe} {v : sv} {i : Nat} (h : ¬ plV e v i = 0) : actV v i = true ∧ ¬ v 3 i = 0 := by
  have h1 : actV v i = true := Decidable.byContradiction (fun z => h (by unfold plV; rw [if_neg z]; rfl))
  refine ⟨h1, fun z => ?_⟩
  unfold actV at h1
  rw [decide_eq_false (fun y => y z)] at h1
  cases h1
set_option maxHeartbeats 4000000 in
theorem x_headingOf {l : xLa} {d i : Nat} {σ : xs} {e : xe} {v : sv} (he : okE e) (hv : okV e v) (hn : sf σ 9 2 = nI (eN e)) (hi : i < eN e) (hM : MS e v (eN e) σ) : TE l M_Tug_headingOf (d + 2) [.ref 14, .int (nI i)] σ (some (.int (if plV e v i = 0 then -1 else nI (wyV e v i)))) σ := by
  show T l M_Tug_headingOf (d + 2) 0 _ [] σ _
  have h8 := he.1.2.2.2.2.1
  refine tt_aload_n d_Tug_headingOf_0 rfl ?_
  refine tt_getR d_Tug_headingOf_1 rfl rfl (by decide) rfl rfl ?_
  refine tt_iload_n d_Tug_headingOf_4 rfl ?_
  refine tt_callV (x_School_has (d := d) hn h8) cw_School_has rfl rfl (by decide) rfl (by omega) d_Tug_headingOf_5 rfl rfl (Nat.le_of_ble_eq_true rfl) (Nat.le_of_ble_eq_true rfl) rfl rfl rfl (fun v σ2 q => ?_)
  obtain ⟨rfl, e9⟩ := q
  rw [e9, X_in_N hi (by omega)]
  clear e9
  refine tn_if_eq (t := 20) (by omega) d_Tug_headingOf_8 (by decide) (fun c_8 => ?_) (fun c_8 => ?_)
  · exact absurd c_8 (by decide)
  · refine tt_aload_n d_Tug_headingOf_11 rfl ?_
    refine tt_getR d_Tug_headingOf_12 rfl rfl (by decide) rfl rfl ?_
    refine tt_iload_n d_Tug_headingOf_15 rfl ?_
    refine tn_iald d_Tug_headingOf_16 rfl (by decide) (by omega) (hM i hi).1 ?_
    refine tt_if_ne (t := 22) d_Tug_headingOf_17 (by decide) (fun c_17 => ?_) (fun c_17 => ?_)
    · rw [if_neg c_17]
      have ha := pl_act c_17
      have hy := wy_w he hv hi ha.1
      refine tt_aload_n d_Tug_headingOf_22 rfl ?_
      refine tt_getR d_Tug_headingOf_23 rfl rfl (by decide) rfl rfl ?_
      refine tt_iload_n d_Tug_headingOf_26 rfl ?_
      refine tn_iald d_Tug_headingOf_27 rfl (by decide) (by omega) ((hM i hi).2 ha.1).2 ?_
      refine tt_iconst (v := (-1)) d_Tug_headingOf_28 (by decide) ?_
      refine tt_ic_ne (t := 41) d_Tug_headingOf_29 (by decide) (fun c_29 => ?_) (fun c_29 => ?_)
      · have hz := hy.2 c_29
        rw [hz.1]
        refine tt_iconst (v := nI 4) d_Tug_headingOf_41 (by decide) ?_
        refine tt_iret rfl d_Tug_headingOf_42 ?_
        exact ⟨rfl, rfl⟩
      · have hz := hy.1 (Decidable.not_not.mp c_29)
        rw [hz.1]
        refine tt_aload_n d_Tug_headingOf_32 rfl ?_
        refine tt_getR d_Tug_headingOf_33 rfl rfl (by decide) rfl rfl ?_
        refine tt_iload_n d_Tug_headingOf_36 rfl ?_
        refine tn_iald d_Tug_headingOf_37 rfl (by decide) (by omega) ((hM i hi).2 ha.1).1 ?_
        refine tt_goto (t := 42) d_Tug_headingOf_38 (by decide) ?_
        refine tt_iret rfl d_Tug_headingOf_42 ?_
        exact ⟨by rw [w1V_N], rfl⟩
    · rw [if_pos (Decidable.not_not.mp c_17)]
      refine tt_iconst (v := (-1)) d_Tug_headingOf_20 (by decide) ?_
      refine tt_iret rfl d_Tug_headingOf_21 ?_
      exact ⟨rfl, rfl⟩

set_option maxHeartbeats 4000000 in
theorem xc_one {l : xLa} {d i k : Nat} {σ : xs} {w : wv} (ho : okQ w) (hw : XW σ w) (hi : i < eN (wE w)) (hk : k ≤ 8) : TC l M_X_one (d + 30) [.ref 0, .int (nI i), .int (nI k)] σ (fun r τ => r = some (.int (a_one w i k)) ∧ XW τ w ∧ XF σ τ) := by
  show T l M_X_one (d + 30) 0 _ [] σ _
  refine T_lv (lv2 := [_, _, _]) rfl ?_
  have h := XQ.rf hw.v
  have hd0 := hw.2.2.2.1
  have hb0 := ho.fb
  have hb8 := ho.n8
  have hv := ho.2.1
  have h3 := (hv.2.2.2.2.2.2 i hi).2.2.1
  have hg := gI_c (show wV w 3 i < 2 ^ 31 by omega)
  have htb := (tbN_c (wV w 0 5) i).1
  refine tt_aload_n d_X_one_0 rfl ?_
  refine tt_getR d_X_one_1 rfl rfl (by decide) rfl rfl ?_
  refine tt_iload_n d_X_one_4 rfl ?_
  refine tt_callV (x_School_has (d := d) h.n ho.n8) cw_School_has rfl rfl (by decide) rfl (by omega) d_X_one_5 rfl rfl (Nat.le_of_ble_eq_true rfl) (Nat.le_of_ble_eq_true rfl) rfl rfl rfl (fun v σ2 q => ?_)
  obtain ⟨rfl, e9⟩ := q
  rw [e9, X_in_N hi (by omega)]
  clear e9
  refine tn_if_eq (t := 21) (by omega) d_X_one_8 (by decide) (fun c_8 => ?_) (fun c_8 => ?_)
  · exact absurd c_8 (by decide)
  · refine tt_iload_n d_X_one_11 rfl ?_
    refine tn_if_lt (t := 21) (by omega) d_X_one_12 (by decide) ?_
    refine tt_iload_n d_X_one_15 rfl ?_
    refine tt_bipush (v := nI 8) d_X_one_16 (by decide) ?_
    refine tn_ic_le (t := 29) (by omega) (by omega) d_X_one_18 (by decide) (fun c_18 => ?_) (fun c_18 => ?_)
    · refine tt_iload_n d_X_one_29 rfl ?_
      rcases (show k = 0 ∨ k = 1 ∨ k = 2 ∨ k = 3 ∨ k = 4 ∨ k = 5 ∨ k = 6 ∨ k = 7 ∨ k = 8 by omega) with rfl | rfl | rfl | rfl | rfl | rfl | rfl | rfl | rfl
      · refine tt_tab (t := 76) d_X_one_30 rfl ?_
        refine tt_aload_n d_X_one_76 rfl ?_
        refine tt_getR d_X_one_77 rfl rfl (by decide) rfl rfl ?_
        refine tt_getR d_X_one_80 rfl rfl (by decide) rfl rfl ?_
        refine tt_iload_n d_X_one_83 rfl ?_
        refine tn_iald d_X_one_84 rfl (by decide) (by omega) (h.kd (by omega)) ?_
        refine tt_iret rfl d_X_one_85 ?_
        exact ⟨rfl, h.none hd0, h.2.1⟩
      · refine tt_tab (t := 86) d_X_one_30 rfl ?_
        refine tt_aload_n d_X_one_86 rfl ?_
        refine tt_getR d_X_one_87 rfl rfl (by decide) rfl rfl ?_
        refine tt_getR d_X_one_90 rfl rfl (by decide) rfl rfl ?_
        refine tt_iload_n d_X_one_93 rfl ?_
        refine tn_iald d_X_one_94 rfl (by decide) (by omega) (h.sg (by omega)) ?_
        refine tt_iret rfl d_X_one_95 ?_
        exact ⟨rfl, h.none hd0, h.2.1⟩
      · refine tt_tab (t := 96) d_X_one_30 rfl ?_
        refine tt_aload_n d_X_one_96 rfl ?_
        refine tt_getR d_X_one_97 rfl rfl (by decide) rfl rfl ?_
        refine tt_getR d_X_one_100 rfl rfl (by decide) rfl rfl ?_
        refine tt_iload_n d_X_one_103 rfl ?_
        refine tn_iald d_X_one_104 rfl (by decide) (by omega) (h.t1 (by omega)) ?_
        refine tt_iret rfl d_X_one_105 ?_
        exact ⟨rfl, h.none hd0, h.2.1⟩
      · refine tt_tab (t := 106) d_X_one_30 rfl ?_
        refine tt_aload_n d_X_one_106 rfl ?_
        refine tt_getR d_X_one_107 rfl rfl (by decide) rfl rfl ?_
        refine tt_getR d_X_one_110 rfl rfl (by decide) rfl rfl ?_
        refine tt_iload_n d_X_one_113 rfl ?_
        refine tn_iald d_X_one_114 rfl (by decide) (by omega) (h.t2 (by omega)) ?_
        refine tt_iret rfl d_X_one_115 ?_
        exact ⟨rfl, h.none hd0, h.2.1⟩
      · refine tt_tab (t := 116) d_X_one_30 rfl ?_
        refine tt_aload_n d_X_one_116 rfl ?_
        refine tt_getR d_X_one_117 rfl rfl (by decide) rfl rfl ?_
        refine tt_iload_n d_X_one_120 rfl ?_
        refine tt_callV (x_holdN (d := d) isS_20 h.1.2.1 hv.2.2.2.2.2.1 (by omega)) cw_State_holds rfl rfl (by decide) rfl (by omega) d_X_one_121 rfl rfl (Nat.le_of_ble_eq_true rfl) (Nat.le_of_ble_eq_true rfl) rfl rfl rfl (fun v σ2 q => ?_)
        obtain ⟨rfl, e9⟩ := q
        rw [e9]
        clear e9
        refine tn_if_eq (t := 131) (by omega) d_X_one_124 (by decide) (fun c_124 => ?_) (fun c_124 => ?_)
        · have tz : tbN (wV w 0 5) i = 0 := by omega
          refine tt_iconst (v := nI 0) d_X_one_131 (by decide) ?_
          refine tt_iret rfl d_X_one_132 ?_
          exact ⟨by show _ = some (Value.int (nI (tbN (wV w 0 5) i))); rw [tz], h.none hd0, h.2.1⟩
        · have tz : tbN (wV w 0 5) i = 1 := by have := (tbN_c (wV w 0 5) i).1; omega
          refine tt_iconst (v := nI 1) d_X_one_127 (by decide) ?_
          refine tt_goto (t := 132) d_X_one_128 (by decide) ?_
          refine tt_iret rfl d_X_one_132 ?_
          exact ⟨by show _ = some (Value.int (nI (tbN (wV w 0 5) i))); rw [tz], h.none hd0, h.2.1⟩
      · refine tt_tab (t := 133) d_X_one_30 rfl ?_
        refine tt_aload_n d_X_one_133 rfl ?_
        refine tt_getR d_X_one_134 rfl rfl (by decide) rfl rfl ?_
        refine tt_getR d_X_one_137 rfl rfl (by decide) rfl rfl ?_
        refine tt_iload_n d_X_one_140 rfl ?_
        refine tn_iald d_X_one_141 rfl (by decide) (by omega) (h.t3 (by omega)) ?_
        refine tt_iret rfl d_X_one_142 ?_
        exact ⟨rfl, h.none hd0, h.2.1⟩
      · refine tt_tab (t := 143) d_X_one_30 rfl ?_
        refine tt_aload_n d_X_one_143 rfl ?_
        refine tt_getR d_X_one_144 rfl rfl (by decide) rfl rfl ?_
        refine tt_getR d_X_one_147 rfl rfl (by decide) rfl rfl ?_
        refine tt_iload_n d_X_one_150 rfl ?_
        refine tn_iald d_X_one_151 rfl (by decide) (by omega) (h.t3 (by omega)) ?_
        refine tt_iconst (v := (-1)) d_X_one_152 (by decide) ?_
        refine tt_ic_ne (t := 160) d_X_one_153 (by decide) (fun c_153 => ?_) (fun c_153 => ?_)
        · have tz : ¬ wV w 3 i = 0 := fun z => c_153 (hg.1.mpr z)
          refine tt_aload_n d_X_one_160 rfl ?_
          refine tt_getR d_X_one_161 rfl rfl (by decide) rfl rfl ?_
          refine tt_getR d_X_one_164 rfl rfl (by decide) rfl rfl ?_
          refine tt_iload_n d_X_one_167 rfl ?_
          refine tn_iald d_X_one_168 rfl (by decide) (by omega) (h.t4 (by omega)) ?_
          refine tt_iret rfl d_X_one_169 ?_
          exact ⟨by show _ = some (Value.int (if wV w 3 i = 0 then -1 else nI (wV w 4 i))); rw [if_neg tz], h.none hd0, h.2.1⟩
        · have tz := hg.1.mp (Decidable.not_not.mp c_153)
          refine tt_iconst (v := (-1)) d_X_one_156 (by decide) ?_
          refine tt_goto (t := 169) d_X_one_157 (by decide) ?_
          refine tt_iret rfl d_X_one_169 ?_
          exact ⟨by show _ = some (Value.int (if wV w 3 i = 0 then -1 else nI (wV w 4 i))); rw [if_pos tz], h.none hd0, h.2.1⟩
      · refine tt_tab (t := 170) d_X_one_30 rfl ?_
        refine tt_aload_n d_X_one_170 rfl ?_
        refine tt_getR d_X_one_171 rfl rfl (by decide) rfl rfl ?_
        refine tt_aload_n d_X_one_174 rfl ?_
        refine tt_getR d_X_one_175 rfl rfl (by decide) rfl rfl ?_
        refine tt_aload_n d_X_one_178 rfl ?_
        refine tt_getP d_X_one_179 rfl ?_
        refine tt_callV (xq_measure (d := d) h ho.1 ho.2.1) cw_Tug_measure rfl rfl (by decide) rfl (by omega) d_X_one_182 rfl rfl (Nat.le_of_ble_eq_true rfl) (Nat.le_of_ble_eq_true rfl) rfl rfl rfl (fun v σ2 q => ?_)
        obtain ⟨rfl, h, hM, hu⟩ := q
        replace hd0 := hd0.tn hu
        refine tt_aload_n d_X_one_185 rfl ?_
        refine tt_getR d_X_one_186 rfl rfl (by decide) rfl rfl ?_
        refine tt_getR d_X_one_189 rfl rfl (by decide) rfl rfl ?_
        refine tt_iload_n d_X_one_192 rfl ?_
        refine tn_iald d_X_one_193 rfl (by decide) (by omega) (hM _ (by omega)).1 ?_
        refine tt_iret rfl d_X_one_194 ?_
        exact ⟨rfl, h.none hd0, h.2.1⟩
      · refine tt_tab (t := 195) d_X_one_30 (s_tab_d (by decide) rfl) ?_
        refine tt_aload_n d_X_one_195 rfl ?_
        refine tt_getR d_X_one_196 rfl rfl (by decide) rfl rfl ?_
        refine tt_aload_n d_X_one_199 rfl ?_
        refine tt_getR d_X_one_200 rfl rfl (by decide) rfl rfl ?_
        refine tt_aload_n d_X_one_203 rfl ?_
        refine tt_getP d_X_one_204 rfl ?_
        refine tt_callV (xq_measure (d := d) h ho.1 ho.2.1) cw_Tug_measure rfl rfl (by decide) rfl (by omega) d_X_one_207 rfl rfl (Nat.le_of_ble_eq_true rfl) (Nat.le_of_ble_eq_true rfl) rfl rfl rfl (fun v σ2 q => ?_)
        obtain ⟨rfl, h, hM, hu⟩ := q
        replace hd0 := hd0.tn hu
        refine tt_aload_n d_X_one_210 rfl ?_
        refine tt_getR d_X_one_211 rfl rfl (by decide) rfl rfl ?_
        refine tt_iload_n d_X_one_214 rfl ?_
        refine tt_callV (x_headingOf (d := d) ho.1 hv h.n hi hM) cw_Tug_headingOf rfl rfl (by decide) rfl (by omega) d_X_one_215 rfl rfl (Nat.le_of_ble_eq_true rfl) (Nat.le_of_ble_eq_true rfl) rfl rfl rfl (fun v σ2 q => ?_)
        obtain ⟨rfl, e9⟩ := q
        rw [e9]
        clear e9
        refine tt_iret rfl d_X_one_218 ?_
        exact ⟨rfl, h.none hd0, h.2.1⟩
    · omega

theorem yq_pull0 {l : xLa} {d c i : Nat} {σ τ : xs} {w : wv} (h : YQ c w σ τ) (hi : i < eN (wE w)) (he : okE (wE w)) (hv : okV (wE w) (wV w)) : TC l M_Y_pull (d + 6) [.ref 154, .ref 160, .int (nI i)] τ (fun r υ => r = some (.int (plV (wE w) (wV w) i)) ∧ YQ c w σ υ ∧ Un τ υ ∧ sf υ 154 0 = sf τ 154 0) := by
  refine T.mono (y_pull (d := d) (σ := τ) isY_160 hi he hv h.e h.1.2.1 h.1.1.2) ?_
  rintro r υ ⟨rfl, h1⟩
  exact ⟨rfl, h.fq (Fq.sc (h1.mono (fun c hc => by unfold PYp at hc; unfold YqA; omega))), Un.sc h1, by rw [h1.1]⟩
set_option maxHeartbeats 4000000 in
theorem yc_one {l : xLa} {d c i k : Nat} {σ : xs} {w : wv} (ho : okQ w) (hw : YW σ c w) (hi : i < eN (wE w)) (hk : k ≤ 8) : TC l M_Y_one (d + 150) [.ref 154, .int (nI i), .int (nI k)] σ (fun r τ => r = some (.int (a_one w i k)) ∧ YW τ c w ∧ YF σ τ ∧ sf τ 154 0 = nI 0) := by
  show T l M_Y_one (d + 150) 0 _ [] σ _
  refine T_lv (lv2 := [_, _, _]) rfl ?_
  have h := YQ.rf hw.v
  have hd0 := hw.2.2.2.1
  have hb0 := ho.fb
  have hb8 := ho.n8
  have hv := ho.2.1
  have h3 := (hv.2.2.2.2.2.2 i hi).2.2.1
  have hg := gI_c (show wV w 3 i < 2 ^ 31 by omega)
  have htb := (tbN_c (wV w 0 5) i).1
  refine tt_aload_n d_Y_one_0 rfl ?_
  refine tt_iconst (v := nI 0) d_Y_one_1 (by decide) ?_
  refine tt_putI d_Y_one_2 rfl rfl (by decide) rfl (xpok_int rfl) rfl ?_
  replace h := h.thr (x := nI 0)
  replace hd0 := hd0.thr (x := nI 0)
  refine tt_aload_n d_Y_one_5 rfl ?_
  refine tt_iload_n d_Y_one_6 rfl ?_
  refine tt_callV (y_isFish (d := d) h.e.1.2.2.1 ho.n8) cw_Y_isFish rfl rfl (by decide) rfl (by omega) d_Y_one_7 rfl rfl (Nat.le_of_ble_eq_true rfl) (Nat.le_of_ble_eq_true rfl) rfl rfl rfl (fun v σ2 q => ?_)
  obtain ⟨rfl, e9⟩ := q
  rw [e9, X_in_N hi (by omega)]
  clear e9
  refine tn_if_eq (t := 25) (by omega) d_Y_one_10 (by decide) (fun c_10 => ?_) (fun c_10 => ?_)
  · exact absurd c_10 (by decide)
  · refine tt_iload_n d_Y_one_13 rfl ?_
    refine tt_i2l d_Y_one_14 ?_
    refine tt_lconst (v := 0) d_Y_one_15 (by decide) ?_
    refine tt_ldc2_w d_Y_one_16 rfl ?_
    refine tt_callS (y_in (d := d)) cw_Y_in rfl (by omega) d_Y_one_19 rfl rfl (Nat.le_of_ble_eq_true rfl) (Nat.le_of_ble_eq_true rfl) rfl rfl rfl (fun v σ2 q => ?_)
    obtain ⟨rfl, e9⟩ := q
    rw [e9, show Yin (nI k).toInt64 0 8 = nI 1 from Yin_t (a := 0) (b := 8) rfl rfl (by omega) (by omega) (by decide)]
    clear e9
    refine tn_if_ne (t := 30) (by omega) d_Y_one_22 (by decide) (fun c_22 => ?_) (fun c_22 => ?_)
    · have th : sf (wF σ 154 0 (nI 0)) 154 0 = nI 0 := rfl
      refine tt_iload_n d_Y_one_30 rfl ?_
      rcases (show k = 0 ∨ k = 1 ∨ k = 2 ∨ k = 3 ∨ k = 4 ∨ k = 5 ∨ k = 6 ∨ k = 7 ∨ k = 8 by omega) with rfl | rfl | rfl | rfl | rfl | rfl | rfl | rfl | rfl
      · refine tt_tab (t := 76) d_Y_one_31 rfl ?_
        refine tt_aload_n d_Y_one_76 rfl ?_
        refine tt_getR d_Y_one_77 rfl rfl (by decide) rfl rfl ?_
        refine tt_iload_n d_Y_one_80 rfl ?_
        refine tn_iald d_Y_one_81 rfl (by decide) (by omega) ((h.e.2.1 _ (by omega)).1) ?_
        refine tt_iret rfl d_Y_one_82 ?_
        exact ⟨rfl, h.none hd0, h.2, th⟩
      · refine tt_tab (t := 83) d_Y_one_31 rfl ?_
        refine tt_aload_n d_Y_one_83 rfl ?_
        refine tt_getR d_Y_one_84 rfl rfl (by decide) rfl rfl ?_
        refine tt_iload_n d_Y_one_87 rfl ?_
        refine tn_iald d_Y_one_88 rfl (by decide) (by omega) ((h.e.2.1 _ (by omega)).2) ?_
        refine tt_iret rfl d_Y_one_89 ?_
        exact ⟨rfl, h.none hd0, h.2, th⟩
      · refine tt_tab (t := 90) d_Y_one_31 rfl ?_
        refine tt_aload_n d_Y_one_90 rfl ?_
        refine tt_getR d_Y_one_91 rfl rfl (by decide) rfl rfl ?_
        refine tt_iconst (v := nI 1) d_Y_one_94 (by decide) ?_
        refine tt_iload_n d_Y_one_95 rfl ?_
        refine tn_iadd d_Y_one_96 ?_
        refine tn_iald d_Y_one_97 rfl (by decide) (by omega) ((h.1.2.1.2 _ (by omega)).1) ?_
        refine tt_iret rfl d_Y_one_98 ?_
        exact ⟨rfl, h.none hd0, h.2, th⟩
      · refine tt_tab (t := 99) d_Y_one_31 rfl ?_
        refine tt_aload_n d_Y_one_99 rfl ?_
        refine tt_getR d_Y_one_100 rfl rfl (by decide) rfl rfl ?_
        refine tt_bipush (v := nI 9) d_Y_one_103 (by decide) ?_
        refine tt_iload_n d_Y_one_105 rfl ?_
        refine tn_iadd d_Y_one_106 ?_
        refine tn_iald d_Y_one_107 rfl (by decide) (by omega) ((h.1.2.1.2 _ (by omega)).2.1) ?_
        refine tt_iret rfl d_Y_one_108 ?_
        exact ⟨rfl, h.none hd0, h.2, th⟩
      · refine tt_tab (t := 109) d_Y_one_31 rfl ?_
        refine tt_aload_n d_Y_one_109 rfl ?_
        refine tt_getR d_Y_one_110 rfl rfl (by decide) rfl rfl ?_
        refine tt_bipush (v := nI 33) d_Y_one_113 (by decide) ?_
        refine tn_iald d_Y_one_115 rfl (by decide) (by omega) (h.1.2.1.1.2.1) ?_
        refine tt_i2l d_Y_one_116 ?_
        refine tt_iload_n d_Y_one_117 rfl ?_
        refine tt_callS (y_hasN (d := d) hv.2.2.2.2.2.1 (by omega)) cw_Y_has rfl (by omega) d_Y_one_118 rfl rfl (Nat.le_of_ble_eq_true rfl) (Nat.le_of_ble_eq_true rfl) rfl rfl rfl (fun v σ2 q => ?_)
        obtain ⟨rfl, e9⟩ := q
        rw [e9]
        clear e9
        refine tt_callS (y_flagN (d := d) htb) cw_Y_flag rfl (by omega) d_Y_one_121 rfl rfl (Nat.le_of_ble_eq_true rfl) (Nat.le_of_ble_eq_true rfl) rfl rfl rfl (fun v σ2 q => ?_)
        obtain ⟨rfl, e9⟩ := q
        rw [e9]
        clear e9
        refine tt_iret rfl d_Y_one_124 ?_
        exact ⟨rfl, h.none hd0, h.2, th⟩
      · refine tt_tab (t := 125) d_Y_one_31 rfl ?_
        refine tt_aload_n d_Y_one_125 rfl ?_
        refine tt_getR d_Y_one_126 rfl rfl (by decide) rfl rfl ?_
        refine tt_bipush (v := nI 17) d_Y_one_129 (by decide) ?_
        refine tt_iload_n d_Y_one_131 rfl ?_
        refine tn_iadd d_Y_one_132 ?_
        refine tn_iald d_Y_one_133 rfl (by decide) (by omega) ((h.1.2.1.2 _ (by omega)).2.2.1) ?_
        refine tt_iret rfl d_Y_one_134 ?_
        exact ⟨rfl, h.none hd0, h.2, th⟩
      · refine tt_tab (t := 135) d_Y_one_31 rfl ?_
        refine tt_aload_n d_Y_one_135 rfl ?_
        refine tt_getR d_Y_one_136 rfl rfl (by decide) rfl rfl ?_
        refine tt_bipush (v := nI 25) d_Y_one_139 (by decide) ?_
        refine tt_iload_n d_Y_one_141 rfl ?_
        refine tn_iadd d_Y_one_142 ?_
        refine tn_iald d_Y_one_143 rfl (by decide) (by omega) ((h.1.2.1.2 _ (by omega)).2.2.2) ?_
        refine tt_iret rfl d_Y_one_144 ?_
        exact ⟨rfl, h.none hd0, h.2, th⟩
      · refine tt_tab (t := 145) d_Y_one_31 rfl ?_
        refine tt_aload_n d_Y_one_145 rfl ?_
        refine tt_aload_n d_Y_one_146 rfl ?_
        refine tt_getR d_Y_one_147 rfl rfl (by decide) rfl rfl ?_
        refine tt_iload_n d_Y_one_150 rfl ?_
        refine tt_callV (yq_pull0 (d := d) h hi ho.1 hv) cw_Y_pull rfl rfl (by decide) rfl (by omega) d_Y_one_151 rfl rfl (Nat.le_of_ble_eq_true rfl) (Nat.le_of_ble_eq_true rfl) rfl rfl rfl (fun v σ2 q => ?_)
        obtain ⟨rfl, h, hu, e0⟩ := q
        replace th := e0.trans th
        replace hd0 := hd0.un hu
        refine tt_iret rfl d_Y_one_154 ?_
        exact ⟨rfl, h.none hd0, h.2, th⟩
      · refine tt_tab (t := 155) d_Y_one_31 (s_tab_d (by decide) rfl) ?_
        refine tt_aload_n d_Y_one_155 rfl ?_
        refine tt_aload_n d_Y_one_156 rfl ?_
        refine tt_getR d_Y_one_157 rfl rfl (by decide) rfl rfl ?_
        refine tt_iload_n d_Y_one_160 rfl ?_
        refine tt_callV (yq_pull0 (d := d) h hi ho.1 hv) cw_Y_pull rfl rfl (by decide) rfl (by omega) d_Y_one_161 rfl rfl (Nat.le_of_ble_eq_true rfl) (Nat.le_of_ble_eq_true rfl) rfl rfl rfl (fun v σ2 q => ?_)
        obtain ⟨rfl, h, hu, e0⟩ := q
        replace th := e0.trans th
        replace hd0 := hd0.un hu
        refine tt_if_ne (t := 171) d_Y_one_164 (by decide) (fun c_164 => ?_) (fun c_164 => ?_)
        · have ha := pl_act c_164
          refine tt_aload_n d_Y_one_171 rfl ?_
          refine tt_aload_n d_Y_one_172 rfl ?_
          refine tt_getR d_Y_one_173 rfl rfl (by decide) rfl rfl ?_
          refine tt_iload_n d_Y_one_176 rfl ?_
          refine tt_callV (y_wayOf (d := d) isY_160 hi ho.1 hv h.e h.1.2.1 ha.2) cw_Y_wayOf rfl rfl (by decide) rfl (by omega) d_Y_one_177 rfl rfl (Nat.le_of_ble_eq_true rfl) (Nat.le_of_ble_eq_true rfl) rfl rfl rfl (fun v σ2 q => ?_)
          obtain ⟨rfl, e9⟩ := q
          rw [e9]
          clear e9
          refine tt_iret rfl d_Y_one_180 ?_
          exact ⟨by show _ = some (Value.int (if plV (wE w) (wV w) i = 0 then -1 else nI (wyV (wE w) (wV w) i))); rw [if_neg c_164], h.none hd0, h.2, th⟩
        · have ha := Decidable.not_not.mp c_164
          refine tt_iconst (v := (-1)) d_Y_one_167 (by decide) ?_
          refine tt_goto (t := 180) d_Y_one_168 (by decide) ?_
          refine tt_iret rfl d_Y_one_180 ?_
          exact ⟨by show _ = some (Value.int (if plV (wE w) (wV w) i = 0 then -1 else nI (wyV (wE w) (wV w) i))); rw [if_pos ha], h.none hd0, h.2, th⟩
    · exact absurd c_22 (by decide)

