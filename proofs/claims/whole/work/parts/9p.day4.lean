/-! day: the acts of the reference. Printed by wip/whole. -/
/-- the acts that were read are left alone -/
def K17 (σ τ : xs) : Prop := (∀ c, 172 ≤ c → c ≤ 176 → si τ c = si σ c) ∧ sf τ 154 40 = sf σ 154 40
theorem K17.rf {σ : xs} : K17 σ σ := ⟨fun _ _ _ => rfl, rfl⟩
theorem K17.tr {σ τ υ : xs} (h : K17 σ τ) (g : K17 τ υ) : K17 σ υ := ⟨fun c h1 h2 => (g.1 c h1 h2).trans (h.1 c h1 h2), g.2.trans h.2⟩
theorem YW.now2 {σ τ : xs} {w : wv} {c : Nat} {v : sv} (h : YW σ c w) (hf : Fq (fun c => c = 160) (fun _ _ => False) (fun _ => False) σ τ) (hv : SY τ 160 (eN (wE w)) v) : YW τ c (stV w v) ∧ YF σ τ ∧ si τ 171 = si σ 171 ∧ K17 σ τ := by
  have z := h.now hf hv
  exact ⟨z.1, z.2.1, z.2.2, fun c h1 h2 => hf.1 c (by omega), hf.2.1 154 40 id⟩
theorem YW.same2 {σ : xs} {w : wv} {c : Nat} (h : YW σ c w) : YW σ c (stV w (wV w)) ∧ YF σ σ ∧ si σ 171 = si σ 171 ∧ K17 σ σ := ⟨h, YF.rf, rfl, K17.rf⟩
set_option maxHeartbeats 4000000 in
theorem y_buysSome2 {l : xLa} {d c : Nat} {σ : xs} {w : wv} (ho : okQ w) (hw : YW σ c w) {n : Int32} : TC l M_Y_buysSome (d + 10) [.ref 154, .int n] σ (fun r τ => r = some (.int (c_buys w n).1) ∧ YW τ c (stV w (c_buys w n).2) ∧ YF σ τ ∧ si τ 171 = si σ 171 ∧ K17 σ τ) := by
  show T l M_Y_buysSome (d + 10) 0 _ [] σ _
  refine T_lv (lv2 := [_, _]) rfl ?_
  have h := YQ.rf hw.v
  have hb0 := ho.fb
  have hb8 := ho.n8
  have hv := ho.2.1
  rcases rgN_c n 1 99 with ⟨m, hm1, hm2, hm3, rfl, hq⟩ | ⟨hq, hb⟩
  · have hqv : c_buys w (nI m) = if wV w 0 1 + m ≤ 99 then (nI (wV w 0 1 + m), upv (wV w) 0 1 (wV w 0 1 + m)) else (-3, wV w) := by unfold c_buys; rw [hq]
    rw [hqv]
    have hv1 := hv.2.1
    clear hqv
    refine tt_iload_n d_Y_buysSome_0 rfl ?_
    refine tt_i2l d_Y_buysSome_1 ?_
    refine tt_lconst (v := 1) d_Y_buysSome_2 (by decide) ?_
    refine tt_ldc2_w d_Y_buysSome_3 rfl ?_
    refine tt_callS (y_in (d := d)) cw_Y_in rfl (by omega) d_Y_buysSome_6 rfl rfl (Nat.le_of_ble_eq_true rfl) (Nat.le_of_ble_eq_true rfl) rfl rfl rfl (fun v σ2 q => ?_)
    obtain ⟨rfl, e9⟩ := q
    rw [e9, show Yin (nI m).toInt64 1 99 = nI 1 from Yin_t (a := 1) (b := 99) rfl rfl (by omega) (by omega) (by decide)]
    clear e9
    refine tn_if_ne (t := 14) (by omega) d_Y_buysSome_9 (by decide) (fun c_9 => ?_) (fun c_9 => ?_)
    · refine tt_aload_n d_Y_buysSome_14 rfl ?_
      refine tt_getR d_Y_buysSome_15 rfl rfl (by decide) rfl rfl ?_
      refine tt_bipush (v := nI 34) d_Y_buysSome_18 (by decide) ?_
      refine tn_iald d_Y_buysSome_20 rfl (by decide) (by omega) (h.1.2.1.1.2.2.1) ?_
      refine tt_iload_n d_Y_buysSome_21 rfl ?_
      refine tn_iadd d_Y_buysSome_22 ?_
      refine tt_bipush (v := nI 99) d_Y_buysSome_23 (by decide) ?_
      refine tn_ic_le (t := 31) (by omega) (by omega) d_Y_buysSome_25 (by decide) (fun c_25 => ?_) (fun c_25 => ?_)
      · rw [if_pos (by omega)]
        refine tt_aload_n d_Y_buysSome_31 rfl ?_
        refine tt_getR d_Y_buysSome_32 rfl rfl (by decide) rfl rfl ?_
        refine tt_bipush (v := nI 34) d_Y_buysSome_35 (by decide) ?_
        refine tt_dup2 d_Y_buysSome_37 rfl rfl ?_
        refine tn_iald d_Y_buysSome_38 rfl (by decide) (by omega) (h.1.2.1.1.2.2.1) ?_
        refine tt_iload_n d_Y_buysSome_39 rfl ?_
        refine tn_iadd d_Y_buysSome_40 ?_
        refine tn_iast d_Y_buysSome_41 rfl (by decide) (by omega) ?_
        refine tt_aload_n d_Y_buysSome_42 rfl ?_
        refine tt_getR d_Y_buysSome_43 rfl rfl (by decide) rfl rfl ?_
        refine tt_bipush (v := nI 34) d_Y_buysSome_46 (by decide) ?_
        refine tn_iald d_Y_buysSome_48 rfl (by decide) (by omega) (show _ = nI (wV w 0 1 + m) from by rw [si_wI, if_pos ⟨rfl, rfl⟩]) ?_
        refine tt_iret rfl d_Y_buysSome_49 ?_
        exact ⟨rfl, hw.now2 (Fq.wI rfl) (SY_01 hw.2.1 hb8)⟩
      · rw [if_neg (by omega)]
        refine tt_bipush (v := (-3)) d_Y_buysSome_28 (by decide) ?_
        refine tt_iret rfl d_Y_buysSome_30 ?_
        have y := hw.same2
        exact ⟨rfl, y⟩
    · exact absurd c_9 (by decide)
  · have hqv : c_buys w n = (-1, wV w) := by unfold c_buys; rw [hq]
    rw [hqv]
    refine tt_iload_n d_Y_buysSome_0 rfl ?_
    refine tt_i2l d_Y_buysSome_1 ?_
    refine tt_lconst (v := 1) d_Y_buysSome_2 (by decide) ?_
    refine tt_ldc2_w d_Y_buysSome_3 rfl ?_
    refine tt_callS (y_in (d := d)) cw_Y_in rfl (by omega) d_Y_buysSome_6 rfl rfl (Nat.le_of_ble_eq_true rfl) (Nat.le_of_ble_eq_true rfl) rfl rfl rfl (fun v σ2 q => ?_)
    obtain ⟨rfl, e9⟩ := q
    rw [e9, show Yin n.toInt64 1 99 = nI 0 from Yin_f (a := 1) (b := 99) rfl rfl (by decide) (by decide) hb]
    clear e9
    refine tn_if_ne (t := 14) (by omega) d_Y_buysSome_9 (by decide) (fun c_9 => ?_) (fun c_9 => ?_)
    · exact absurd rfl c_9
    · refine tt_iconst (v := (-1)) d_Y_buysSome_12 (by decide) ?_
      refine tt_iret rfl d_Y_buysSome_13 ?_
      have y := hw.same2
      exact ⟨rfl, y⟩
set_option maxHeartbeats 4000000 in
theorem y_lets2 {l : xLa} {d c : Nat} {σ : xs} {w : wv} (ho : okQ w) (hw : YW σ c w) {n : Int32} : TC l M_Y_letsOne (d + 10) [.ref 154, .ref 160, .int n] σ (fun r τ => r = some (.int (c_lets w n).1) ∧ YW τ c (stV w (c_lets w n).2) ∧ YF σ τ ∧ si τ 171 = si σ 171 ∧ K17 σ τ) := by
  show T l M_Y_letsOne (d + 10) 0 _ [] σ _
  refine T_lv (lv2 := [_, _, _]) rfl ?_
  have h := YQ.rf hw.v
  have hb0 := ho.fb
  have hb8 := ho.n8
  have hv := ho.2.1
  rcases inN_c n (eN (wE w)) with ⟨m, hm, rfl, hq⟩ | ⟨hq, hb⟩
  · have hqv : c_lets w (nI m) = (nI (pcN (wV w 0 5 ^^^ 2 ^ m)), upv (wV w) 0 5 (wV w 0 5 ^^^ 2 ^ m)) := by unfold c_lets; rw [hq]
    rw [hqv]
    have hx := hx_lt hv.2.2.2.2.2.1 (show m < 8 by omega)
    refine T.mono (y_letsOne (d := d + 6) (σ := σ) isY_160 ho.1 hv hw.1.1.1.2.2.1 hw.2.1 hm) ?_
    rintro r υ ⟨rfl, rfl⟩
    exact ⟨rfl, hw.now2 (Fq.wI rfl) (SY_05 hw.2.1 hb8)⟩
  · have hqv : c_lets w n = (-1, wV w) := by unfold c_lets; rw [hq]
    rw [hqv]
    refine tt_aload_n d_Y_letsOne_0 rfl ?_
    refine tt_iload_n d_Y_letsOne_1 rfl ?_
    refine tt_callV (y_isFish (d := d) h.e.1.2.2.1 ho.n8) cw_Y_isFish rfl rfl (by decide) rfl (by omega) d_Y_letsOne_2 rfl rfl (Nat.le_of_ble_eq_true rfl) (Nat.le_of_ble_eq_true rfl) rfl rfl rfl (fun v σ2 q => ?_)
    obtain ⟨rfl, e9⟩ := q
    rw [e9, X_in_none hb]
    clear e9
    refine tn_if_ne (t := 10) (by omega) d_Y_letsOne_5 (by decide) (fun c_5 => ?_) (fun c_5 => ?_)
    · exact absurd rfl c_5
    · refine tt_iconst (v := (-1)) d_Y_letsOne_8 (by decide) ?_
      refine tt_iret rfl d_Y_letsOne_9 ?_
      have y := hw.same2
      exact ⟨rfl, y⟩
set_option maxHeartbeats 4000000 in
theorem y_takesOne2 {l : xLa} {d c : Nat} {σ : xs} {w : wv} (ho : okQ w) (hw : YW σ c w) {n : Int32} : TC l M_Y_takesOne (d + 10) [.ref 154, .int n] σ (fun r τ => r = some (.int (c_takes w n).1) ∧ YW τ c (stV w (c_takes w n).2) ∧ YF σ τ ∧ si τ 171 = si σ 171 ∧ K17 σ τ) := by
  show T l M_Y_takesOne (d + 10) 0 _ [] σ _
  refine T_lv (lv2 := [_, _]) rfl ?_
  have h := YQ.rf hw.v
  have hb0 := ho.fb
  have hb8 := ho.n8
  have hv := ho.2.1
  rcases inN_c n (eN (wE w)) with ⟨m, hm, rfl, hq⟩ | ⟨hq, hb⟩
  · have hqv : c_takes w (nI m) = if wV w 3 m = 0 then (-2, wV w) else (nI (wV w 2 m - 3), upv (upv (wV w) 3 m 0) 2 m (wV w 2 m - 3)) := by unfold c_takes; rw [hq]
    rw [hqv]
    clear hqv
    have hv7 := hv.2.2.2.2.2.2 m hm
    have hg := gI_c (show wV w 3 m < 2 ^ 31 by omega)
    have hgl := gI_lt (show wV w 3 m < 2 ^ 30 by omega)
    refine tt_aload_n d_Y_takesOne_0 rfl ?_
    refine tt_iload_n d_Y_takesOne_1 rfl ?_
    refine tt_callV (y_isFish (d := d) h.e.1.2.2.1 ho.n8) cw_Y_isFish rfl rfl (by decide) rfl (by omega) d_Y_takesOne_2 rfl rfl (Nat.le_of_ble_eq_true rfl) (Nat.le_of_ble_eq_true rfl) rfl rfl rfl (fun v σ2 q => ?_)
    obtain ⟨rfl, e9⟩ := q
    rw [e9, X_in_N hm (by omega)]
    clear e9
    refine tn_if_ne (t := 10) (by omega) d_Y_takesOne_5 (by decide) (fun c_5 => ?_) (fun c_5 => ?_)
    · refine tt_aload_n d_Y_takesOne_10 rfl ?_
      refine tt_getR d_Y_takesOne_11 rfl rfl (by decide) rfl rfl ?_
      refine tt_bipush (v := nI 17) d_Y_takesOne_14 (by decide) ?_
      refine tt_iload_n d_Y_takesOne_16 rfl ?_
      refine tn_iadd d_Y_takesOne_17 ?_
      refine tn_iald d_Y_takesOne_18 rfl (by decide) (by omega) ((h.1.2.1.2 _ (by omega)).2.2.1) ?_
      refine tt_if_ge (t := 25) d_Y_takesOne_19 (by decide) (fun c_19 => ?_) (fun c_19 => ?_)
      · rw [if_neg (fun q => fa_nlt2 (hgl.mpr q) c_19)]
        refine tt_aload_n d_Y_takesOne_25 rfl ?_
        refine tt_getR d_Y_takesOne_26 rfl rfl (by decide) rfl rfl ?_
        refine tt_bipush (v := nI 17) d_Y_takesOne_29 (by decide) ?_
        refine tt_iload_n d_Y_takesOne_31 rfl ?_
        refine tn_iadd d_Y_takesOne_32 ?_
        refine tt_iconst (v := (-1)) d_Y_takesOne_33 (by decide) ?_
        refine tn_iast d_Y_takesOne_34 rfl (by decide) (by omega) ?_
        refine tt_aload_n d_Y_takesOne_35 rfl ?_
        refine tt_getR d_Y_takesOne_36 rfl rfl (by decide) rfl rfl ?_
        refine tt_bipush (v := nI 25) d_Y_takesOne_39 (by decide) ?_
        refine tt_iload_n d_Y_takesOne_41 rfl ?_
        refine tn_iadd d_Y_takesOne_42 ?_
        refine tt_iconst (v := (-1)) d_Y_takesOne_43 (by decide) ?_
        refine tn_iast d_Y_takesOne_44 rfl (by decide) (by omega) ?_
        refine tt_aload_n d_Y_takesOne_45 rfl ?_
        refine tt_getR d_Y_takesOne_46 rfl rfl (by decide) rfl rfl ?_
        refine tt_bipush (v := nI 9) d_Y_takesOne_49 (by decide) ?_
        refine tt_iload_n d_Y_takesOne_51 rfl ?_
        refine tn_iadd d_Y_takesOne_52 ?_
        refine tt_iconst (v := nI 0) d_Y_takesOne_53 (by decide) ?_
        refine tt_aload_n d_Y_takesOne_54 rfl ?_
        refine tt_getR d_Y_takesOne_55 rfl rfl (by decide) rfl rfl ?_
        refine tt_bipush (v := nI 9) d_Y_takesOne_58 (by decide) ?_
        refine tt_iload_n d_Y_takesOne_60 rfl ?_
        refine tn_iadd d_Y_takesOne_61 ?_
        refine tn_iald d_Y_takesOne_62 rfl (by decide) (by omega) (show _ = nI (wV w 2 m) from by rw [si_wI, if_neg (by omega), si_wI, if_neg (by omega)]; exact (hw.2.1.2 m hm).2.1) ?_
        refine tt_iconst (v := nI 3) d_Y_takesOne_63 (by decide) ?_
        refine tt_isub d_Y_takesOne_64 ?_
        refine tt_max d_Y_takesOne_65 rfl (Nat.le_of_ble_eq_true rfl) ?_
        refine tt_top (ls3 _ hv7.2.1) ?_
        refine tn_iast d_Y_takesOne_68 rfl (by decide) (by omega) ?_
        refine tt_aload_n d_Y_takesOne_69 rfl ?_
        refine tt_getR d_Y_takesOne_70 rfl rfl (by decide) rfl rfl ?_
        refine tt_bipush (v := nI 9) d_Y_takesOne_73 (by decide) ?_
        refine tt_iload_n d_Y_takesOne_75 rfl ?_
        refine tn_iadd d_Y_takesOne_76 ?_
        refine tn_iald d_Y_takesOne_77 rfl (by decide) (by omega) (show _ = nI (wV w 2 m - 3) from by rw [si_wI, if_pos ⟨rfl, rfl⟩]) ?_
        refine tt_iret rfl d_Y_takesOne_78 ?_
        exact ⟨rfl, hw.now2 (Fq.tr (Fq.tr (Fq.wI rfl) (Fq.wI rfl)) (Fq.wI rfl)) (SY_2 (SY_3 hw.2.1 (by omega) hb8) (by omega) hb8)⟩
      · rw [if_pos (hgl.mp (Int32.not_le.mp c_19))]
        refine tt_bipush (v := (-2)) d_Y_takesOne_22 (by decide) ?_
        refine tt_iret rfl d_Y_takesOne_24 ?_
        have y := hw.same2
        exact ⟨rfl, y⟩
    · exact absurd c_5 (by decide)
  · have hqv : c_takes w n = (-1, wV w) := by unfold c_takes; rw [hq]
    rw [hqv]
    refine tt_aload_n d_Y_takesOne_0 rfl ?_
    refine tt_iload_n d_Y_takesOne_1 rfl ?_
    refine tt_callV (y_isFish (d := d) h.e.1.2.2.1 ho.n8) cw_Y_isFish rfl rfl (by decide) rfl (by omega) d_Y_takesOne_2 rfl rfl (Nat.le_of_ble_eq_true rfl) (Nat.le_of_ble_eq_true rfl) rfl rfl rfl (fun v σ2 q => ?_)
    obtain ⟨rfl, e9⟩ := q
    rw [e9, X_in_none hb]
    clear e9
    refine tn_if_ne (t := 10) (by omega) d_Y_takesOne_5 (by decide) (fun c_5 => ?_) (fun c_5 => ?_)
    · exact absurd rfl c_5
    · refine tt_iconst (v := (-1)) d_Y_takesOne_8 (by decide) ?_
      refine tt_iret rfl d_Y_takesOne_9 ?_
      have y := hw.same2
      exact ⟨rfl, y⟩
set_option maxHeartbeats 4000000 in
theorem y_promises2 {l : xLa} {d c : Nat} {σ : xs} {w : wv} (ho : okQ w) (hw : YW σ c w) {i f n : Int32} : TC l M_Y_promises (d + 10) [.ref 154, .ref 160, .int i, .int f, .int n] σ (fun r τ => r = some (.int (c_prom w i f n).1) ∧ YW τ c (stV w (c_prom w i f n).2) ∧ YF σ τ ∧ si τ 171 = si σ 171 ∧ K17 σ τ) := by
  show T l M_Y_promises (d + 10) 0 _ [] σ _
  refine T_lv (lv2 := [_, _, _, _, _]) rfl ?_
  have h := YQ.rf hw.v
  have hb0 := ho.fb
  have hb8 := ho.n8
  have hv := ho.2.1
  rcases inN_c i (eN (wE w)) with ⟨k, hk, rfl, hq1⟩ | ⟨hq1, hb1⟩
  · rcases inN_c f (eR (wE w) * eC (wE w)) with ⟨g, hg, rfl, hq2⟩ | ⟨hq2, hb2⟩
    · rcases rgN_c n 0 9 with ⟨z, hz1, hz2, hz3, rfl, hq3⟩ | ⟨hq3, hb3⟩
      · have hqv : c_prom w (nI k) (nI g) (nI z) = if eK (wE w) k = 2 then (-3, wV w) else if wV w 2 k = 0 then (-4, wV w) else (nI (pcN (prN (pvV (wV w) k g z) (eN (wE w)))), pvV (wV w) k g z) := by unfold c_prom; rw [hq1, hq2, hq3]
        rw [hqv]
        clear hqv
        have hv7 := hv.2.2.2.2.2.2 k hk
        have hk3 := (ho.1.2.1 k (by omega)).1
        have hvn : okV (wE w) (pvV (wV w) k g z) := ok_4 (ok_3 hv (by omega)) (by omega)
        have hpl := prN_lt (pvV (wV w) k g z) hb8
        refine tt_aload_n d_Y_promises_0 rfl ?_
        refine tt_iload_n d_Y_promises_1 rfl ?_
        refine tt_callV (y_isFish (d := d) h.e.1.2.2.1 ho.n8) cw_Y_isFish rfl rfl (by decide) rfl (by omega) d_Y_promises_2 rfl rfl (Nat.le_of_ble_eq_true rfl) (Nat.le_of_ble_eq_true rfl) rfl rfl rfl (fun v σ2 q => ?_)
        obtain ⟨rfl, e9⟩ := q
        rw [e9, X_in_N hk (by omega)]
        clear e9
        refine tn_if_eq (t := 29) (by omega) d_Y_promises_5 (by decide) (fun c_5 => ?_) (fun c_5 => ?_)
        · exact absurd c_5 (by decide)
        · refine tt_aload_n d_Y_promises_8 rfl ?_
          refine tt_iload_n d_Y_promises_9 rfl ?_
          refine tt_callV (y_isField (d := d) h.e.1.1 h.e.1.2.1 ho.1.1.2.1 ho.1.1.2.2.2.1 ho.cp) cw_Y_isField rfl rfl (by decide) rfl (by omega) d_Y_promises_10 rfl rfl (Nat.le_of_ble_eq_true rfl) (Nat.le_of_ble_eq_true rfl) rfl rfl rfl (fun v σ2 q => ?_)
          obtain ⟨rfl, e9⟩ := q
          rw [e9, X_in_N hg (by omega)]
          clear e9
          refine tn_if_eq (t := 29) (by omega) d_Y_promises_13 (by decide) (fun c_13 => ?_) (fun c_13 => ?_)
          · exact absurd c_13 (by decide)
          · refine tt_iload d_Y_promises_16 rfl ?_
            refine tt_i2l d_Y_promises_18 ?_
            refine tt_lconst (v := 0) d_Y_promises_19 (by decide) ?_
            refine tt_ldc2_w d_Y_promises_20 rfl ?_
            refine tt_callS (y_in (d := d)) cw_Y_in rfl (by omega) d_Y_promises_23 rfl rfl (Nat.le_of_ble_eq_true rfl) (Nat.le_of_ble_eq_true rfl) rfl rfl rfl (fun v σ2 q => ?_)
            obtain ⟨rfl, e9⟩ := q
            rw [e9, show Yin (nI z).toInt64 0 9 = nI 1 from Yin_t (a := 0) (b := 9) rfl rfl (by omega) (by omega) (by decide)]
            clear e9
            refine tn_if_ne (t := 31) (by omega) d_Y_promises_26 (by decide) (fun c_26 => ?_) (fun c_26 => ?_)
            · refine tt_aload_n d_Y_promises_31 rfl ?_
              refine tt_getR d_Y_promises_32 rfl rfl (by decide) rfl rfl ?_
              refine tt_iload_n d_Y_promises_35 rfl ?_
              refine tn_iald d_Y_promises_36 rfl (by decide) (by omega) ((h.e.2.1 _ (by omega)).1) ?_
              refine tt_iconst (v := nI 2) d_Y_promises_37 (by decide) ?_
              refine tn_ic_ne (t := 44) (by omega) (by omega) d_Y_promises_38 (by decide) (fun c_38 => ?_) (fun c_38 => ?_)
              · rw [if_neg (by omega)]
                refine tt_aload_n d_Y_promises_44 rfl ?_
                refine tt_bipush (v := nI 9) d_Y_promises_45 (by decide) ?_
                refine tt_iload_n d_Y_promises_47 rfl ?_
                refine tn_iadd d_Y_promises_48 ?_
                refine tn_iald d_Y_promises_49 rfl (by decide) (by omega) ((h.1.2.1.2 _ (by omega)).2.1) ?_
                refine tn_if_ne (t := 56) (by omega) d_Y_promises_50 (by decide) (fun c_50 => ?_) (fun c_50 => ?_)
                · rw [if_neg (by omega)]
                  refine tt_aload_n d_Y_promises_56 rfl ?_
                  refine tt_bipush (v := nI 17) d_Y_promises_57 (by decide) ?_
                  refine tt_iload_n d_Y_promises_59 rfl ?_
                  refine tn_iadd d_Y_promises_60 ?_
                  refine tt_iload_n d_Y_promises_61 rfl ?_
                  refine tn_iast d_Y_promises_62 rfl (by decide) (by omega) ?_
                  refine tt_aload_n d_Y_promises_63 rfl ?_
                  refine tt_bipush (v := nI 25) d_Y_promises_64 (by decide) ?_
                  refine tt_iload_n d_Y_promises_66 rfl ?_
                  refine tn_iadd d_Y_promises_67 ?_
                  refine tt_iload d_Y_promises_68 rfl ?_
                  refine tn_iast d_Y_promises_70 rfl (by decide) (by omega) ?_
                  refine tt_aload_n d_Y_promises_71 rfl ?_
                  refine tt_aload_n d_Y_promises_72 rfl ?_
                  refine tt_callV (y_promN (d := d) isY_160 ho.1 hvn hw.1.1.1.2.2.1 (SY_34 hw.2.1 (by omega) hb8)) cw_Y_promised rfl rfl (by decide) rfl (by omega) d_Y_promises_73 rfl rfl (Nat.le_of_ble_eq_true rfl) (Nat.le_of_ble_eq_true rfl) rfl rfl rfl (fun v σ2 q => ?_)
                  obtain ⟨rfl, e9⟩ := q
                  rw [e9]
                  clear e9
                  refine tt_callS (x_bitN (d := d) hpl) cw_Integer_bitCount rfl (by omega) d_Y_promises_76 rfl rfl (Nat.le_of_ble_eq_true rfl) (Nat.le_of_ble_eq_true rfl) rfl rfl rfl (fun v σ2 q => ?_)
                  obtain ⟨rfl, e9⟩ := q
                  rw [e9]
                  clear e9
                  refine tt_iret rfl d_Y_promises_79 ?_
                  exact ⟨rfl, hw.now2 (Fq.tr (Fq.wI rfl) (Fq.wI rfl)) (SY_34 hw.2.1 (by omega) hb8)⟩
                · rw [if_pos (by omega)]
                  refine tt_bipush (v := (-4)) d_Y_promises_53 (by decide) ?_
                  refine tt_iret rfl d_Y_promises_55 ?_
                  have y := hw.same2
                  exact ⟨rfl, y⟩
              · rw [if_pos (by omega)]
                refine tt_bipush (v := (-3)) d_Y_promises_41 (by decide) ?_
                refine tt_iret rfl d_Y_promises_43 ?_
                have y := hw.same2
                exact ⟨rfl, y⟩
            · exact absurd c_26 (by decide)
      · have hqv : c_prom w (nI k) (nI g) n = (-1, wV w) := by unfold c_prom; rw [hq1, hq2, hq3]
        rw [hqv]
        refine tt_aload_n d_Y_promises_0 rfl ?_
        refine tt_iload_n d_Y_promises_1 rfl ?_
        refine tt_callV (y_isFish (d := d) h.e.1.2.2.1 ho.n8) cw_Y_isFish rfl rfl (by decide) rfl (by omega) d_Y_promises_2 rfl rfl (Nat.le_of_ble_eq_true rfl) (Nat.le_of_ble_eq_true rfl) rfl rfl rfl (fun v σ2 q => ?_)
        obtain ⟨rfl, e9⟩ := q
        rw [e9, X_in_N hk (by omega)]
        clear e9
        refine tn_if_eq (t := 29) (by omega) d_Y_promises_5 (by decide) (fun c_5 => ?_) (fun c_5 => ?_)
        · exact absurd c_5 (by decide)
        · refine tt_aload_n d_Y_promises_8 rfl ?_
          refine tt_iload_n d_Y_promises_9 rfl ?_
          refine tt_callV (y_isField (d := d) h.e.1.1 h.e.1.2.1 ho.1.1.2.1 ho.1.1.2.2.2.1 ho.cp) cw_Y_isField rfl rfl (by decide) rfl (by omega) d_Y_promises_10 rfl rfl (Nat.le_of_ble_eq_true rfl) (Nat.le_of_ble_eq_true rfl) rfl rfl rfl (fun v σ2 q => ?_)
          obtain ⟨rfl, e9⟩ := q
          rw [e9, X_in_N hg (by omega)]
          clear e9
          refine tn_if_eq (t := 29) (by omega) d_Y_promises_13 (by decide) (fun c_13 => ?_) (fun c_13 => ?_)
          · exact absurd c_13 (by decide)
          · refine tt_iload d_Y_promises_16 rfl ?_
            refine tt_i2l d_Y_promises_18 ?_
            refine tt_lconst (v := 0) d_Y_promises_19 (by decide) ?_
            refine tt_ldc2_w d_Y_promises_20 rfl ?_
            refine tt_callS (y_in (d := d)) cw_Y_in rfl (by omega) d_Y_promises_23 rfl rfl (Nat.le_of_ble_eq_true rfl) (Nat.le_of_ble_eq_true rfl) rfl rfl rfl (fun v σ2 q => ?_)
            obtain ⟨rfl, e9⟩ := q
            rw [e9, show Yin n.toInt64 0 9 = nI 0 from Yin_f (a := 0) (b := 9) rfl rfl (by decide) (by decide) hb3]
            clear e9
            refine tn_if_ne (t := 31) (by omega) d_Y_promises_26 (by decide) (fun c_26 => ?_) (fun c_26 => ?_)
            · exact absurd rfl c_26
            · refine tt_iconst (v := (-1)) d_Y_promises_29 (by decide) ?_
              refine tt_iret rfl d_Y_promises_30 ?_
              have y := hw.same2
              exact ⟨rfl, y⟩
    · have hqv : c_prom w (nI k) f n = (-1, wV w) := by unfold c_prom; rw [hq1, hq2]
      rw [hqv]
      refine tt_aload_n d_Y_promises_0 rfl ?_
      refine tt_iload_n d_Y_promises_1 rfl ?_
      refine tt_callV (y_isFish (d := d) h.e.1.2.2.1 ho.n8) cw_Y_isFish rfl rfl (by decide) rfl (by omega) d_Y_promises_2 rfl rfl (Nat.le_of_ble_eq_true rfl) (Nat.le_of_ble_eq_true rfl) rfl rfl rfl (fun v σ2 q => ?_)
      obtain ⟨rfl, e9⟩ := q
      rw [e9, X_in_N hk (by omega)]
      clear e9
      refine tn_if_eq (t := 29) (by omega) d_Y_promises_5 (by decide) (fun c_5 => ?_) (fun c_5 => ?_)
      · exact absurd c_5 (by decide)
      · refine tt_aload_n d_Y_promises_8 rfl ?_
        refine tt_iload_n d_Y_promises_9 rfl ?_
        refine tt_callV (y_isField (d := d) h.e.1.1 h.e.1.2.1 ho.1.1.2.1 ho.1.1.2.2.2.1 ho.cp) cw_Y_isField rfl rfl (by decide) rfl (by omega) d_Y_promises_10 rfl rfl (Nat.le_of_ble_eq_true rfl) (Nat.le_of_ble_eq_true rfl) rfl rfl rfl (fun v σ2 q => ?_)
        obtain ⟨rfl, e9⟩ := q
        rw [e9, X_in_none hb2]
        clear e9
        refine tn_if_eq (t := 29) (by omega) d_Y_promises_13 (by decide) (fun c_13 => ?_) (fun c_13 => ?_)
        · refine tt_iconst (v := (-1)) d_Y_promises_29 (by decide) ?_
          refine tt_iret rfl d_Y_promises_30 ?_
          have y := hw.same2
          exact ⟨rfl, y⟩
        · exact absurd rfl c_13
  · have hqv : c_prom w i f n = (-1, wV w) := by unfold c_prom; rw [hq1]
    rw [hqv]
    refine tt_aload_n d_Y_promises_0 rfl ?_
    refine tt_iload_n d_Y_promises_1 rfl ?_
    refine tt_callV (y_isFish (d := d) h.e.1.2.2.1 ho.n8) cw_Y_isFish rfl rfl (by decide) rfl (by omega) d_Y_promises_2 rfl rfl (Nat.le_of_ble_eq_true rfl) (Nat.le_of_ble_eq_true rfl) rfl rfl rfl (fun v σ2 q => ?_)
    obtain ⟨rfl, e9⟩ := q
    rw [e9, X_in_none hb1]
    clear e9
    refine tn_if_eq (t := 29) (by omega) d_Y_promises_5 (by decide) (fun c_5 => ?_) (fun c_5 => ?_)
    · refine tt_iconst (v := (-1)) d_Y_promises_29 (by decide) ?_
      refine tt_iret rfl d_Y_promises_30 ?_
      have y := hw.same2
      exact ⟨rfl, y⟩
    · exact absurd rfl c_5
theorem y_hr160 {l : xLa} {d c : Nat} {σ : xs} {w : wv} (ho : okQ w) (hw : YW σ c w) : TC l M_Y_hourGoes (d + 10) [.ref 154, .ref 160] σ (fun r τ => r = none ∧ YW τ c (stV w (hrV (wE w) (wV w))) ∧ YF σ τ ∧ si τ 171 = si σ 171 ∧ K17 σ τ) := by
  have hh := ho.2.2
  obtain ⟨u, h5, hT⟩ := TY_any σ (wV w)
  refine T.mono (y_hourGoes (d := d) (σ := σ) isY_160 ho.1 (h5.sy.ok ho.2.1) hw.1.1 (hw.2.1.e5 h5.sy) hw.1.2 hT (by rw [h5 0 4 (by decide)]; omega)) ?_
  rintro r υ ⟨rfl, h1, h2, h3⟩
  have z := hw.putV (h3.mono (fun c hc => by unfold HA at hc; unfold yA YqA; omega) (fun c k hc => by unfold HF at hc; unfold yF YqF; omega) (fun _ q => q.elim)) (h1.e5 (h5.hr _)) (hw.2.2.2.1.fq h3 (fun q => q) (by unfold HF; omega)) (hw.2.2.2.2.1.fq h3 (by unfold HA; omega) (by unfold HF; omega))
  exact ⟨rfl, z.1, z.2, h3.1 171 (by unfold HA; omega), fun c q1 q2 => h3.1 c (by unfold HA; omega), h3.2.1 154 40 (by unfold HF; omega)⟩
theorem YW.e5 {τ : xs} {c : Nat} {w : wv} {u v : sv} (h : YW τ c (stV w u)) (he : e5 u v) : YW τ c (stV w v) := ⟨h.1, h.2.1.e5 he, h.2.2⟩
/-- what the reference has of act j, that is at place q of a text -/
def AJ (τ : xs) (x : Nat × (Nat → Nat)) (j q : Nat) : Prop := si τ 172 j = nI (akN x q - 1) ∧ si τ 173 j = nI (dgN x (q + 1) - 1) ∧ (akN x q = 5 → si τ 174 j = nI (dgN x (q + 2) - 1) ∧ si τ 175 j = nI (dgN x (q + 3) - 1) ∧ si τ 176 j = nI (dgN x (q + 4) - 1))
theorem AJ.k {τ υ : xs} {x : Nat × (Nat → Nat)} {j q : Nat} (h : AJ τ x j q) (hk : K17 τ υ) : AJ υ x j q := by
  unfold AJ
  rw [hk.1 172 (by omega) (by omega), hk.1 173 (by omega) (by omega), hk.1 174 (by omega) (by omega), hk.1 175 (by omega) (by omega), hk.1 176 (by omega) (by omega)]
  exact h
/-- done or refused -/
def acB (a : Int32) : Nat := if a < 0 then 0 else 1
set_option maxHeartbeats 4000000 in
theorem y_does_h {l : xLa} {d c : Nat} {σ : xs} {w : wv} {n : Nat} {z : Int32} (ho : okQ w) (hh : wV w 0 4 + 100 < 2 ^ 29) (hn : n ≤ 9) : ∀ (m j : Nat) (τ : xs), n - j = m → j ≤ n → YW τ c (stV w (hrsV (wE w) (wV w) j)) → YF σ τ → si τ 171 = si σ 171 → K17 σ τ → T l M_Y_does (d + 30) 46 [some (.ref 154), some (.int z), some (.int (nI n)), some (.int (nI j))] [] τ (fun r υ => r = some (.int (nI 1)) ∧ YW υ c (stV w (hrsV (wE w) (wV w) n)) ∧ YF σ υ ∧ si υ 171 = si σ 171 ∧ K17 σ υ) := by
  intro m
  induction m using Nat.strongRecOn with
  | ind m ih =>
    intro j τ hm hj hw hF h1 h2
    have hv := ok_hrs ho.1 ho.2.1 j (by omega)
    have hok : okQ (stV w (hrsV (wE w) (wV w) j)) := ⟨ho.1, hv.1, by show (hrsV (wE w) (wV w) j) 0 4 < _; omega⟩
    refine tt_iload_n d_Y_does_46 rfl ?_
    refine tt_iload_n d_Y_does_47 rfl ?_
    refine tn_ic_ge (t := 65) (by omega) (by omega) d_Y_does_48 (by decide) (fun c_48 => ?_) (fun c_48 => ?_)
    · obtain rfl : j = n := by omega
      refine tt_iconst (v := nI 1) d_Y_does_65 (by decide) ?_
      refine tt_zret rfl rfl d_Y_does_66 ?_
      exact ⟨rfl, hw, hF, h1, h2⟩
    · refine tt_aload_n d_Y_does_51 rfl ?_
      refine tt_aload_n d_Y_does_52 rfl ?_
      refine tt_getR d_Y_does_53 rfl rfl (by decide) rfl rfl ?_
      refine tt_callV (y_hr160 (d := d) hok hw) cw_Y_hourGoes rfl rfl (by decide) rfl (by omega) d_Y_does_56 rfl rfl (Nat.le_of_ble_eq_true rfl) (Nat.le_of_ble_eq_true rfl) rfl rfl rfl (fun v σ2 q => ?_)
      obtain ⟨rfl, k1, k2, k3, k4⟩ := q
      refine tt_iinc (lv2 := [_, _, _, _]) d_Y_does_59 rfl (nI_inc _ 1) (by decide) rfl ?_
      refine tt_goto (t := 46) d_Y_does_62 (by decide) ?_
      exact ih (n - (j + 1)) (by omega) (j + 1) _ rfl (by omega) k1 (hF.tr k2) (k3.trans h1) (h2.tr k4)

set_option maxHeartbeats 4000000 in
theorem y_does {l : xLa} {d c : Nat} {σ : xs} {w : wv} {x : Nat × (Nat → Nat)} {j q : Nat} (ho : okQ w) (hh : wV w 0 4 + 100 < 2 ^ 29) (hw : YW σ c w) (hj : j < 60) (hG : acG x q) (hA : AJ σ x j q) : TC l M_Y_does (d + 30) [.ref 154, .int (nI j)] σ (fun r τ => r = some (.int (nI (acB (acC w x q).1))) ∧ YW τ c (stV w (acC w x q).2) ∧ YF σ τ ∧ si τ 171 = si σ 171 ∧ K17 σ τ) := by
  have d1 := (dg_le (x := x) (j := q + 1)).1
  have d2 := (dg_le (x := x) (j := q + 2)).1
  have d3 := (dg_le (x := x) (j := q + 3)).1
  have d4 := (dg_le (x := x) (j := q + 4)).1
  have hR6 := ho.1.1.2.1
  have hC6 := ho.1.1.2.2.2.1
  have hk0 := hG.1
  have hb0 := ho.fb
  show T l M_Y_does (d + 30) 0 _ [] σ _
  refine T_lv (lv2 := [_, _, _, _]) rfl ?_
  refine tt_aload_n d_Y_does_0 rfl ?_
  refine tt_getR d_Y_does_1 rfl rfl (by decide) rfl rfl ?_
  refine tt_iload_n d_Y_does_4 rfl ?_
  refine tn_iald d_Y_does_5 rfl (by decide) (by omega) (show _ = nI (dgN x (q + 1) - 1) from hA.2.1) ?_
  refine tt_istore_n (lv2 := [_, _, _, _]) d_Y_does_6 (by decide) rfl ?_
  refine tt_aload_n d_Y_does_7 rfl ?_
  refine tt_getR d_Y_does_8 rfl rfl (by decide) rfl rfl ?_
  refine tt_iload_n d_Y_does_11 rfl ?_
  refine tn_iald d_Y_does_12 rfl (by decide) (by omega) (show _ = nI (akN x q - 1) from hA.1) ?_
  have hkl := ac_le (atN x q)
  rw [show acN (atN x q) = akN x q from rfl] at hkl
  rcases (show akN x q = 1 ∨ akN x q = 2 ∨ akN x q = 3 ∨ akN x q = 4 ∨ akN x q = 5 by omega) with hk | hk | hk | hk | hk
  · rw [show akN x q - 1 = 0 by omega, acC_1 hk]
    refine tt_tab (t := 44) d_Y_does_13 rfl ?_
    refine tt_iconst (v := nI 0) d_Y_does_44 (by decide) ?_
    refine tt_istore_n (lv2 := [_, _, _, _]) d_Y_does_45 (by decide) rfl ?_
    have hvb : okV (wE w) (hvV w (dgN x (q + 1) - 1)) := ok_hv ho (by omega)
    refine T.mono (y_does_h ho hh (by omega) (dgN x (q + 1) - 1) 0 _ rfl (by omega) hw YF.rf rfl K17.rf) ?_
    rintro r υ ⟨rfl, k1, k2, k3, k4⟩
    have hbn := nI_m1 (b := hvV w (dgN x (q + 1) - 1) 0 0) (by have := hvb.1; omega)
    exact ⟨by rw [show acB (nI (hvV w (dgN x (q + 1) - 1) 0 0)) = 1 from if_neg hbn.2], k1.e5 (hrs_z _ _ _).sy, k2, k3, k4⟩
  · rw [show akN x q - 1 = 1 by omega, acC_2 hk]
    refine tt_tab (t := 67) d_Y_does_13 rfl ?_
    refine tt_aload_n d_Y_does_67 rfl ?_
    refine tt_iload_n d_Y_does_68 rfl ?_
    refine tt_callV (y_takesOne2 (d := d) ho hw) cw_Y_takesOne rfl rfl (by decide) rfl (by omega) d_Y_does_69 rfl rfl (Nat.le_of_ble_eq_true rfl) (Nat.le_of_ble_eq_true rfl) rfl rfl rfl (fun v σ2 q => ?_)
    obtain ⟨rfl, k1, k2, k3, k4⟩ := q
    refine tt_if_lt (t := 79) d_Y_does_72 (by decide) (fun c_72 => ?_) (fun c_72 => ?_)
    · have hb : acB (c_takes w (nI (dgN x (q + 1) - 1))).1 = 0 := if_pos c_72
      refine tt_iconst (v := nI 0) d_Y_does_79 (by decide) ?_
      refine tt_zret rfl rfl d_Y_does_80 ?_
      rw [hb]
      exact ⟨rfl, k1, k2, k3, k4⟩
    · have hb : acB (c_takes w (nI (dgN x (q + 1) - 1))).1 = 1 := if_neg c_72
      refine tt_iconst (v := nI 1) d_Y_does_75 (by decide) ?_
      refine tt_goto (t := 80) d_Y_does_76 (by decide) ?_
      refine tt_zret rfl rfl d_Y_does_80 ?_
      rw [hb]
      exact ⟨rfl, k1, k2, k3, k4⟩
  · rw [show akN x q - 1 = 2 by omega, acC_3 hk]
    refine tt_tab (t := 81) d_Y_does_13 rfl ?_
    refine tt_aload_n d_Y_does_81 rfl ?_
    refine tt_aload_n d_Y_does_82 rfl ?_
    refine tt_getR d_Y_does_83 rfl rfl (by decide) rfl rfl ?_
    refine tt_iload_n d_Y_does_86 rfl ?_
    refine tt_callV (y_lets2 (d := d) ho hw) cw_Y_letsOne rfl rfl (by decide) rfl (by omega) d_Y_does_87 rfl rfl (Nat.le_of_ble_eq_true rfl) (Nat.le_of_ble_eq_true rfl) rfl rfl rfl (fun v σ2 q => ?_)
    obtain ⟨rfl, k1, k2, k3, k4⟩ := q
    refine tt_if_lt (t := 97) d_Y_does_90 (by decide) (fun c_90 => ?_) (fun c_90 => ?_)
    · have hb : acB (c_lets w (nI (dgN x (q + 1) - 1))).1 = 0 := if_pos c_90
      refine tt_iconst (v := nI 0) d_Y_does_97 (by decide) ?_
      refine tt_zret rfl rfl d_Y_does_98 ?_
      rw [hb]
      exact ⟨rfl, k1, k2, k3, k4⟩
    · have hb : acB (c_lets w (nI (dgN x (q + 1) - 1))).1 = 1 := if_neg c_90
      refine tt_iconst (v := nI 1) d_Y_does_93 (by decide) ?_
      refine tt_goto (t := 98) d_Y_does_94 (by decide) ?_
      refine tt_zret rfl rfl d_Y_does_98 ?_
      rw [hb]
      exact ⟨rfl, k1, k2, k3, k4⟩
  · rw [show akN x q - 1 = 3 by omega, acC_4 hk]
    refine tt_tab (t := 99) d_Y_does_13 rfl ?_
    refine tt_aload_n d_Y_does_99 rfl ?_
    refine tt_iload_n d_Y_does_100 rfl ?_
    refine tt_callV (y_buysSome2 (d := d) ho hw) cw_Y_buysSome rfl rfl (by decide) rfl (by omega) d_Y_does_101 rfl rfl (Nat.le_of_ble_eq_true rfl) (Nat.le_of_ble_eq_true rfl) rfl rfl rfl (fun v σ2 q => ?_)
    obtain ⟨rfl, k1, k2, k3, k4⟩ := q
    refine tt_if_lt (t := 111) d_Y_does_104 (by decide) (fun c_104 => ?_) (fun c_104 => ?_)
    · have hb : acB (c_buys w (nI (dgN x (q + 1) - 1))).1 = 0 := if_pos c_104
      refine tt_iconst (v := nI 0) d_Y_does_111 (by decide) ?_
      refine tt_zret rfl rfl d_Y_does_112 ?_
      rw [hb]
      exact ⟨rfl, k1, k2, k3, k4⟩
    · have hb : acB (c_buys w (nI (dgN x (q + 1) - 1))).1 = 1 := if_neg c_104
      refine tt_iconst (v := nI 1) d_Y_does_107 (by decide) ?_
      refine tt_goto (t := 112) d_Y_does_108 (by decide) ?_
      refine tt_zret rfl rfl d_Y_does_112 ?_
      rw [hb]
      exact ⟨rfl, k1, k2, k3, k4⟩
  · rw [show akN x q - 1 = 4 by omega, acC_5 hk]
    refine tt_tab (t := 113) d_Y_does_13 (s_tab_d (by decide) rfl) ?_
    refine tt_aload_n d_Y_does_113 rfl ?_
    refine tt_getR d_Y_does_114 rfl rfl (by decide) rfl rfl ?_
    refine tt_iload_n d_Y_does_117 rfl ?_
    obtain ⟨g2, g3, g4⟩ := hG.2.2 hk
    obtain ⟨a2, a3, a4⟩ := hA.2.2 hk
    refine tn_iald d_Y_does_118 rfl (by decide) (by omega) a2 ?_
    refine tt_aload_n d_Y_does_119 rfl ?_
    refine tn_get d_Y_does_120 rfl rfl (by decide) rfl hw.1.1.1.1 ?_
    refine tn_ic_ge (t := 143) (by omega) (by omega) d_Y_does_123 (by decide) (fun c_123 => ?_) (fun c_123 => ?_)
    · have hP : acP w x q = (-1, wV w) := if_neg (by omega)
      refine tt_iconst (v := nI 0) d_Y_does_143 (by decide) ?_
      refine tt_istore_n (lv2 := [_, _, _, _]) d_Y_does_144 (by decide) rfl ?_
      refine tt_iload_n d_Y_does_145 rfl ?_
      refine tn_if_eq (t := 189) (by omega) d_Y_does_146 (by decide) (fun c_146 => ?_) (fun c_146 => ?_)
      · refine tt_iconst (v := nI 0) d_Y_does_189 (by decide) ?_
        refine tt_zret rfl rfl d_Y_does_190 ?_
        rw [hP]
        have y := hw.same2
        exact ⟨rfl, y⟩
      · omega
    · refine tt_aload_n d_Y_does_126 rfl ?_
      refine tt_getR d_Y_does_127 rfl rfl (by decide) rfl rfl ?_
      refine tt_iload_n d_Y_does_130 rfl ?_
      refine tn_iald d_Y_does_131 rfl (by decide) (by omega) a3 ?_
      refine tt_aload_n d_Y_does_132 rfl ?_
      refine tn_get d_Y_does_133 rfl rfl (by decide) rfl hw.1.1.1.2.1 ?_
      refine tn_ic_ge (t := 143) (by omega) (by omega) d_Y_does_136 (by decide) (fun c_136 => ?_) (fun c_136 => ?_)
      · have hP : acP w x q = (-1, wV w) := if_neg (by omega)
        refine tt_iconst (v := nI 0) d_Y_does_143 (by decide) ?_
        refine tt_istore_n (lv2 := [_, _, _, _]) d_Y_does_144 (by decide) rfl ?_
        refine tt_iload_n d_Y_does_145 rfl ?_
        refine tn_if_eq (t := 189) (by omega) d_Y_does_146 (by decide) (fun c_146 => ?_) (fun c_146 => ?_)
        · refine tt_iconst (v := nI 0) d_Y_does_189 (by decide) ?_
          refine tt_zret rfl rfl d_Y_does_190 ?_
          rw [hP]
          have y := hw.same2
          exact ⟨rfl, y⟩
        · omega
      · have hP : acP w x q = _ := if_pos (show dgN x (q + 2) ≤ eR (wE w) ∧ dgN x (q + 3) ≤ eC (wE w) by omega)
        refine tt_iconst (v := nI 1) d_Y_does_139 (by decide) ?_
        refine tt_goto (t := 144) d_Y_does_140 (by decide) ?_
        refine tt_istore_n (lv2 := [_, _, _, _]) d_Y_does_144 (by decide) rfl ?_
        refine tt_iload_n d_Y_does_145 rfl ?_
        refine tn_if_eq (t := 189) (by omega) d_Y_does_146 (by decide) (fun c_146 => ?_) (fun c_146 => ?_)
        · omega
        · refine tt_aload_n d_Y_does_149 rfl ?_
          refine tt_aload_n d_Y_does_150 rfl ?_
          refine tt_getR d_Y_does_151 rfl rfl (by decide) rfl rfl ?_
          refine tt_iload_n d_Y_does_154 rfl ?_
          refine tt_aload_n d_Y_does_155 rfl ?_
          refine tn_get d_Y_does_156 rfl rfl (by decide) rfl hw.1.1.1.2.1 ?_
          refine tt_aload_n d_Y_does_159 rfl ?_
          refine tt_getR d_Y_does_160 rfl rfl (by decide) rfl rfl ?_
          refine tt_iload_n d_Y_does_163 rfl ?_
          refine tn_iald d_Y_does_164 rfl (by decide) (by omega) a2 ?_
          refine tn_imul d_Y_does_165 ?_
          refine tt_aload_n d_Y_does_166 rfl ?_
          refine tt_getR d_Y_does_167 rfl rfl (by decide) rfl rfl ?_
          refine tt_iload_n d_Y_does_170 rfl ?_
          refine tn_iald d_Y_does_171 rfl (by decide) (by omega) a3 ?_
          refine tn_iadd d_Y_does_172 ?_
          rw [Nat.mul_comm (eC (wE w))]
          refine tt_aload_n d_Y_does_173 rfl ?_
          refine tt_getR d_Y_does_174 rfl rfl (by decide) rfl rfl ?_
          refine tt_iload_n d_Y_does_177 rfl ?_
          refine tn_iald d_Y_does_178 rfl (by decide) (by omega) a4 ?_
          refine tt_callV (y_promises2 (d := d) ho hw) cw_Y_promises rfl rfl (by decide) rfl (by omega) d_Y_does_179 rfl rfl (Nat.le_of_ble_eq_true rfl) (Nat.le_of_ble_eq_true rfl) rfl rfl rfl (fun v σ2 q => ?_)
          rw [← hP] at q
          obtain ⟨rfl, k1, k2, k3, k4⟩ := q
          refine tt_if_lt (t := 189) d_Y_does_182 (by decide) (fun c_182 => ?_) (fun c_182 => ?_)
          · have hb : acB (acP w x q).1 = 0 := if_pos c_182
            refine tt_iconst (v := nI 0) d_Y_does_189 (by decide) ?_
            refine tt_zret rfl rfl d_Y_does_190 ?_
            rw [hb]
            exact ⟨rfl, k1, k2, k3, k4⟩
          · have hb : acB (acP w x q).1 = 1 := if_neg c_182
            refine tt_iconst (v := nI 1) d_Y_does_185 (by decide) ?_
            refine tt_goto (t := 190) d_Y_does_186 (by decide) ?_
            refine tt_zret rfl rfl d_Y_does_190 ?_
            rw [hb]
            exact ⟨rfl, k1, k2, k3, k4⟩

