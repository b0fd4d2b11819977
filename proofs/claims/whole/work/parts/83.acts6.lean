/-! Acts: buys, letsGo. Printed by wip/whole. -/
def K25 (σ τ : xs) : Prop := ∀ u, ST σ 25 u → ST τ 25 u
def a_act (w : wv) (c : Int32 × sv) : Int32 × wv := (c.1, if c.1 < 0 then stV w c.2 else stU (stV w c.2) (wV w))
section
variable {σ τ : xs} {w : wv} {c : Nat} {v : sv}
theorem XW.now (h : XW σ w) (hf : Fq (fun c => 21 ≤ c ∧ c ≤ 24) (fun c k => c = 20) (fun _ => False) σ τ) (hv : ST τ 20 v) : XW τ (stV w v) ∧ XF σ τ ∧ K25 σ τ := by
  have z := h.putN (hf.mono (fun c hc => by omega) (fun c k hc => by unfold wF_; omega) (fun _ q => q.elim)) hv (h.2.2.2.1.fq hf id (by omega)) (h.2.2.2.2.1.fq hf (fun c h1 h2 => by omega) (fun c k h1 h2 => by omega))
  exact ⟨z.1, z.2, fun u hu => hu.fq hf (fun k hk => by omega) (fun k hk => by omega)⟩
theorem XW.same (h : XW σ w) : XW σ (stV w (wV w)) ∧ XF σ σ ∧ K25 σ σ := ⟨h, XF.rf, fun _ hu => hu⟩
theorem YW.now (h : YW σ c w) (hf : Fq (fun c => c = 160) (fun _ _ => False) (fun _ => False) σ τ) (hv : SY τ 160 (eN (wE w)) v) : YW τ c (stV w v) ∧ YF σ τ ∧ si τ 171 = si σ 171 := by
  have z := h.putV (hf.mono (fun c hc => by unfold yA; omega) (fun _ _ q => q.elim) (fun _ q => q.elim)) hv (h.2.2.2.1.fq hf id id) (h.2.2.2.2.1.fq hf (by omega) id)
  exact ⟨z.1, z.2, hf.1 171 (by omega)⟩
theorem YW.same (h : YW σ c w) : YW σ c (stV w (wV w)) ∧ YF σ σ ∧ si σ 171 = si σ 171 := ⟨h, YF.rf, rfl⟩
theorem x_before {l : xLa} {d : Nat} (hw : XW σ w) : TC l M_State_copy (d + 1) [.ref 25, .ref 20] σ (fun r τ => r = none ∧ XW τ w ∧ XF σ τ ∧ ST τ 25 (wV w)) := by
  refine T.mono (x_State_copy (d := d) (σ := σ) isS_25 isS_20) ?_
  rintro r υ ⟨rfl, rfl⟩
  have f1 : Fq (fun c => 26 ≤ c ∧ c ≤ 29) (fun c k => c = 25) (fun _ => False) σ (X_copy σ 25 20) := Fq_copy isS_25 isS_20 (fun c hc => hc) (fun k hk => rfl)
  have z := hw.putN (f1.mono (fun c hc => by omega) (fun c k hc => by unfold wF_; omega) (fun _ q => q.elim)) (hw.2.1.fq f1 (fun k hk => by omega) (fun k hk => by omega)) (hw.2.2.2.1.fq f1 id (by omega)) (hw.2.2.2.2.1.fq f1 (fun c h1 h2 => by omega) (fun c k h1 h2 => by omega))
  exact ⟨rfl, z.1, z.2, ST_copy isS_25 isS_20 hw.2.1⟩
end
def c_buys (w : wv) (n : Int32) : Int32 × sv := match rgN n 1 99 with
  | none => (-1, wV w)
  | some m => if wV w 0 1 + m ≤ 99 then (nI (wV w 0 1 + m), upv (wV w) 0 1 (wV w 0 1 + m)) else (-3, wV w)
def c_lets (w : wv) (n : Int32) : Int32 × sv := match inN n (eN (wE w)) with
  | none => (-1, wV w)
  | some k => (nI (pcN (wV w 0 5 ^^^ 2 ^ k)), upv (wV w) 0 5 (wV w 0 5 ^^^ 2 ^ k))
theorem hx_lt {a k : Nat} (h : a < 256) (hk : k < 8) : a ^^^ 2 ^ k < 256 := Nat.xor_lt_two_pow (n := 8) h (Nat.pow_lt_pow_right (by decide) hk)
set_option maxHeartbeats 4000000 in
theorem x_addCrumbs {l : xLa} {d : Nat} {σ : xs} {w : wv} (ho : okQ w) (hw : XW σ w) {n : Int32} : TC l M_X_addCrumbs (d + 10) [.ref 0, .int n] σ (fun r τ => r = some (.int (c_buys w n).1) ∧ XW τ (stV w (c_buys w n).2) ∧ XF σ τ ∧ K25 σ τ) := by
  show T l M_X_addCrumbs (d + 10) 0 _ [] σ _
  refine T_lv (lv2 := [_, _]) rfl ?_
  have h := XQ.rf hw.v
  have hb0 := ho.fb
  have hb8 := ho.n8
  have hv := ho.2.1
  rcases rgN_c n 1 99 with ⟨m, hm1, hm2, hm3, rfl, hq⟩ | ⟨hq, hb⟩
  · have hqv : c_buys w (nI m) = if wV w 0 1 + m ≤ 99 then (nI (wV w 0 1 + m), upv (wV w) 0 1 (wV w 0 1 + m)) else (-3, wV w) := by unfold c_buys; rw [hq]
    rw [hqv]
    have hv1 := hv.2.1
    clear hqv
    refine tt_iload_n d_X_addCrumbs_0 rfl ?_
    refine tt_iconst (v := nI 1) d_X_addCrumbs_1 (by decide) ?_
    refine tn_ic_lt (t := 11) (by omega) (by omega) d_X_addCrumbs_2 (by decide) (fun c_2 => ?_) (fun c_2 => ?_)
    · omega
    · refine tt_iload_n d_X_addCrumbs_5 rfl ?_
      refine tt_bipush (v := nI 99) d_X_addCrumbs_6 (by decide) ?_
      refine tn_ic_le (t := 13) (by omega) (by omega) d_X_addCrumbs_8 (by decide) (fun c_8 => ?_) (fun c_8 => ?_)
      · refine tt_aload_n d_X_addCrumbs_13 rfl ?_
        refine tt_getR d_X_addCrumbs_14 rfl rfl (by decide) rfl rfl ?_
        refine tn_get d_X_addCrumbs_17 rfl rfl (by decide) rfl (h.v 1 (by decide)) ?_
        refine tt_iload_n d_X_addCrumbs_20 rfl ?_
        refine tn_iadd d_X_addCrumbs_21 ?_
        refine tt_bipush (v := nI 99) d_X_addCrumbs_22 (by decide) ?_
        refine tn_ic_le (t := 30) (by omega) (by omega) d_X_addCrumbs_24 (by decide) (fun c_24 => ?_) (fun c_24 => ?_)
        · rw [if_pos (by omega)]
          refine tt_aload_n d_X_addCrumbs_30 rfl ?_
          refine tt_getR d_X_addCrumbs_31 rfl rfl (by decide) rfl rfl ?_
          refine tt_dup d_X_addCrumbs_34 rfl ?_
          refine tn_get d_X_addCrumbs_35 rfl rfl (by decide) rfl (h.v 1 (by decide)) ?_
          refine tt_iload_n d_X_addCrumbs_38 rfl ?_
          refine tn_iadd d_X_addCrumbs_39 ?_
          refine tt_putI d_X_addCrumbs_40 rfl rfl (by decide) rfl (xpok_int rfl) rfl ?_
          refine tt_aload_n d_X_addCrumbs_43 rfl ?_
          refine tt_getR d_X_addCrumbs_44 rfl rfl (by decide) rfl rfl ?_
          refine tn_get d_X_addCrumbs_47 rfl rfl (by decide) rfl (show _ = nI (wV w 0 1 + m) from rfl) ?_
          refine tt_iret rfl d_X_addCrumbs_50 ?_
          exact ⟨rfl, hw.now (Fq.wF rfl) (ST_wF hw.2.1)⟩
        · rw [if_neg (by omega)]
          refine tt_bipush (v := (-3)) d_X_addCrumbs_27 (by decide) ?_
          refine tt_iret rfl d_X_addCrumbs_29 ?_
          have y := hw.same
          exact ⟨rfl, y⟩
      · omega
  · have hqv : c_buys w n = (-1, wV w) := by unfold c_buys; rw [hq]
    rw [hqv]
    refine tt_iload_n d_X_addCrumbs_0 rfl ?_
    refine tt_iconst (v := nI 1) d_X_addCrumbs_1 (by decide) ?_
    refine tt_ic_lt (t := 11) d_X_addCrumbs_2 (by decide) (fun c_2 => ?_) (fun c_2 => ?_)
    · refine tt_iconst (v := (-1)) d_X_addCrumbs_11 (by decide) ?_
      refine tt_iret rfl d_X_addCrumbs_12 ?_
      have y := hw.same
      exact ⟨rfl, y⟩
    · refine tt_iload_n d_X_addCrumbs_5 rfl ?_
      refine tt_bipush (v := nI 99) d_X_addCrumbs_6 (by decide) ?_
      refine tt_ic_le (t := 13) d_X_addCrumbs_8 (by decide) (fun c_8 => ?_) (fun c_8 => ?_)
      · exact (rg_f (a := 1) (b := 99) (by decide) (by decide) hb c_2 c_8).elim
      · refine tt_iconst (v := (-1)) d_X_addCrumbs_11 (by decide) ?_
        refine tt_iret rfl d_X_addCrumbs_12 ?_
        have y := hw.same
        exact ⟨rfl, y⟩

set_option maxHeartbeats 4000000 in
theorem y_buysSome {l : xLa} {d c : Nat} {σ : xs} {w : wv} (ho : okQ w) (hw : YW σ c w) {n : Int32} : TC l M_Y_buysSome (d + 10) [.ref 154, .int n] σ (fun r τ => r = some (.int (c_buys w n).1) ∧ YW τ c (stV w (c_buys w n).2) ∧ YF σ τ ∧ si τ 171 = si σ 171) := by
  show T l M_Y_buysSome (d + 10) 0 _ [] σ _
  refine T_lv (lv2 := [_, _]) rfl ?_
  have h := YQ.rf hw.v
  have hb0 := ho.fb
  have hb8 := ho.n8
  have hv := ho.2.1
  rcases rgN_c n 1 99 with ⟨m, hm1, hm2, hm3, rfl, hq⟩ | ⟨hq, hb⟩
  · have hqv : c_buys w (nI m) = if wV w 0 1 + m ≤ 99 then (nI (wV w 0 1 + m), upv (wV w) 0 1 (wV w 0 1 + m)) else (-3, wV w) := by unfold c_buys; rw [hq]
    rw [hqv]
    have hv1 := hv.2.1
    clear hqv
    refine tt_iload_n d_Y_buysSome_0 rfl ?_
    refine tt_i2l d_Y_buysSome_1 ?_
    refine tt_lconst (v := 1) d_Y_buysSome_2 (by decide) ?_
    refine tt_ldc2_w d_Y_buysSome_3 rfl ?_
    refine tt_callS (y_in (d := d)) cw_Y_in rfl (by omega) d_Y_buysSome_6 rfl rfl (Nat.le_of_ble_eq_true rfl) (Nat.le_of_ble_eq_true rfl) rfl rfl rfl (fun v σ2 q => ?_)
    obtain ⟨rfl, e9⟩ := q
    rw [e9, show Yin (nI m).toInt64 1 99 = nI 1 from Yin_t (a := 1) (b := 99) rfl rfl (by omega) (by omega) (by decide)]
    clear e9
    refine tn_if_ne (t := 14) (by omega) d_Y_buysSome_9 (by decide) (fun c_9 => ?_) (fun c_9 => ?_)
    · refine tt_aload_n d_Y_buysSome_14 rfl ?_
      refine tt_getR d_Y_buysSome_15 rfl rfl (by decide) rfl rfl ?_
      refine tt_bipush (v := nI 34) d_Y_buysSome_18 (by decide) ?_
      refine tn_iald d_Y_buysSome_20 rfl (by decide) (by omega) (h.1.2.1.1.2.2.1) ?_
      refine tt_iload_n d_Y_buysSome_21 rfl ?_
      refine tn_iadd d_Y_buysSome_22 ?_
      refine tt_bipush (v := nI 99) d_Y_buysSome_23 (by decide) ?_
      refine tn_ic_le (t := 31) (by omega) (by omega) d_Y_buysSome_25 (by decide) (fun c_25 => ?_) (fun c_25 => ?_)
      · rw [if_pos (by omega)]
        refine tt_aload_n d_Y_buysSome_31 rfl ?_
        refine tt_getR d_Y_buysSome_32 rfl rfl (by decide) rfl rfl ?_
        refine tt_bipush (v := nI 34) d_Y_buysSome_35 (by decide) ?_
        refine tt_dup2 d_Y_buysSome_37 rfl rfl ?_
        refine tn_iald d_Y_buysSome_38 rfl (by decide) (by omega) (h.1.2.1.1.2.2.1) ?_
        refine tt_iload_n d_Y_buysSome_39 rfl ?_
        refine tn_iadd d_Y_buysSome_40 ?_
        refine tn_iast d_Y_buysSome_41 rfl (by decide) (by omega) ?_
        refine tt_aload_n d_Y_buysSome_42 rfl ?_
        refine tt_getR d_Y_buysSome_43 rfl rfl (by decide) rfl rfl ?_
        refine tt_bipush (v := nI 34) d_Y_buysSome_46 (by decide) ?_
        refine tn_iald d_Y_buysSome_48 rfl (by decide) (by omega) (show _ = nI (wV w 0 1 + m) from by rw [si_wI, if_pos ⟨rfl, rfl⟩]) ?_
        refine tt_iret rfl d_Y_buysSome_49 ?_
        exact ⟨rfl, hw.now (Fq.wI rfl) (SY_01 hw.2.1 hb8)⟩
      · rw [if_neg (by omega)]
        refine tt_bipush (v := (-3)) d_Y_buysSome_28 (by decide) ?_
        refine tt_iret rfl d_Y_buysSome_30 ?_
        have y := hw.same
        exact ⟨rfl, y⟩
    · exact absurd c_9 (by decide)
  · have hqv : c_buys w n = (-1, wV w) := by unfold c_buys; rw [hq]
    rw [hqv]
    refine tt_iload_n d_Y_buysSome_0 rfl ?_
    refine tt_i2l d_Y_buysSome_1 ?_
    refine tt_lconst (v := 1) d_Y_buysSome_2 (by decide) ?_
    refine tt_ldc2_w d_Y_buysSome_3 rfl ?_
    refine tt_callS (y_in (d := d)) cw_Y_in rfl (by omega) d_Y_buysSome_6 rfl rfl (Nat.le_of_ble_eq_true rfl) (Nat.le_of_ble_eq_true rfl) rfl rfl rfl (fun v σ2 q => ?_)
    obtain ⟨rfl, e9⟩ := q
    rw [e9, show Yin n.toInt64 1 99 = nI 0 from Yin_f (a := 1) (b := 99) rfl rfl (by decide) (by decide) hb]
    clear e9
    refine tn_if_ne (t := 14) (by omega) d_Y_buysSome_9 (by decide) (fun c_9 => ?_) (fun c_9 => ?_)
    · exact absurd rfl c_9
    · refine tt_iconst (v := (-1)) d_Y_buysSome_12 (by decide) ?_
      refine tt_iret rfl d_Y_buysSome_13 ?_
      have y := hw.same
      exact ⟨rfl, y⟩

set_option maxHeartbeats 4000000 in
theorem x_turnHold {l : xLa} {d : Nat} {σ : xs} {w : wv} (ho : okQ w) (hw : XW σ w) {n : Int32} : TC l M_X_turnHold (d + 10) [.ref 0, .ref 20, .int n] σ (fun r τ => r = some (.int (c_lets w n).1) ∧ XW τ (stV w (c_lets w n).2) ∧ XF σ τ ∧ K25 σ τ) := by
  show T l M_X_turnHold (d + 10) 0 _ [] σ _
  refine T_lv (lv2 := [_, _, _]) rfl ?_
  have h := XQ.rf hw.v
  have hb0 := ho.fb
  have hb8 := ho.n8
  have hv := ho.2.1
  rcases inN_c n (eN (wE w)) with ⟨m, hm, rfl, hq⟩ | ⟨hq, hb⟩
  · have hqv : c_lets w (nI m) = (nI (pcN (wV w 0 5 ^^^ 2 ^ m)), upv (wV w) 0 5 (wV w 0 5 ^^^ 2 ^ m)) := by unfold c_lets; rw [hq]
    rw [hqv]
    have hx := hx_lt hv.2.2.2.2.2.1 (show m < 8 by omega)
    refine tt_aload_n d_X_turnHold_0 rfl ?_
    refine tt_getR d_X_turnHold_1 rfl rfl (by decide) rfl rfl ?_
    refine tt_iload_n d_X_turnHold_4 rfl ?_
    refine tt_callV (x_School_has (d := d) h.n ho.n8) cw_School_has rfl rfl (by decide) rfl (by omega) d_X_turnHold_5 rfl rfl (Nat.le_of_ble_eq_true rfl) (Nat.le_of_ble_eq_true rfl) rfl rfl rfl (fun v σ2 q => ?_)
    obtain ⟨rfl, e9⟩ := q
    rw [e9, X_in_N hm (by omega)]
    clear e9
    refine tn_if_ne (t := 13) (by omega) d_X_turnHold_8 (by decide) (fun c_8 => ?_) (fun c_8 => ?_)
    · refine tt_aload_n d_X_turnHold_13 rfl ?_
      refine tt_dup d_X_turnHold_14 rfl ?_
      refine tn_get d_X_turnHold_15 rfl rfl (by decide) rfl (h.v 5 (by decide)) ?_
      refine tt_iconst (v := nI 1) d_X_turnHold_18 (by decide) ?_
      refine tt_iload_n d_X_turnHold_19 rfl ?_
      refine tt_ishl d_X_turnHold_20 ?_
      refine tt_top (shl_9 _ (by omega)) ?_
      refine tt_ixor d_X_turnHold_21 ?_
      refine tt_top (xor_N _ _) ?_
      refine tt_putI d_X_turnHold_22 rfl rfl (by decide) rfl (xpok_int rfl) rfl ?_
      refine tt_aload_n d_X_turnHold_25 rfl ?_
      refine tn_get d_X_turnHold_26 rfl rfl (by decide) rfl (show _ = nI (wV w 0 5 ^^^ 2 ^ m) from rfl) ?_
      refine tt_callS (x_bitN (d := d) hx) cw_Integer_bitCount rfl (by omega) d_X_turnHold_29 rfl rfl (Nat.le_of_ble_eq_true rfl) (Nat.le_of_ble_eq_true rfl) rfl rfl rfl (fun v σ2 q => ?_)
      obtain ⟨rfl, e9⟩ := q
      rw [e9]
      clear e9
      refine tt_iret rfl d_X_turnHold_32 ?_
      exact ⟨rfl, hw.now (Fq.wF rfl) (ST_wF hw.2.1)⟩
    · exact absurd c_8 (by decide)
  · have hqv : c_lets w n = (-1, wV w) := by unfold c_lets; rw [hq]
    rw [hqv]
    refine tt_aload_n d_X_turnHold_0 rfl ?_
    refine tt_getR d_X_turnHold_1 rfl rfl (by decide) rfl rfl ?_
    refine tt_iload_n d_X_turnHold_4 rfl ?_
    refine tt_callV (x_School_has (d := d) h.n ho.n8) cw_School_has rfl rfl (by decide) rfl (by omega) d_X_turnHold_5 rfl rfl (Nat.le_of_ble_eq_true rfl) (Nat.le_of_ble_eq_true rfl) rfl rfl rfl (fun v σ2 q => ?_)
    obtain ⟨rfl, e9⟩ := q
    rw [e9, X_in_none hb]
    clear e9
    refine tn_if_ne (t := 13) (by omega) d_X_turnHold_8 (by decide) (fun c_8 => ?_) (fun c_8 => ?_)
    · exact absurd rfl c_8
    · refine tt_iconst (v := (-1)) d_X_turnHold_11 (by decide) ?_
      refine tt_iret rfl d_X_turnHold_12 ?_
      have y := hw.same
      exact ⟨rfl, y⟩

set_option maxHeartbeats 4000000 in
theorem y_lets {l : xLa} {d c : Nat} {σ : xs} {w : wv} (ho : okQ w) (hw : YW σ c w) {n : Int32} : TC l M_Y_letsOne (d + 10) [.ref 154, .ref 160, .int n] σ (fun r τ => r = some (.int (c_lets w n).1) ∧ YW τ c (stV w (c_lets w n).2) ∧ YF σ τ ∧ si τ 171 = si σ 171) := by
  show T l M_Y_letsOne (d + 10) 0 _ [] σ _
  refine T_lv (lv2 := [_, _, _]) rfl ?_
  have h := YQ.rf hw.v
  have hb0 := ho.fb
  have hb8 := ho.n8
  have hv := ho.2.1
  rcases inN_c n (eN (wE w)) with ⟨m, hm, rfl, hq⟩ | ⟨hq, hb⟩
  · have hqv : c_lets w (nI m) = (nI (pcN (wV w 0 5 ^^^ 2 ^ m)), upv (wV w) 0 5 (wV w 0 5 ^^^ 2 ^ m)) := by unfold c_lets; rw [hq]
    rw [hqv]
    have hx := hx_lt hv.2.2.2.2.2.1 (show m < 8 by omega)
    refine T.mono (y_letsOne (d := d + 6) (σ := σ) isY_160 ho.1 hv hw.1.1.1.2.2.1 hw.2.1 hm) ?_
    rintro r υ ⟨rfl, rfl⟩
    exact ⟨rfl, hw.now (Fq.wI rfl) (SY_05 hw.2.1 hb8)⟩
  · have hqv : c_lets w n = (-1, wV w) := by unfold c_lets; rw [hq]
    rw [hqv]
    refine tt_aload_n d_Y_letsOne_0 rfl ?_
    refine tt_iload_n d_Y_letsOne_1 rfl ?_
    refine tt_callV (y_isFish (d := d) h.e.1.2.2.1 ho.n8) cw_Y_isFish rfl rfl (by decide) rfl (by omega) d_Y_letsOne_2 rfl rfl (Nat.le_of_ble_eq_true rfl) (Nat.le_of_ble_eq_true rfl) rfl rfl rfl (fun v σ2 q => ?_)
    obtain ⟨rfl, e9⟩ := q
    rw [e9, X_in_none hb]
    clear e9
    refine tn_if_ne (t := 10) (by omega) d_Y_letsOne_5 (by decide) (fun c_5 => ?_) (fun c_5 => ?_)
    · exact absurd rfl c_5
    · refine tt_iconst (v := (-1)) d_Y_letsOne_8 (by decide) ?_
      refine tt_iret rfl d_Y_letsOne_9 ?_
      have y := hw.same
      exact ⟨rfl, y⟩

set_option maxHeartbeats 4000000 in
theorem xc_buys {l : xLa} {d : Nat} {σ : xs} {w : wv} (ho : okQ w) (hw : XW σ w) (hl : (wU w).length ≤ 15) {n : Int32} : TC l M_X_buys (d + 30) [.ref 0, .int n] σ (fun r τ => r = some (.int (a_act w (c_buys w n)).1) ∧ XW τ (a_act w (c_buys w n)).2 ∧ XF σ τ) := by
  show T l M_X_buys (d + 30) 0 _ [] σ _
  refine T_lv (lv2 := [_, _]) rfl ?_
  have h := XQ.rf hw.v
  have hd0 := hw.2.2.2.1
  have hb0 := ho.fb
  have hb8 := ho.n8
  refine tt_aload_n d_X_buys_0 rfl ?_
  refine tt_getR d_X_buys_1 rfl rfl (by decide) rfl rfl ?_
  refine tt_aload_n d_X_buys_4 rfl ?_
  refine tt_getR d_X_buys_5 rfl rfl (by decide) rfl rfl ?_
  refine tt_callV (x_before (d := d) hw) cw_State_copy rfl rfl (by decide) rfl (by omega) d_X_buys_8 rfl rfl (Nat.le_of_ble_eq_true rfl) (Nat.le_of_ble_eq_true rfl) rfl rfl rfl (fun v σ2 q => ?_)
  obtain ⟨rfl, k1, k2, k3⟩ := q
  refine tt_aload_n d_X_buys_11 rfl ?_
  refine tt_aload_n d_X_buys_12 rfl ?_
  refine tt_iload_n d_X_buys_13 rfl ?_
  refine tt_callV (x_addCrumbs (d := d) ho k1) cw_X_addCrumbs rfl rfl (by decide) rfl (by omega) d_X_buys_14 rfl rfl (Nat.le_of_ble_eq_true rfl) (Nat.le_of_ble_eq_true rfl) rfl rfl rfl (fun v σ2 q => ?_)
  obtain ⟨rfl, k4, k5, k6⟩ := q
  refine tt_callV (x_noted (d := d) (w := stV w (c_buys w n).2) hl k4 (k6 _ k3)) cw_X_noted rfl rfl (by decide) rfl (by omega) d_X_buys_17 rfl rfl (Nat.le_of_ble_eq_true rfl) (Nat.le_of_ble_eq_true rfl) rfl rfl rfl (fun v σ2 q => ?_)
  obtain ⟨rfl, k7, k8⟩ := q
  refine tt_iret rfl d_X_buys_20 ?_
  exact ⟨rfl, k7, k2.tr (k5.tr k8)⟩

set_option maxHeartbeats 4000000 in
theorem yc_buys {l : xLa} {d c : Nat} {σ : xs} {w : wv} (ho : okQ w) (hw : YW σ c w) (hl : (wU w).length ≤ 15) {n : Int32} : TC l M_Y_buys (d + 150) [.ref 154, .int n] σ (fun r τ => r = some (.int (a_act w (c_buys w n)).1) ∧ YW τ c (a_act w (c_buys w n)).2 ∧ YF σ τ) := by
  show T l M_Y_buys (d + 150) 0 _ [] σ _
  refine T_lv (lv2 := [_, _]) rfl ?_
  have h := YQ.rf hw.v
  have hd0 := hw.2.2.2.1
  have hb0 := ho.fb
  have hb8 := ho.n8
  refine tt_aload_n d_Y_buys_0 rfl ?_
  refine tt_iconst (v := nI 0) d_Y_buys_1 (by decide) ?_
  refine tt_putI d_Y_buys_2 rfl rfl (by decide) rfl (xpok_int rfl) rfl ?_
  replace h := h.thr (x := nI 0)
  replace hd0 := hd0.thr (x := nI 0)
  refine tt_aload_n d_Y_buys_5 rfl ?_
  refine tt_callV (y_putsBy (d := d) hb8 hl (h.ww hd0)) cw_Y_putsBy rfl rfl (by decide) rfl (by omega) d_Y_buys_6 rfl rfl (Nat.le_of_ble_eq_true rfl) (Nat.le_of_ble_eq_true rfl) rfl rfl rfl (fun v σ2 q => ?_)
  obtain ⟨rfl, k1, k2, k3⟩ := q
  refine tt_aload_n d_Y_buys_9 rfl ?_
  refine tt_aload_n d_Y_buys_10 rfl ?_
  refine tt_iload_n d_Y_buys_11 rfl ?_
  refine tt_callV (y_buysSome (d := d) ho k1) cw_Y_buysSome rfl rfl (by decide) rfl (by omega) d_Y_buys_12 rfl rfl (Nat.le_of_ble_eq_true rfl) (Nat.le_of_ble_eq_true rfl) rfl rfl rfl (fun v σ2 q => ?_)
  obtain ⟨rfl, k4, k5, k6⟩ := q
  refine tt_callV (y_counted (d := d) (w := stV w (c_buys w n).2) hb8 hl k4 (by rw [k6]; exact k3)) cw_Y_counted rfl rfl (by decide) rfl (by omega) d_Y_buys_15 rfl rfl (Nat.le_of_ble_eq_true rfl) (Nat.le_of_ble_eq_true rfl) rfl rfl rfl (fun v σ2 q => ?_)
  obtain ⟨rfl, k7, k8⟩ := q
  refine tt_iret rfl d_Y_buys_18 ?_
  exact ⟨rfl, k7, h.2.tr (k2.tr (k5.tr k8))⟩

set_option maxHeartbeats 4000000 in
theorem xc_letsGo {l : xLa} {d : Nat} {σ : xs} {w : wv} (ho : okQ w) (hw : XW σ w) (hl : (wU w).length ≤ 15) {n : Int32} : TC l M_X_letsGo (d + 30) [.ref 0, .int n] σ (fun r τ => r = some (.int (a_act w (c_lets w n)).1) ∧ XW τ (a_act w (c_lets w n)).2 ∧ XF σ τ) := by
  show T l M_X_letsGo (d + 30) 0 _ [] σ _
  refine T_lv (lv2 := [_, _]) rfl ?_
  have h := XQ.rf hw.v
  have hd0 := hw.2.2.2.1
  have hb0 := ho.fb
  have hb8 := ho.n8
  refine tt_aload_n d_X_letsGo_0 rfl ?_
  refine tt_getR d_X_letsGo_1 rfl rfl (by decide) rfl rfl ?_
  refine tt_aload_n d_X_letsGo_4 rfl ?_
  refine tt_getR d_X_letsGo_5 rfl rfl (by decide) rfl rfl ?_
  refine tt_callV (x_before (d := d) hw) cw_State_copy rfl rfl (by decide) rfl (by omega) d_X_letsGo_8 rfl rfl (Nat.le_of_ble_eq_true rfl) (Nat.le_of_ble_eq_true rfl) rfl rfl rfl (fun v σ2 q => ?_)
  obtain ⟨rfl, k1, k2, k3⟩ := q
  refine tt_aload_n d_X_letsGo_11 rfl ?_
  refine tt_aload_n d_X_letsGo_12 rfl ?_
  refine tt_aload_n d_X_letsGo_13 rfl ?_
  refine tt_getR d_X_letsGo_14 rfl rfl (by decide) rfl rfl ?_
  refine tt_iload_n d_X_letsGo_17 rfl ?_
  refine tt_callV (x_turnHold (d := d) ho k1) cw_X_turnHold rfl rfl (by decide) rfl (by omega) d_X_letsGo_18 rfl rfl (Nat.le_of_ble_eq_true rfl) (Nat.le_of_ble_eq_true rfl) rfl rfl rfl (fun v σ2 q => ?_)
  obtain ⟨rfl, k4, k5, k6⟩ := q
  refine tt_callV (x_noted (d := d) (w := stV w (c_lets w n).2) hl k4 (k6 _ k3)) cw_X_noted rfl rfl (by decide) rfl (by omega) d_X_letsGo_21 rfl rfl (Nat.le_of_ble_eq_true rfl) (Nat.le_of_ble_eq_true rfl) rfl rfl rfl (fun v σ2 q => ?_)
  obtain ⟨rfl, k7, k8⟩ := q
  refine tt_iret rfl d_X_letsGo_24 ?_
  exact ⟨rfl, k7, k2.tr (k5.tr k8)⟩

set_option maxHeartbeats 4000000 in
theorem yc_letsGo {l : xLa} {d c : Nat} {σ : xs} {w : wv} (ho : okQ w) (hw : YW σ c w) (hl : (wU w).length ≤ 15) {n : Int32} : TC l M_Y_letsGo (d + 150) [.ref 154, .int n] σ (fun r τ => r = some (.int (a_act w (c_lets w n)).1) ∧ YW τ c (a_act w (c_lets w n)).2 ∧ YF σ τ) := by
  show T l M_Y_letsGo (d + 150) 0 _ [] σ _
  refine T_lv (lv2 := [_, _]) rfl ?_
  have h := YQ.rf hw.v
  have hd0 := hw.2.2.2.1
  have hb0 := ho.fb
  have hb8 := ho.n8
  refine tt_aload_n d_Y_letsGo_0 rfl ?_
  refine tt_iconst (v := nI 0) d_Y_letsGo_1 (by decide) ?_
  refine tt_putI d_Y_letsGo_2 rfl rfl (by decide) rfl (xpok_int rfl) rfl ?_
  replace h := h.thr (x := nI 0)
  replace hd0 := hd0.thr (x := nI 0)
  refine tt_aload_n d_Y_letsGo_5 rfl ?_
  refine tt_callV (y_putsBy (d := d) hb8 hl (h.ww hd0)) cw_Y_putsBy rfl rfl (by decide) rfl (by omega) d_Y_letsGo_6 rfl rfl (Nat.le_of_ble_eq_true rfl) (Nat.le_of_ble_eq_true rfl) rfl rfl rfl (fun v σ2 q => ?_)
  obtain ⟨rfl, k1, k2, k3⟩ := q
  refine tt_aload_n d_Y_letsGo_9 rfl ?_
  refine tt_aload_n d_Y_letsGo_10 rfl ?_
  refine tt_aload_n d_Y_letsGo_11 rfl ?_
  refine tt_getR d_Y_letsGo_12 rfl rfl (by decide) rfl rfl ?_
  refine tt_iload_n d_Y_letsGo_15 rfl ?_
  refine tt_callV (y_lets (d := d) ho k1) cw_Y_letsOne rfl rfl (by decide) rfl (by omega) d_Y_letsGo_16 rfl rfl (Nat.le_of_ble_eq_true rfl) (Nat.le_of_ble_eq_true rfl) rfl rfl rfl (fun v σ2 q => ?_)
  obtain ⟨rfl, k4, k5, k6⟩ := q
  refine tt_callV (y_counted (d := d) (w := stV w (c_lets w n).2) hb8 hl k4 (by rw [k6]; exact k3)) cw_Y_counted rfl rfl (by decide) rfl (by omega) d_Y_letsGo_19 rfl rfl (Nat.le_of_ble_eq_true rfl) (Nat.le_of_ble_eq_true rfl) rfl rfl rfl (fun v σ2 q => ?_)
  obtain ⟨rfl, k7, k8⟩ := q
  refine tt_iret rfl d_Y_letsGo_22 ?_
  exact ⟨rfl, k7, h.2.tr (k2.tr (k5.tr k8))⟩

